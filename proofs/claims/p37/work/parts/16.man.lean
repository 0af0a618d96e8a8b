/-! what single methods need -/
theorem gall_nk (k : Nat) : (gall k).2.2 = false := by
  unfold gall gst
  repeat' split
  all_goals rfl
theorem gst_nk (k : Nat) : (gst k).2.2 = false := by
  unfold gst
  split <;> rfl
theorem gall_mod {a b : Nat} (h : a % 246 = b % 246) : gall a = gall b := by unfold gall; rw [h]
theorem Ok.cp {G : Gm} {v : Mv} {w : Mw} (h : Ok G v w) {a a2 t t2 n n2 : Nat} {g g2 : Nat → Int × Int × Bool} (hG : G a = some (.inr (t, n, .inl g))) (hG2 : G a2 = some (.inr (t2, n2, .inl g2))) {i j x : Int32} (ex : x = v a2 j.toNatClampNeg) (hj : vp_in j n2) (he : g i.toNatClampNeg = g2 j.toNatClampNeg) : Ok G (stv v a i.toNatClampNeg x) w := by
  refine h.st hG (fun r hr => ?_)
  have hlt : j.toNatClampNeg < n2 := Nat.not_le.mp fun q => hj (Or.inr q)
  have hr : (if i.toNatClampNeg < n then some (g i.toNatClampNeg) else none) = some r := hr
  split at hr
  · have hr := Option.some.inj hr
    rw [← hr, ex, he]
    exact h.1 a2 _ hG2 _ (g2 j.toNatClampNeg) (by show (if _ then _ else _) = _; rw [if_pos hlt])
  · cases hr
theorem Kp.cp {G : Gm} {v0 v : Mv} (h : Kp G v0 v) {a t n : Nat} {g : Nat → Int × Int × Bool} (hG : G a = some (.inr (t, n, .inl g))) {i x : Int32} (hn : ∀ k, (g k).2.2 = false) : Kp G v0 (stv v a i.toNatClampNeg x) := by
  refine h.st hG (fun lo hi hr => ?_)
  have hr : (if i.toNatClampNeg < n then some (g i.toNatClampNeg) else none) = some (lo, hi, true) := hr
  split at hr
  · have hr := Option.some.inj hr
    have := hn i.toNatClampNeg
    rw [hr] at this
    cases this
  · cases hr
theorem ix_le {k : Int32} {K : Int} (hk : Bd k 0 K) (n : Nat) (h : K < (n : Int)) : k.toNatClampNeg < n := by
  obtain ⟨h1, h2⟩ := hk
  show k.toInt.toNat < n
  omega
theorem ix_add {i A k : Int32} {a K : Int} (e : i = A + k) (hA : Bd A a a) (hk : Bd k 0 K) (hs : 0 ≤ a ∧ a + K ≤ 2000) : i.toNatClampNeg = a.toNat + k.toNatClampNeg := by
  obtain ⟨h1, h2⟩ := hA; obtain ⟨h3, h4⟩ := hk
  show i.toInt.toNat = a.toNat + k.toInt.toNat
  rw [e, fb_addI (by omega) (by omega)]
  omega
theorem ix_u {i y z u k : Int32} (ez : z = 16 * u) (ey : y = 118 + z) (ei : i = y + k) (hu : Bd u 0 7) (hk : Bd k 0 15) : i.toNatClampNeg = 118 + 16 * u.toNatClampNeg + k.toNatClampNeg := by
  obtain ⟨h1, h2⟩ := hu; obtain ⟨h3, h4⟩ := hk
  have e16 : (16 : Int32).toInt = 16 := by decide
  have e118 : (118 : Int32).toInt = 118 := by decide
  have z1 : z.toInt = 16 * u.toInt := by rw [ez, fb_mulI (by rw [e16]; omega) (by rw [e16]; omega), e16]
  have y1 : y.toInt = 118 + z.toInt := by rw [ey, fb_addI (by rw [e118]; omega) (by rw [e118]; omega), e118]
  have i1 : i.toInt = y.toInt + k.toInt := by rw [ei, fb_addI (by omega) (by omega)]
  show i.toInt.toNat = 118 + 16 * u.toInt.toNat + k.toInt.toNat
  omega
theorem tb_take : ∀ m, m < 16 → gst m = gall (34 + m) := by decide +kernel
theorem tb_k1 : ∀ m, m < 112 → gall (118 + m) = gall (134 + m) := by decide +kernel
theorem tb_k2 : ∀ u, u < 8 → ∀ m, m < 16 → gall (118 + 16 * u + m) = gall (34 + m) := by decide +kernel
def Row (x : Int32) : Prop := x.toInt = 0 ∨ x.toInt = 246 ∨ x.toInt = 492 ∨ x.toInt = 738
theorem Row.lit0 : Row 0 := Or.inl (by decide)
theorem Row.lit738 : Row 738 := Or.inr (Or.inr (Or.inr (by decide)))
theorem Row.of {x y i : Int32} (e : x = 246 * y) (e2 : y = 1 + i) (hi : Bd i 0 1) : Row x := by
  obtain ⟨h1, h2⟩ := hi
  have e1 : (1 : Int32).toInt = 1 := by decide
  have e246 : (246 : Int32).toInt = 246 := by decide
  have y1 : y.toInt = 1 + i.toInt := by rw [e2, fb_addI (by rw [e1]; omega) (by rw [e1]; omega), e1]
  have x1 : x.toInt = 246 * y.toInt := by rw [e, fb_mulI (by rw [e246]; omega) (by rw [e246]; omega), e246]
  unfold Row
  omega
theorem Row.same {x y k i j : Int32} (hx : Row x) (hy : Row y) (ei : i = x + k) (ej : j = y + k) (hk : Bd k 0 245) : gall i.toNatClampNeg = gall j.toNatClampNeg := by
  obtain ⟨h3, h4⟩ := hk
  unfold Row at hx hy
  have i1 : i.toInt = x.toInt + k.toInt := by rw [ei, fb_addI (by omega) (by omega)]
  have j1 : j.toInt = y.toInt + k.toInt := by rw [ej, fb_addI (by omega) (by omega)]
  apply gall_mod
  show i.toInt.toNat % 246 = j.toInt.toNat % 246
  omega
