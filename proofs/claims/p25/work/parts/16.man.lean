/-! what single methods need -/
theorem gst_nk (k : Nat) : (gst k).2.2 = false := by
  unfold gst
  split <;> rfl
theorem gall_mod {a b : Nat} (h : a % 246 = b % 246) : gall a = gall b := by unfold gall; rw [h]
theorem Ok.cp {G : Gm} {v : Mv} {w : Mw} (h : Ok G v w) {a a2 t t2 n n2 : Nat} {g g2 : Nat → Int × Int × Bool} (hG : G a = some (.inr (t, n, .inl g))) (hG2 : G a2 = some (.inr (t2, n2, .inl g2))) {i j x : Int32} (ex : x = v a2 j.toNatClampNeg) (hj : vp_in j n2) (he : g i.toNatClampNeg = g2 j.toNatClampNeg) : Ok G (stv v a i.toNatClampNeg x) w := by
  refine h.st hG (fun r hr => ?_)
  have hlt : j.toNatClampNeg < n2 := Nat.not_le.mp fun q => hj (Or.inr q)
  have hr : (if i.toNatClampNeg < n then some (g i.toNatClampNeg) else none) = some r := hr
  split at hr
  · have hr := Option.some.inj hr
    rw [← hr, ex, he]
    exact h.1 a2 _ hG2 _ (g2 j.toNatClampNeg) (by show (if _ then _ else _) = _; rw [if_pos hlt])
  · cases hr
theorem Kp.cp {G : Gm} {v0 v : Mv} (h : Kp G v0 v) {a t n : Nat} {g : Nat → Int × Int × Bool} (hG : G a = some (.inr (t, n, .inl g))) {i x : Int32} (hn : ∀ k, (g k).2.2 = false) : Kp G v0 (stv v a i.toNatClampNeg x) := by
  refine h.st hG (fun lo hi hr => ?_)
  have hr : (if i.toNatClampNeg < n then some (g i.toNatClampNeg) else none) = some (lo, hi, true) := hr
  split at hr
  · have hr := Option.some.inj hr
    have := hn i.toNatClampNeg
    rw [hr] at this
    cases this
  · cases hr
theorem Kp.cpi {G : Gm} {v0 v : Mv} (h : Kp G v0 v) {a t n : Nat} {g : Nat → Int × Int × Bool} (hG : G a = some (.inr (t, n, .inl g))) {i x : Int32} (hn : (g i.toNatClampNeg).2.2 = false) : Kp G v0 (stv v a i.toNatClampNeg x) := by
  refine h.st hG (fun lo hi hr => ?_)
  have hr : (if i.toNatClampNeg < n then some (g i.toNatClampNeg) else none) = some (lo, hi, true) := hr
  split at hr
  · have hr := Option.some.inj hr
    rw [hr] at hn
    cases hn
  · cases hr
theorem tb_n1 : ∀ m, m < 112 → (gall (118 + m)).2.2 = false := by decide +kernel
theorem tb_n2 : ∀ u, u < 8 → ∀ m, m < 16 → (gall (118 + 16 * u + m)).2.2 = false := by decide +kernel
theorem tb_n3 : ∀ m, m < 16 → (gall (34 + m)).2.2 = false := by decide +kernel
theorem ix_le {k : Int32} {K : Int} (hk : Bd k 0 K) (n : Nat) (h : K < (n : Int)) : k.toNatClampNeg < n := by
  obtain ⟨h1, h2⟩ := hk
  show k.toInt.toNat < n
  omega
theorem ix_add {i A k : Int32} {a K : Int} (e : i = A + k) (hA : Bd A a a) (hk : Bd k 0 K) (hs : 0 ≤ a ∧ a + K ≤ 2000) : i.toNatClampNeg = a.toNat + k.toNatClampNeg := by
  obtain ⟨h1, h2⟩ := hA; obtain ⟨h3, h4⟩ := hk
  show i.toInt.toNat = a.toNat + k.toInt.toNat
  rw [e, fb_addI (by omega) (by omega)]
  omega
theorem ix_u {i y z u k : Int32} (ez : z = 16 * u) (ey : y = 118 + z) (ei : i = y + k) (hu : Bd u 0 7) (hk : Bd k 0 15) : i.toNatClampNeg = 118 + 16 * u.toNatClampNeg + k.toNatClampNeg := by
  obtain ⟨h1, h2⟩ := hu; obtain ⟨h3, h4⟩ := hk
  have e16 : (16 : Int32).toInt = 16 := by decide
  have e118 : (118 : Int32).toInt = 118 := by decide
  have z1 : z.toInt = 16 * u.toInt := by rw [ez, fb_mulI (by rw [e16]; omega) (by rw [e16]; omega), e16]
  have y1 : y.toInt = 118 + z.toInt := by rw [ey, fb_addI (by rw [e118]; omega) (by rw [e118]; omega), e118]
  have i1 : i.toInt = y.toInt + k.toInt := by rw [ei, fb_addI (by omega) (by omega)]
  show i.toInt.toNat = 118 + 16 * u.toInt.toNat + k.toInt.toNat
  omega
theorem tb_take : ∀ m, m < 16 → gst m = gall (34 + m) := by decide +kernel
theorem tb_k1 : ∀ m, m < 112 → gall (118 + m) = gall (134 + m) := by decide +kernel
theorem tb_k2 : ∀ u, u < 8 → ∀ m, m < 16 → gall (118 + 16 * u + m) = gall (34 + m) := by decide +kernel
def Row (x : Int32) : Prop := x.toInt = 0 ∨ x.toInt = 246 ∨ x.toInt = 492 ∨ x.toInt = 738
theorem Row.lit0 : Row 0 := Or.inl (by decide)
theorem Row.lit738 : Row 738 := Or.inr (Or.inr (Or.inr (by decide)))
theorem Row.of {x y i : Int32} (e : x = 246 * y) (e2 : y = 1 + i) (hi : Bd i 0 1) : Row x := by
  obtain ⟨h1, h2⟩ := hi
  have e1 : (1 : Int32).toInt = 1 := by decide
  have e246 : (246 : Int32).toInt = 246 := by decide
  have y1 : y.toInt = 1 + i.toInt := by rw [e2, fb_addI (by rw [e1]; omega) (by rw [e1]; omega), e1]
  have x1 : x.toInt = 246 * y.toInt := by rw [e, fb_mulI (by rw [e246]; omega) (by rw [e246]; omega), e246]
  unfold Row
  omega
theorem Row.same {x y k i j : Int32} (hx : Row x) (hy : Row y) (ei : i = x + k) (ej : j = y + k) (hk : Bd k 0 245) : gall i.toNatClampNeg = gall j.toNatClampNeg := by
  obtain ⟨h3, h4⟩ := hk
  unfold Row at hx hy
  have i1 : i.toInt = x.toInt + k.toInt := by rw [ei, fb_addI (by omega) (by omega)]
  have j1 : j.toInt = y.toInt + k.toInt := by rw [ej, fb_addI (by omega) (by omega)]
  apply gall_mod
  show i.toInt.toNat % 246 = j.toInt.toNat % 246
  omega
theorem lrem_m (x y : Int64) : x - (x / y) * y = x % y := by
  apply Int64.toInt_inj.mp
  have h1 := Int64.le_toInt (x % y)
  have h2 := Int64.toInt_lt (x % y)
  rw [Int64.toInt_sub, Int64.toInt_mul, Int64.toInt_div, Int.bmod_mul_bmod, Int.sub_bmod_bmod, Int.mul_comm (x.toInt.tdiv y.toInt), ← Int.tmod_def, ← Int64.toInt_mod]
  exact Int.bmod_eq_of_le_mul_two (by omega) (by omega)
theorem l_nz {b : Int64} (h : ¬ b = 0) : b.toInt ≠ 0 := fun q => h (Int64.toInt_inj.mp (by rw [q]; rfl))
theorem lrem_lt {a b r : Int64} (e : r = a - a / b * b) (hb : ¬ b = 0) : r.toInt.natAbs < b.toInt.natAbs := by
  rw [e, lrem_m, Int64.toInt_mod, Int.natAbs_tmod]
  exact Nat.mod_lt _ (by have := l_nz hb; omega)
theorem p10_nz {y : Int64} {m : Nat} (h : y.toInt = 10 ^ m) : ¬ y = 0 := fun q => by
  rw [q] at h
  have h2 : (0 : Int) < 10 ^ m := Int.pow_pos (by decide)
  have h3 : (0 : Int64).toInt = 0 := by decide
  omega
theorem p10_le {m : Nat} (h : m ≤ 6) : (10 : Int) ^ m ≤ 1000000 := by
  have : ∀ m : Nat, m < 7 → (10 : Int) ^ m ≤ 1000000 := by decide
  exact this m (by omega)
theorem p10 {y z : Int64} {k k' : Int32} (hd : y.toInt = 10 ^ k.toInt.toNat) (e : z = y * 10) (ek : k' = k + 1) (bk : Bd k 0 5) : z.toInt = 10 ^ k'.toInt.toNat := by
  obtain ⟨h1, h2⟩ := bk
  have e1 : (1 : Int32).toInt = 1 := by decide
  have e10 : (10 : Int64).toInt = 10 := by decide
  have k1 : k'.toInt = k.toInt + 1 := by rw [ek, fb_addI (by rw [e1]; omega) (by rw [e1]; omega), e1]
  have h3 := p10_le (m := k.toInt.toNat) (by omega)
  have h4 : (0 : Int) < 10 ^ k.toInt.toNat := Int.pow_pos (by decide)
  rw [e, fb_mulL (by rw [e10]; omega) (by rw [e10]; omega), e10, hd, k1, show (k.toInt + 1).toNat = k.toInt.toNat + 1 by omega, Int.pow_succ]
theorem p10_0 : (1 : Int64).toInt = 10 ^ (0 : Int32).toInt.toNat := by decide
/-- what here() tells -/
def hF (G : Gm) (v : Mv) (a : Nat) : Int32 := if v a 6 < v a 5 then v (rf G a 4) (v a 6).toNatClampNeg else -1
theorem Bd.m1 {x : Int32} (h : Bd x (-1) (-1)) : x = -1 := Int32.toInt_inj.mp (by rw [show x.toInt = -1 by obtain ⟨h1, h2⟩ := h; omega]; decide)
/-- a step of the reading: the place goes on, or the end is reached -/
def Ps (a : Nat) (v v' : Mv) : Prop := (v a 6).toInt ≤ (v' a 6).toInt ∧ (v' a 8 = 8 ∨ (v a 6).toInt < (v' a 6).toInt)
def Pg (a : Nat) (v v' : Mv) : Prop := (v a 6).toInt ≤ (v' a 6).toInt ∧ (v' a 8 = 8 ∨ (v a 6).toInt < (v' a 6).toInt ∨ (v' a 6 = v a 6 ∧ v' a 8 = v a 8))
theorem Pg.rf {a : Nat} {v : Mv} : Pg a v v := ⟨Int.le_refl _, Or.inr (Or.inr ⟨rfl, rfl⟩)⟩
theorem Ps.g {a : Nat} {v v' : Mv} (h : Ps a v v') : Pg a v v' := ⟨h.1, h.2.imp id Or.inl⟩
theorem Pg.tr {a : Nat} {v v1 v2 : Mv} (h : Pg a v v1) (h2 : Pg a v1 v2) : Pg a v v2 := by
  refine ⟨Int.le_trans h.1 h2.1, ?_⟩
  rcases h2.2 with q | q | ⟨q1, q2⟩
  · exact Or.inl q
  · exact Or.inr (Or.inl (Int.lt_of_le_of_lt h.1 q))
  · rw [q1, q2]; exact h.2
theorem Ps.tr {a : Nat} {v v1 v2 : Mv} (h : Ps a v v1) (h2 : Pg a v1 v2) : Ps a v v2 := by
  refine ⟨Int.le_trans h.1 h2.1, ?_⟩
  rcases h2.2 with q | q | ⟨q1, q2⟩
  · exact Or.inl q
  · exact Or.inr (Int.lt_of_le_of_lt h.1 q)
  · rw [q1, q2]; exact h.2
theorem Pg.same {a : Nat} {v v1 v2 : Mv} (h : Pg a v v1) (h6 : v2 a 6 = v1 a 6) (h8 : v2 a 8 = v1 a 8) : Pg a v v2 := by
  unfold Pg at *
  rw [h6, h8]
  exact h
theorem at_inc {x z : Int32} {A : Int} (h : A ≤ x.toInt) (e : z = x + 1) {a b : Int} (hx : Bd x a b) (hb : b ≤ 1000 := by decide) (ha : 0 ≤ a := by decide) : A < z.toInt := by
  obtain ⟨h1, h2⟩ := hx
  have e1 : (1 : Int32).toInt = 1 := by decide
  rw [e, fb_addI (by rw [e1]; omega) (by rw [e1]; omega), e1]
  omega
theorem Bd.suby {x y z : Int32} {a b c d n : Int} (e : z = x - y) (hx : Bd x a b) (hy : Bd y c d) (hz : Bd z n n) (lo hi : Int) (hs : I0 ≤ a - d ∧ b - c ≤ I1 ∧ (lo ≤ a - n ∨ lo ≤ c) ∧ (b - n ≤ hi ∨ d ≤ hi)) : Bd y lo hi := by
  obtain ⟨h1, h2⟩ := hx; obtain ⟨h3, h4⟩ := hy; obtain ⟨h5, h6⟩ := hz; obtain ⟨s1, s2, s3, s4⟩ := hs
  unfold I0 at s1; unfold I1 at s2
  have e2 : z.toInt = x.toInt - y.toInt := by rw [e, fb_subI (by omega) (by omega)]
  unfold Bd
  omega
