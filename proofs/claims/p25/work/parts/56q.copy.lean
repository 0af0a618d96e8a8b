/-! PURE THEORY 10: a world copied to another -/
section CW
variable {G : Gm} {w : Mw}
theorem x2_loop {m b x : Nat} (h1 : x ≠ m) (h2 : x ≠ rf G m 0) (h3 : x ≠ rf G m 1) : ∀ (n k : Nat) (v : Mv), k ≤ 7 → 7 - k < n → K_X2_copyFrom_2 G w m b n v (nI k) x = v x := by
  intro n
  induction n with
  | zero => intro k v _ h; omega
  | succ n ih =>
    intro k v hk hf
    rw [K_X2_copyFrom_2]
    by_cases c : (7 : Int32) ≤ nI k
    · rw [if_pos c, stv_row h1, stv_row h1]
    · have hlt : k < 7 := Nat.not_le.mp fun z => c ((le_nI 7 (by decide) (by omega)).mpr z)
      rw [if_neg c, nI_1, ih (k + 1) _ (by omega) (by omega), stv_row h3, stv_row h2]
theorem x2_row {m b x : Nat} {v : Mv} (h1 : x ≠ m) (h2 : x ≠ rf G m 0) (h3 : x ≠ rf G m 1) : F_X2_copyFrom G w v m b x = v x := x2_loop (w := w) h1 h2 h3 8 0 v (by omega) (by omega)
theorem x4_loop5 {h b s : Nat} (hne : h ≠ rf G h 1) (hb : rf G b 1 ≠ rf G h 1) (hs : s ≤ 15) : ∀ (n k : Nat) (v : Mv), v h 2 = nI s → k ≤ 4 * s → 4 * s - k < n → (∀ x, x ≠ rf G h 1 → K_X4_copyFrom_5_10 G w h b n v (nI k) x = v x) ∧ ∀ j, K_X4_copyFrom_5_10 G w h b n v (nI k) (rf G h 1) j = if k ≤ j ∧ j < 4 * s then v (rf G b 1) j else v (rf G h 1) j := by
  intro n
  induction n with
  | zero => intro k v _ _ h; omega
  | succ n ih =>
    intro k v hv hk hf
    have e4 : ((4 : Int32) * nI s).toInt = (4 * s : Nat) := by
      have e := nI_toInt (n := s) (by omega)
      have e2 : (4 : Int32).toInt = 4 := by decide
      rw [fb_mulI (by rw [e, e2]; omega) (by rw [e, e2]; omega), e, e2]
      omega
    rw [K_X4_copyFrom_5_10, hv]
    by_cases c : (4 : Int32) * nI s ≤ nI k
    · have := (le_nI (4 * s) e4 (by omega)).mp c
      rw [if_pos c]
      exact ⟨fun _ _ => rfl, fun j => (if_neg (by omega)).symm⟩
    · have hlt : k < 4 * s := Nat.not_le.mp fun z => c ((le_nI (4 * s) e4 (by omega)).mpr z)
      rw [if_neg c, nI_1, show Int32.toNatClampNeg (nI k) = k from nn_nI (by omega)]
      obtain ⟨r1, r2⟩ := ih (k + 1) (stv v (rf G h 1) k (v (rf G b 1) k)) (by rw [stv_a hne]; exact hv) (by omega) (by omega)
      refine ⟨fun x hx => (r1 x hx).trans (stv_row hx), fun j => ?_⟩
      rw [r2 j]
      by_cases e : j = k
      · subst e
        rw [if_neg (by omega), stv_s, if_pos (by omega)]
      · by_cases e2 : k ≤ j ∧ j < 4 * s
        · rw [if_pos (by omega), if_pos e2, stv_a hb]
        · rw [if_neg (by omega), if_neg e2, stv_k e]
theorem x4_ok5 {h b : Nat} {v : Mv} (hne : h ≠ rf G h 1) (hb : rf G b 1 ≠ rf G h 1) (hb2 : rf G b 1 ≠ h) (hs : Bd (v b 2) 0 15) : (∀ x, x ≠ h → x ≠ rf G h 1 → F_X4_copyFrom_5 G w v h b x = v x) ∧ (F_X4_copyFrom_5 G w v h b) h 2 = v b 2 ∧ ∀ j, j < 4 * nn (v b 2) → (F_X4_copyFrom_5 G w v h b) (rf G h 1) j = v (rf G b 1) j := by
  obtain ⟨s, hs1, hs2⟩ := bd_nI (n := 15) hs
  obtain ⟨r1, r2⟩ := x4_loop5 (w := w) hne hb hs1 61 0 (stv v h 2 (v b 2)) (by rw [stv_s]; exact hs2) (by omega) (by omega)
  have en : nn (v b 2) = s := by rw [hs2]; exact nn_nI (by omega)
  refine ⟨fun x q1 q2 => (r1 x q2).trans (stv_row q1), ?_, fun j hj => ?_⟩
  · exact (congrFun (r1 h hne) 2).trans stv_s
  · have := r2 j
    rw [if_pos (by omega), stv_a hb2] at this
    exact this
theorem x4_loop6 {h b s : Nat} (hne : h ≠ rf G h 1) (hb : rf G b 1 ≠ rf G h 1) (hs : s ≤ 15) : ∀ (n k : Nat) (v : Mv), v h 2 = nI s → k ≤ 4 * s → 4 * s - k < n → (∀ x, x ≠ rf G h 1 → K_X4_copyFrom_6_10 G w h b n v (nI k) x = v x) ∧ ∀ j, K_X4_copyFrom_6_10 G w h b n v (nI k) (rf G h 1) j = if k ≤ j ∧ j < 4 * s then v (rf G b 1) j else v (rf G h 1) j := by
  intro n
  induction n with
  | zero => intro k v _ _ h; omega
  | succ n ih =>
    intro k v hv hk hf
    have e4 : ((4 : Int32) * nI s).toInt = (4 * s : Nat) := by
      have e := nI_toInt (n := s) (by omega)
      have e2 : (4 : Int32).toInt = 4 := by decide
      rw [fb_mulI (by rw [e, e2]; omega) (by rw [e, e2]; omega), e, e2]
      omega
    rw [K_X4_copyFrom_6_10, hv]
    by_cases c : (4 : Int32) * nI s ≤ nI k
    · have := (le_nI (4 * s) e4 (by omega)).mp c
      rw [if_pos c]
      exact ⟨fun _ _ => rfl, fun j => (if_neg (by omega)).symm⟩
    · have hlt : k < 4 * s := Nat.not_le.mp fun z => c ((le_nI (4 * s) e4 (by omega)).mpr z)
      rw [if_neg c, nI_1, show Int32.toNatClampNeg (nI k) = k from nn_nI (by omega)]
      obtain ⟨r1, r2⟩ := ih (k + 1) (stv v (rf G h 1) k (v (rf G b 1) k)) (by rw [stv_a hne]; exact hv) (by omega) (by omega)
      refine ⟨fun x hx => (r1 x hx).trans (stv_row hx), fun j => ?_⟩
      rw [r2 j]
      by_cases e : j = k
      · subst e
        rw [if_neg (by omega), stv_s, if_pos (by omega)]
      · by_cases e2 : k ≤ j ∧ j < 4 * s
        · rw [if_pos (by omega), if_pos e2, stv_a hb]
        · rw [if_neg (by omega), if_neg e2, stv_k e]
theorem x4_ok6 {h b : Nat} {v : Mv} (hne : h ≠ rf G h 1) (hb : rf G b 1 ≠ rf G h 1) (hb2 : rf G b 1 ≠ h) (hs : Bd (v b 2) 0 15) : (∀ x, x ≠ h → x ≠ rf G h 1 → F_X4_copyFrom_6 G w v h b x = v x) ∧ (F_X4_copyFrom_6 G w v h b) h 2 = v b 2 ∧ ∀ j, j < 4 * nn (v b 2) → (F_X4_copyFrom_6 G w v h b) (rf G h 1) j = v (rf G b 1) j := by
  obtain ⟨s, hs1, hs2⟩ := bd_nI (n := 15) hs
  obtain ⟨r1, r2⟩ := x4_loop6 (w := w) hne hb hs1 61 0 (stv v h 2 (v b 2)) (by rw [stv_s]; exact hs2) (by omega) (by omega)
  have en : nn (v b 2) = s := by rw [hs2]; exact nn_nI (by omega)
  refine ⟨fun x q1 q2 => (r1 x q2).trans (stv_row q1), ?_, fun j hj => ?_⟩
  · exact (congrFun (r1 h hne) 2).trans stv_s
  · have := r2 j
    rw [if_pos (by omega), stv_a hb2] at this
    exact this
theorem c18 {a b : Nat} (n1 : rf G a 1 ≠ rf G a 2) (n2 : rf G b 1 ≠ rf G a 1) (n3 : rf G b 1 ≠ rf G a 2) (n4 : rf G b 2 ≠ rf G a 1) (n5 : rf G b 2 ≠ rf G a 2) : ∀ (n k : Nat) (v : Mv), k ≤ 7 → 7 - k < n → ∃ v' : Mv, K_X6_copyFrom_18 G w a b n v (nI k) = K_X6_copyFrom_56 G w a b 8 v' 0 ∧ (∀ x, x ≠ rf G a 1 → x ≠ rf G a 2 → v' x = v x) ∧ (∀ t, k ≤ t → t < 7 → v' (rf G a 1) t = v (rf G b 1) t ∧ v' (rf G a 2) t = v (rf G b 2) t) ∧ ∀ t, t < k → v' (rf G a 1) t = v (rf G a 1) t ∧ v' (rf G a 2) t = v (rf G a 2) t := by
  intro n
  induction n with
  | zero => intro k v _ h; omega
  | succ n ih =>
    intro k v hk hf
    rw [K_X6_copyFrom_18]
    by_cases c : (7 : Int32) ≤ nI k
    · have := (le_nI 7 (by decide) (by omega)).mp c
      rw [if_pos c]
      exact ⟨v, rfl, fun _ _ _ => rfl, fun t _ _ => by omega, fun _ _ => ⟨rfl, rfl⟩⟩
    · have hlt : k < 7 := Nat.not_le.mp fun z => c ((le_nI 7 (by decide) (by omega)).mpr z)
      rw [if_neg c, nI_1, show Int32.toNatClampNeg (nI k) = k from nn_nI (by omega)]
      obtain ⟨v', r1, r2, r3, r4⟩ := ih (k + 1) (stv (stv v (rf G a 1) k (v (rf G b 1) k)) (rf G a 2) k ((stv v (rf G a 1) k (v (rf G b 1) k)) (rf G b 2) k)) (by omega) (by omega)
      refine ⟨v', r1, fun x q1 q2 => ?_, fun t q1 q2 => ?_, fun t q => ?_⟩
      · rw [r2 x q1 q2, stv_row q2, stv_row q1]
      · by_cases e : t = k
        · subst e
          obtain ⟨z1, z2⟩ := r4 t (by omega)
          rw [z1, z2, stv_s, stv_a n1, stv_s, stv_a n4]
          exact ⟨rfl, rfl⟩
        · obtain ⟨z1, z2⟩ := r3 t (by omega) q2
          rw [z1, z2, stv_a n3, stv_a n2, stv_a n5, stv_a n4]
          exact ⟨rfl, rfl⟩
      · obtain ⟨z1, z2⟩ := r4 t (by omega)
        have ne : t ≠ k := by omega
        rw [z1, z2, stv_k ne, stv_k ne, stv_k ne, stv_k ne]
        exact ⟨rfl, rfl⟩
theorem c56 {a b : Nat} (n1 : rf G a 4 ≠ rf G a 5) (n2 : rf G b 4 ≠ rf G a 4) (n3 : rf G b 4 ≠ rf G a 5) (n4 : rf G b 5 ≠ rf G a 4) (n5 : rf G b 5 ≠ rf G a 5) : ∀ (n k : Nat) (v : Mv), k ≤ 7 → 7 - k < n → ∃ v' : Mv, K_X6_copyFrom_56 G w a b n v (nI k) = K_X6_copyFrom_113 G w a b 9 (stv (F_X2_copyFrom G w v' (rf G a 6) (rf G b 6)) a 8 ((F_X2_copyFrom G w v' (rf G a 6) (rf G b 6)) b 8)) 0 ∧ (∀ x, x ≠ rf G a 4 → x ≠ rf G a 5 → v' x = v x) ∧ (∀ t, k ≤ t → t < 7 → v' (rf G a 4) t = v (rf G b 4) t ∧ v' (rf G a 5) t = v (rf G b 5) t) ∧ ∀ t, t < k → v' (rf G a 4) t = v (rf G a 4) t ∧ v' (rf G a 5) t = v (rf G a 5) t := by
  intro n
  induction n with
  | zero => intro k v _ h; omega
  | succ n ih =>
    intro k v hk hf
    rw [K_X6_copyFrom_56]
    by_cases c : (7 : Int32) ≤ nI k
    · have := (le_nI 7 (by decide) (by omega)).mp c
      rw [if_pos c]
      exact ⟨v, rfl, fun _ _ _ => rfl, fun t _ _ => by omega, fun _ _ => ⟨rfl, rfl⟩⟩
    · have hlt : k < 7 := Nat.not_le.mp fun z => c ((le_nI 7 (by decide) (by omega)).mpr z)
      rw [if_neg c, nI_1, show Int32.toNatClampNeg (nI k) = k from nn_nI (by omega)]
      obtain ⟨v', r1, r2, r3, r4⟩ := ih (k + 1) (stv (stv v (rf G a 4) k (v (rf G b 4) k)) (rf G a 5) k ((stv v (rf G a 4) k (v (rf G b 4) k)) (rf G b 5) k)) (by omega) (by omega)
      refine ⟨v', r1, fun x q1 q2 => ?_, fun t q1 q2 => ?_, fun t q => ?_⟩
      · rw [r2 x q1 q2, stv_row q2, stv_row q1]
      · by_cases e : t = k
        · subst e
          obtain ⟨z1, z2⟩ := r4 t (by omega)
          rw [z1, z2, stv_s, stv_a n1, stv_s, stv_a n4]
          exact ⟨rfl, rfl⟩
        · obtain ⟨z1, z2⟩ := r3 t (by omega) q2
          rw [z1, z2, stv_a n3, stv_a n2, stv_a n5, stv_a n4]
          exact ⟨rfl, rfl⟩
      · obtain ⟨z1, z2⟩ := r4 t (by omega)
        have ne : t ≠ k := by omega
        rw [z1, z2, stv_k ne, stv_k ne, stv_k ne, stv_k ne]
        exact ⟨rfl, rfl⟩
/-- none of the cells of a world's pasts -/
def PC (G : Gm) (w : Mw) (a x : Nat) : Prop := ∀ j, j < 8 → x ≠ (w.2 (rf G a 7) j).getD 0 ∧ x ≠ rf G ((w.2 (rf G a 7) j).getD 0) 0 ∧ x ≠ rf G ((w.2 (rf G a 7) j).getD 0) 1
theorem c113 {a b s : Nat} (hs : s ≤ 8) (ha : PC G w a a) : ∀ (n k : Nat) (v : Mv), v a 8 = nI s → k ≤ s → s - k < n → ∃ v' : Mv, K_X6_copyFrom_113 G w a b n v (nI k) = F_X4_copyFrom_6 G w (F_X4_copyFrom_6 G w (F_X4_copyFrom_5 G w v' (rf G a 9) (rf G b 9)) (rf G a 10) (rf G b 10)) (rf G a 11) (rf G b 11) ∧ ∀ x, PC G w a x → v' x = v x := by
  intro n
  induction n with
  | zero => intro k v _ _ h; omega
  | succ n ih =>
    intro k v hv hk hf
    rw [K_X6_copyFrom_113, hv]
    by_cases c : nI s ≤ nI k
    · rw [if_pos c]
      exact ⟨v, rfl, fun _ _ => rfl⟩
    · have hlt : k < s := Nat.not_le.mp fun z => c ((nI_leI (by omega) (by omega)).mpr z)
      rw [if_neg c, show Int32.toNatClampNeg (nI k) = k from nn_nI (by omega)]
      unfold K_X6_copyFrom_c4
      rw [nI_1]
      have st : ∀ x, PC G w a x → F_X2_copyFrom G w v ((w.2 (rf G a 7) k).getD 0) ((w.2 (rf G b 7) k).getD 0) x = v x := fun x hx => x2_row (hx k (by omega)).1 (hx k (by omega)).2.1 (hx k (by omega)).2.2
      obtain ⟨v', r1, r2⟩ := ih (k + 1) (F_X2_copyFrom G w v ((w.2 (rf G a 7) k).getD 0) ((w.2 (rf G b 7) k).getD 0)) (by rw [st a ha]; exact hv) (by omega) (by omega)
      exact ⟨v', r1, fun x hx => (r2 x hx).trans (st x hx)⟩
/-- all but the moments -/
theorem copy_ok {a ha b hb : Nat} {v : Mv} (Ca : Ch6 G a ha) (Cb : Ch6 G b hb) (hd : ha ≤ b ∨ hb ≤ a) (hw : ∀ j, j < 8 → (w.2 (rf G a 7) j).getD 0 ∈ rl G (rf G a 7)) (h8 : Bd (v b 8) 0 8) (h9 : Bd (v (rf G b 9) 2) 0 15) (h10 : Bd (v (rf G b 10) 2) 0 15) (h11 : Bd (v (rf G b 11) 2) 0 15) :
    (∀ x, (x < a ∨ ha ≤ x) → F_X6_copyFrom G w v a b x = v x) ∧ ((F_X6_copyFrom G w v a b) a 0 = v b 0 ∧ (F_X6_copyFrom G w v a b) a 3 = v b 3) ∧ (∀ t, t < 7 → (F_X6_copyFrom G w v a b) (rf G a 1) t = v (rf G b 1) t ∧ (F_X6_copyFrom G w v a b) (rf G a 2) t = v (rf G b 2) t ∧ (F_X6_copyFrom G w v a b) (rf G a 4) t = v (rf G b 4) t ∧ (F_X6_copyFrom G w v a b) (rf G a 5) t = v (rf G b 5) t) ∧ ((F_X6_copyFrom G w v a b) (rf G a 9) 2 = v (rf G b 9) 2 ∧ ∀ j, j < 4 * nn (v (rf G b 9) 2) → (F_X6_copyFrom G w v a b) (rf G (rf G a 9) 1) j = v (rf G (rf G b 9) 1) j) ∧ ((F_X6_copyFrom G w v a b) (rf G a 10) 2 = v (rf G b 10) 2 ∧ ∀ j, j < 4 * nn (v (rf G b 10) 2) → (F_X6_copyFrom G w v a b) (rf G (rf G a 10) 1) j = v (rf G (rf G b 10) 1) j) ∧ ((F_X6_copyFrom G w v a b) (rf G a 11) 2 = v (rf G b 11) 2 ∧ ∀ j, j < 4 * nn (v (rf G b 11) 2) → (F_X6_copyFrom G w v a b) (rf G (rf G a 11) 1) j = v (rf G (rf G b 11) 1) j) := by
  obtain ⟨k1, k2, k3, k4, k5, ⟨k6, k7⟩, k8, k9, k10, k11, k12, k13, k14, k15, k16⟩ := Ca
  obtain ⟨l1, l2, l3, l4, l5, ⟨l6, l7⟩, l8, l9, l10, l11, l12, l13, l14, l15, -⟩ := Cb
  unfold Ch4 at k10 k12 k14 l10 l12 l14
  have pc : ∀ x, (x ≤ rf G (rf G a 11) 1 ∨ ha ≤ x) → PC G w a x := fun x hx j hj => by
    obtain ⟨z1, ⟨z2, z3⟩, z4⟩ := k16 _ (hw j hj)
    exact ⟨by omega, by omega, by omega⟩
  unfold F_X6_copyFrom K_X6_copyFrom_e
  rw [stv_a (show b ≠ a by omega)]
  have f1 : ∀ x, x ≠ a → stv (stv v a 0 (v b 0)) a 3 (v b 3) x = v x := fun x q => by rw [stv_row q, stv_row q]
  have g10 : (stv (stv v a 0 (v b 0)) a 3 (v b 3)) a 0 = v b 0 := by rw [stv_k (by decide), stv_s]
  have g13 : (stv (stv v a 0 (v b 0)) a 3 (v b 3)) a 3 = v b 3 := stv_s
  generalize stv (stv v a 0 (v b 0)) a 3 (v b 3) = v1 at *
  obtain ⟨v2, e2, f2, a2, -⟩ := c18 (G := G) (w := w) (a := a) (b := b) (by omega) (by omega) (by omega) (by omega) (by omega) 8 0 v1 (by omega) (by omega)
  have e2 : K_X6_copyFrom_18 G w a b 8 v1 0 = K_X6_copyFrom_56 G w a b 8 v2 0 := e2
  rw [e2]
  obtain ⟨v3, e3, f3, a3, -⟩ := c56 (G := G) (w := w) (a := a) (b := b) (by omega) (by omega) (by omega) (by omega) (by omega) 8 0 v2 (by omega) (by omega)
  have e3 : K_X6_copyFrom_56 G w a b 8 v2 0 = _ := e3
  rw [e3]
  have f4 : ∀ x, x ≠ rf G a 6 → x ≠ rf G (rf G a 6) 0 → x ≠ rf G (rf G a 6) 1 → F_X2_copyFrom G w v3 (rf G a 6) (rf G b 6) x = v3 x := fun x q1 q2 q3 => x2_row q1 q2 q3
  generalize F_X2_copyFrom G w v3 (rf G a 6) (rf G b 6) = v4 at *
  have b8 : v4 b 8 = v b 8 := by rw [f4 b (by omega) (by omega) (by omega), f3 b (by omega) (by omega), f2 b (by omega) (by omega), f1 b (by omega)]
  rw [b8]
  obtain ⟨s, hs1, hs2⟩ := bd_nI (n := 8) h8
  have f5 : ∀ x k, (x ≠ a ∨ k ≠ 8) → (stv v4 a 8 (v b 8)) x k = v4 x k := fun x k q => stv_ne q
  have g58 : (stv v4 a 8 (v b 8)) a 8 = nI s := by rw [stv_s]; exact hs2
  generalize stv v4 a 8 (v b 8) = v5 at *
  obtain ⟨v6, e6, f6⟩ := c113 (G := G) (w := w) (a := a) (b := b) hs1 (pc a (by omega)) 9 0 v5 g58 (by omega) (by omega)
  have e6 : K_X6_copyFrom_113 G w a b 9 v5 0 = _ := e6
  rw [e6]
  -- to the rows
  have f5r : ∀ x, x ≠ a → v5 x = v4 x := fun x q => funext fun k => f5 x k (Or.inl q)
  have o6 : ∀ x, (x < a ∨ ha ≤ x) → v6 x = v x := fun x q => by
    rw [f6 x (pc x (by omega)), f5r x (by omega), f4 x (by omega) (by omega) (by omega), f3 x (by omega) (by omega), f2 x (by omega) (by omega), f1 x (by omega)]
  have h9' : Bd (v6 (rf G b 9) 2) 0 15 := by rw [o6 _ (by omega)]; exact h9
  obtain ⟨m1, m2, m3⟩ := x4_ok5 (G := G) (w := w) (h := rf G a 9) (b := rf G b 9) (v := v6) (by omega) (by omega) (by omega) h9'
  generalize F_X4_copyFrom_5 G w v6 (rf G a 9) (rf G b 9) = v7 at *
  have o7 : ∀ x, (x < a ∨ ha ≤ x) → v7 x = v x := fun x q => by rw [m1 x (by omega) (by omega), o6 x q]
  have h10' : Bd (v7 (rf G b 10) 2) 0 15 := by rw [o7 _ (by omega)]; exact h10
  obtain ⟨p1, p2, p3⟩ := x4_ok6 (G := G) (w := w) (h := rf G a 10) (b := rf G b 10) (v := v7) (by omega) (by omega) (by omega) h10'
  generalize F_X4_copyFrom_6 G w v7 (rf G a 10) (rf G b 10) = v8 at *
  have o8 : ∀ x, (x < a ∨ ha ≤ x) → v8 x = v x := fun x q => by rw [p1 x (by omega) (by omega), o7 x q]
  have h11' : Bd (v8 (rf G b 11) 2) 0 15 := by rw [o8 _ (by omega)]; exact h11
  obtain ⟨q1, q2, q3⟩ := x4_ok6 (G := G) (w := w) (h := rf G a 11) (b := rf G b 11) (v := v8) (by omega) (by omega) (by omega) h11'
  generalize F_X4_copyFrom_6 G w v8 (rf G a 11) (rf G b 11) = v9 at *
  have o9 : ∀ x, (x < a ∨ ha ≤ x) → v9 x = v x := fun x q => by rw [q1 x (by omega) (by omega), o8 x q]
  -- below the pasts nothing of the world changes after its own step
  have low : ∀ x, x < rf G a 6 → x ≠ a → v9 x = v3 x := fun x z1 z2 => by
    rw [q1 x (by omega) (by omega), p1 x (by omega) (by omega), m1 x (by omega) (by omega), f6 x (pc x (by omega)), f5r x z2, f4 x (by omega) (by omega) (by omega)]
  have own : ∀ k, k ≠ 8 → v9 a k = v1 a k := fun k z => by
    rw [q1 a (by omega) (by omega), p1 a (by omega) (by omega), m1 a (by omega) (by omega), f6 a (pc a (by omega)), f5 a k (Or.inr z), f4 a (by omega) (by omega) (by omega), f3 a (by omega) (by omega), f2 a (by omega) (by omega)]
  refine ⟨o9, ⟨(own 0 (by decide)).trans g10, (own 3 (by decide)).trans g13⟩, fun t ht => ?_, ⟨?_, fun j hj => ?_⟩, ⟨?_, fun j hj => ?_⟩, ⟨?_, fun j hj => ?_⟩⟩
  · obtain ⟨z1, z2⟩ := a2 t (by omega) ht
    obtain ⟨z3, z4⟩ := a3 t (by omega) ht
    rw [low (rf G a 1) (by omega) (by omega), low (rf G a 2) (by omega) (by omega), low (rf G a 4) (by omega) (by omega), low (rf G a 5) (by omega) (by omega), f3 (rf G a 1) (by omega) (by omega), f3 (rf G a 2) (by omega) (by omega), z1, z2, z3, z4, f2 (rf G b 4) (by omega) (by omega), f2 (rf G b 5) (by omega) (by omega), f1 (rf G b 1) (by omega), f1 (rf G b 2) (by omega), f1 (rf G b 4) (by omega), f1 (rf G b 5) (by omega)]
    exact ⟨rfl, rfl, rfl, rfl⟩
  · rw [q1 (rf G a 9) (by omega) (by omega), p1 (rf G a 9) (by omega) (by omega), m2, o6 (rf G b 9) (by omega)]
  · rw [q1 (rf G (rf G a 9) 1) (by omega) (by omega), p1 (rf G (rf G a 9) 1) (by omega) (by omega), m3 j (by rw [o6 (rf G b 9) (by omega)]; exact hj), o6 (rf G (rf G b 9) 1) (by omega)]
  · rw [q1 (rf G a 10) (by omega) (by omega), p2, o7 (rf G b 10) (by omega)]
  · rw [q1 (rf G (rf G a 10) 1) (by omega) (by omega), p3 j (by rw [o7 (rf G b 10) (by omega)]; exact hj), o7 (rf G (rf G b 10) 1) (by omega)]
  · rw [q2, o8 (rf G b 11) (by omega)]
  · rw [q3 j (by rw [o8 (rf G b 11) (by omega)]; exact hj), o8 (rf G (rf G b 11) 1) (by omega)]
end CW
