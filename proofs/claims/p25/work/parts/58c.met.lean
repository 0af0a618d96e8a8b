/-! CLASS AND REFERENCE CALL BY CALL -/
section MET
variable {G : Gm} {w w' : Mw} {a7 a8 h4 : Nat} {c u c1 u1 : Mv} {x y z r1 r2 : Int32}
theorem lay0 (C7 : Ch7 G a7 h4) : ∃ h1, a7 < rf G a7 0 ∧ Ch6 G (rf G a7 0) h1 ∧ h1 ≤ rf G a7 1 := by
  obtain ⟨h1, h2, h3, i0, i1, q1, q2, q3, -⟩ := C7
  exact ⟨h1, q1, q2, q3⟩
theorem ne821 (S8 : S_X8 G a8) : rf G a8 2 ≠ rf G a8 1 := tg_ne (S_X8.f2 S8) (S_X8.f1 S8) rfl
theorem inW {v : Mv} {p q : Int32} {lo hi : Int} (h : ¬ F_X7_isWithin G w v x p q = 0) (hp : p.toInt = lo) (hq : q.toInt = hi) : Bd x lo hi := by
  have hx : p ≤ x ∧ x ≤ q := Classical.byContradiction fun z => h (isW0.mpr z)
  have h1 := i_le.mp hx.1
  have h2 := i_le.mp hx.2
  exact ⟨by omega, by omega⟩
/-- a call that counts a fault, and changes nothing else -/
theorem fin_c {p q : Int32} {k k' : Nat} (C7 : Ch7 G a7 h4) (S8 : S_X8 G a8) (h : RX G a7 a8 c u) (hk : 3 ≠ k) (e1 : (r1, c1) = (z, stv c a7 k p)) (e2 : (r2, u1) = (z, stv u (rf G a8 0) k' q)) : r1 = r2 ∧ RX G a7 a8 c1 u1 := by
  obtain ⟨rfl, rfl⟩ := Prod.mk.inj e1
  obtain ⟨rfl, rfl⟩ := Prod.mk.inj e2
  exact ⟨rfl, h.cnt C7 S8 hk⟩
/-- a call that changes the world in use alike -/
theorem fin_w {X Y : Int32 × Mv} {h1 : Nat} (C7 : Ch7 G a7 h4) (S8 : S_X8 G a8) (h : RX G a7 a8 c u) (ha : a7 < rf G a7 0) (hh : h1 ≤ rf G a7 1) (e1 : (r1, c1) = (X.1, X.2)) (e2 : (r2, u1) = (Y.1, Y.2)) (hX : X.1 = Y.1 ∧ RW G (rf G a8 1) X.2 Y.2 (rf G a7 0) 0 ∧ (∀ f, (f < rf G a7 0 ∨ h1 ≤ f) → X.2 f = c f) ∧ (∀ j, 246 ≤ j → Y.2 (rf G a8 1) j = u (rf G a8 1) j) ∧ ∀ b, b ≠ rf G a8 1 → Y.2 b = u b) : r1 = r2 ∧ RX G a7 a8 c1 u1 := by
  obtain ⟨q1, q2, q3, q4, q5⟩ := hX
  obtain ⟨rfl, rfl⟩ := Prod.mk.inj e1
  obtain ⟨rfl, rfl⟩ := Prod.mk.inj e2
  exact ⟨q1, h.step C7 q2 (fun f hf => q3 f (Or.inr (Nat.le_trans hh hf))) (by rw [q3 a7 (Or.inl ha)]) (fun k k1 _ => q4 k k1) (q5 _ (ne821 S8))⟩
theorem m_people (C7 : Ch7 G a7 h4) (S8 : S_X8 G a8) (h : RX G a7 a8 c u) (e1 : (r1, c1) = F_X7_people G w c a7) (e2 : (r2, u1) = F_X8_people G w' u a8) : r1 = r2 ∧ RX G a7 a8 c1 u1 := by
  obtain ⟨h1, q1, q2, q3⟩ := lay0 C7
  obtain ⟨s1, ⟨s2, s3, s4⟩, s5, s6, s7, s8⟩ := start_ok (w := w) (c := c) q2
  obtain ⟨b1, b2, b3⟩ := bg0_ok (G := G) (w := w') (a8 := a8) (v := u)
  have t12 : c (rf G a7 0) 3 = u (rf G a8 1) (Int32.toNatClampNeg 1) := h.1.1.1.2
  obtain ⟨k1, k2, k3, k4, k5, ⟨k6, k7⟩, k8, k9, k10, k11, k12, k13, k14, k15, -⟩ := id q2
  unfold Ch4 at k10 k12 k14
  unfold F_X7_people K_X7_people_e K_X7_people_c1 at e1
  unfold F_X8_people K_X8_people_e K_X8_people_c1 at e2
  generalize F_X6_startAnew G w c (rf G a7 0) = cc at *
  generalize F_X8_begin_0 G w' u a8 = uu at *
  have hu : ∀ k, k < 5 → uu (rf G a8 1) (0 + k) = 0 := fun k hk => b3 (0 + k) (by omega)
  have hf : ∀ f, (f < rf G a7 0 ∨ h1 ≤ f) → cc f = c f := fun f hf => s1 f (by omega) (by omega) (by omega) (by omega) (by omega)
  exact fin_w (X := (c (rf G a7 0) 3, cc)) (Y := (u (rf G a8 1) (Int32.toNatClampNeg 1), uu)) C7 S8 h q1 q3 e1 e2 ⟨t12, RW.zero ⟨s2, s3⟩ s6 s7 s8 hu, hf, b2, b1⟩
theorem lt7 {n m : Int32} (e : n = m) (hb : Bd n 0 7) : n < 7 ↔ ¬ m = 7 := by
  have h7 : (7 : Int32).toInt = 7 := by decide
  rw [i_lt, h7, e]
  rw [e] at hb
  have := hb.2
  constructor
  · intro q z
    rw [z, h7] at q
    omega
  · intro q
    have : m.toInt ≠ 7 := fun z => q (i_eq (z.trans h7.symm))
    omega
theorem bd6l {n : Int32} (hb : Bd n 0 7) (h : n < 7) : Bd n 0 6 := by
  have h7 : (7 : Int32).toInt = 7 := by decide
  have := i_lt.mp h
  rw [h7] at this
  exact ⟨hb.1, by omega⟩
theorem m_thing (C7 : Ch7 G a7 h4) (S8 : S_X8 G a8) (h : RX G a7 a8 c u) (e1 : (r1, c1) = F_X7_thing G w c a7 x y) (e2 : (r2, u1) = F_X8_thing G w' u a8 x y) : r1 = r2 ∧ RX G a7 a8 c1 u1 := by
  obtain ⟨h1, q1, q2, q3⟩ := lay0 C7
  unfold F_X7_thing K_X7_thing_e K_X7_thing_19 K_X7_thing_c1 K_X7_thing_c2 K_X7_thing_c3 F_X7_bad K_X7_bad_e F_X7_full K_X7_full_e at e1
  unfold F_X8_thing K_X8_thing_e K_X8_thing_19 K_X8_thing_c1 K_X8_thing_c2 K_X8_thing_c3 F_X8_bad K_X8_bad_e F_X8_full K_X8_full_e at e2
  rw [in8 (G' := G) (w' := w) (v' := c) (x := x), in8 (G' := G) (w' := w) (v' := c) (x := y)] at e2
  by_cases d1 : F_X7_isWithin G w c x 0 5 = 0
  · rw [if_pos d1] at e1 e2
    exact fin_c C7 S8 h (by decide) e1 e2
  rw [if_neg d1] at e1 e2
  by_cases d2 : F_X7_isWithin G w c y 1 30 = 0
  · rw [if_pos d2] at e1 e2
    exact fin_c C7 S8 h (by decide) e1 e2
  rw [if_neg d2] at e1 e2
  have t0 : c (rf G a7 0) 0 = u (rf G a8 1) (Int32.toNatClampNeg 0) := h.1.1.1.1
  have tb := h.1.1.2.1.1
  by_cases d3 : c (rf G a7 0) 0 < 7
  · rw [if_pos d3] at e1
    rw [if_neg ((lt7 t0 tb).mp d3)] at e2
    exact fin_w C7 S8 h q1 q3 e1 e2 (addT q2 h.1 (bd6l tb d3) (inW d1 (by decide) (by decide)) (inW d2 (by decide) (by decide)))
  · rw [if_neg d3] at e1
    rw [if_pos (Classical.byContradiction fun z => d3 ((lt7 t0 tb).mpr z))] at e2
    exact fin_c C7 S8 h (by decide) e1 e2
theorem m_one (C7 : Ch7 G a7 h4) (S8 : S_X8 G a8) (h : RX G a7 a8 c u) (e1 : (r1, c1) = F_X7_one G w c a7 x y z) (e2 : (r2, u1) = F_X8_one G w' u a8 x y z) : r1 = r2 ∧ RX G a7 a8 c1 u1 := by
  obtain ⟨h1, q1, q2, q3⟩ := lay0 C7
  unfold F_X7_one K_X7_one_e K_X7_one_29 K_X7_one_c1 K_X7_one_c2 K_X7_one_c3 F_X7_bad K_X7_bad_e F_X7_full K_X7_full_e at e1
  unfold F_X8_one K_X8_one_e K_X8_one_29 K_X8_one_c1 K_X8_one_c2 K_X8_one_c3 F_X8_bad K_X8_bad_e F_X8_full K_X8_full_e at e2
  rw [in8 (G' := G) (w' := w) (v' := c) (x := x), in8 (G' := G) (w' := w) (v' := c) (x := y) (a := 1), in8 (G' := G) (w' := w) (v' := c) (x := z) (b := 99)] at e2
  by_cases d1 : F_X7_isWithin G w c x 0 5 = 0
  · rw [if_pos d1] at e1 e2
    exact fin_c C7 S8 h (by decide) e1 e2
  rw [if_neg d1] at e1 e2
  by_cases d2 : F_X7_isWithin G w c y 1 9 = 0
  · rw [if_pos d2] at e1 e2
    exact fin_c C7 S8 h (by decide) e1 e2
  rw [if_neg d2] at e1 e2
  by_cases d4 : F_X7_isWithin G w c z 0 99 = 0
  · rw [if_pos d4] at e1 e2
    exact fin_c C7 S8 h (by decide) e1 e2
  rw [if_neg d4] at e1 e2
  have t0 : c (rf G a7 0) 3 = u (rf G a8 1) (Int32.toNatClampNeg 1) := h.1.1.1.2
  have tb := h.1.1.2.1.2
  by_cases d3 : c (rf G a7 0) 3 < 7
  · rw [if_pos d3] at e1
    rw [if_neg ((lt7 t0 tb).mp d3)] at e2
    exact fin_w C7 S8 h q1 q3 e1 e2 (addO q2 h.1 (bd6l tb d3) (inW d1 (by decide) (by decide)) (inW d2 (by decide) (by decide)))
  · rw [if_neg d3] at e1
    rw [if_pos (Classical.byContradiction fun z => d3 ((lt7 t0 tb).mpr z))] at e2
    exact fin_c C7 S8 h (by decide) e1 e2
end MET
