/-! CLASS AND REFERENCE CALL BY CALL: seen, note, mark, forget -/
section MET2
variable {G : Gm} {w w' : Mw} {a7 a8 h4 : Nat} {c u c1 u1 : Mv} {x y z r1 r2 : Int32}
theorem hs_in {n : Int32} (hb : Bd n 0 7) : (if x < 0 then (0 : Int32) else if n ≤ x then 0 else 1) = 0 ↔ ¬ (0 ≤ x ∧ x ≤ n - 1) := by
  have h0 : (0 : Int32).toInt = 0 := by decide
  have h1 : (1 : Int32).toInt = 1 := by decide
  obtain ⟨b1, b2⟩ := hb
  have e : (n - 1).toInt = n.toInt - 1 := by rw [fb_subI (by rw [h1]; omega) (by rw [h1]; omega), h1]
  have key : (0 ≤ x ∧ x ≤ n - 1) ↔ (0 ≤ x.toInt ∧ x.toInt ≤ n.toInt - 1) := by rw [i_le, i_le, e, h0]
  rw [key]
  by_cases q : x < 0
  · rw [if_pos q]
    have := i_lt.mp q
    rw [h0] at this
    exact ⟨fun _ => by omega, fun _ => rfl⟩
  · rw [if_neg q]
    have q' : ¬ x.toInt < 0 := fun z => q (i_lt.mpr (by rw [h0]; exact z))
    by_cases p : n ≤ x
    · rw [if_pos p]
      have := i_le.mp p
      exact ⟨fun _ => by omega, fun _ => rfl⟩
    · rw [if_neg p]
      have p' : ¬ n.toInt ≤ x.toInt := fun z => p (i_le.mpr z)
      exact ⟨fun z => absurd z (by decide), fun z => by omega⟩
theorem hs_bd {n : Int32} (hb : Bd n 0 7) (h : ¬ (if x < 0 then (0 : Int32) else if n ≤ x then 0 else 1) = 0) : Bd x 0 (n.toInt - 1) := by
  have h0 : (0 : Int32).toInt = 0 := by decide
  have h1 : (1 : Int32).toInt = 1 := by decide
  have k : 0 ≤ x ∧ x ≤ n - 1 := Classical.byContradiction fun z => h ((hs_in hb).mpr z)
  obtain ⟨b1, b2⟩ := hb
  have e : (n - 1).toInt = n.toInt - 1 := by rw [fb_subI (by rw [h1]; omega) (by rw [h1]; omega), h1]
  have k1 := i_le.mp k.1
  have k2 := i_le.mp k.2
  rw [h0] at k1
  rw [e] at k2
  exact ⟨k1, k2⟩
theorem fl_in {n m cap K : Int32} {k : Nat} (hK : K.toInt = k) (hc : cap = K) (e : n = m) (hb : Bd n 0 k) : (if n < cap then (0 : Int32) else 1) = 0 ↔ ¬ m = K := by
  rw [hc]
  by_cases q : n < K
  · rw [if_pos q]
    refine ⟨fun _ z => ?_, fun _ => rfl⟩
    have := i_lt.mp q
    rw [e, z] at this
    omega
  · rw [if_neg q]
    refine ⟨fun z => absurd z (by decide), fun z => absurd ?_ z⟩
    have : ¬ n.toInt < K.toInt := fun z => q (i_lt.mpr z)
    have h2 := hb.2
    exact e.symm.trans (i_eq (by omega))
theorem fl_bd {n cap K : Int32} {k : Nat} (hK : K.toInt = (k + 1 : Nat)) (hc : cap = K) (hb : Bd n 0 (k + 1 : Nat)) (h : (if n < cap then (0 : Int32) else 1) = 0) : Bd n 0 k := by
  rw [hc] at h
  by_cases q : n < K
  · have := i_lt.mp q
    exact ⟨hb.1, by omega⟩
  · rw [if_neg q] at h
    exact absurd h (by decide)
theorem m_seen {x0 x1 x2 x3 : Int32} (C7 : Ch7 G a7 h4) (S8 : S_X8 G a8) (hcap : c (rf G (rf G a7 0) 9) 0 = 5) (h : RX G a7 a8 c u) (e1 : (r1, c1) = F_X7_seen G w c a7 x0 x1 x2 x3) (e2 : (r2, u1) = F_X8_seen G w' u a8 x0 x1 x2 x3) : r1 = r2 ∧ RX G a7 a8 c1 u1 := by
  obtain ⟨h1, q1, q2, q3⟩ := lay0 C7
  unfold F_X7_seen K_X7_seen_e K_X7_seen_41 K_X7_seen_c1 K_X7_seen_c2 K_X7_seen_c3 F_X7_bad K_X7_bad_e F_X7_full K_X7_full_e F_X6_hasOne K_X6_hasOne_e F_X4_isFull_5 K_X4_isFull_5_e at e1
  unfold F_X8_seen K_X8_seen_e K_X8_seen_38 K_X8_seen_c1 K_X8_seen_c2 K_X8_seen_c3 F_X8_bad K_X8_bad_e F_X8_full K_X8_full_e F_X8_isOne K_X8_isOne_e at e2
  have t0 : c (rf G a7 0) 3 = u (rf G a8 1) (Int32.toNatClampNeg 1) := h.1.1.1.2
  have tb := h.1.1.2.1.2
  rw [← t0] at e2
  have d1 : (F_X8_in G w' u x0 0 (c (rf G a7 0) 3 - 1) = 0) ↔ ((if x0 < 0 then (0 : Int32) else if c (rf G a7 0) 3 ≤ x0 then 0 else 1) = 0) := by
    rw [in8 (G' := G) (w' := w) (v' := c), isW0, hs_in tb]
  by_cases c1' : (if x0 < 0 then (0 : Int32) else if c (rf G a7 0) 3 ≤ x0 then 0 else 1) = 0
  · rw [if_pos c1'] at e1
    rw [if_pos (d1.mpr c1')] at e2
    exact fin_c C7 S8 h (by decide) e1 e2
  rw [if_neg c1'] at e1
  rw [if_neg (fun z => c1' (d1.mp z))] at e2
  have i1 : F_X8_in G w' u x1 0 99 = F_X7_isWithin G w c x1 0 99 := in8
  rw [i1] at e2
  by_cases d2 : F_X7_isWithin G w c x1 0 99 = 0
  · rw [if_pos d2] at e1 e2
    exact fin_c C7 S8 h (by decide) e1 e2
  rw [if_neg d2] at e1 e2
  have i2 : F_X8_in G w' u x2 0 60 = F_X7_isWithin G w c x2 0 60 := in8
  rw [i2] at e2
  by_cases d3 : F_X7_isWithin G w c x2 0 60 = 0
  · rw [if_pos d3] at e1 e2
    exact fin_c C7 S8 h (by decide) e1 e2
  rw [if_neg d3] at e1 e2
  have i3 : F_X8_in G w' u x3 0 1 = F_X7_isWithin G w c x3 0 1 := in8
  rw [i3] at e2
  by_cases d4 : F_X7_isWithin G w c x3 0 1 = 0
  · rw [if_pos d4] at e1 e2
    exact fin_c C7 S8 h (by decide) e1 e2
  rw [if_neg d4] at e1 e2
  have tr : c (rf G (rf G a7 0) 9) 2 = u (rf G a8 1) (Int32.toNatClampNeg 2) := h.1.2.1.1.1
  have trb := h.1.2.1.1.2
  have fl := fl_in (n := c (rf G (rf G a7 0) 9) 2) (K := 5) (k := 5) (by decide) hcap tr trb
  by_cases d5 : (if c (rf G (rf G a7 0) 9) 2 < c (rf G (rf G a7 0) 9) 0 then (0 : Int32) else 1) = 0
  · rw [if_pos d5] at e1
    rw [if_neg (fl.mp d5)] at e2
    exact fin_w C7 S8 h q1 q3 e1 e2 (tell_seen q2 h.1 (fl_bd (K := 5) (k := 4) (by decide) hcap trb d5) (hs_bd tb c1') (inW (lo := 0) (hi := 99) d2 (by decide) (by decide)) (inW (lo := 0) (hi := 60) d3 (by decide) (by decide)) (inW (lo := 0) (hi := 1) d4 (by decide) (by decide)))
  · rw [if_neg d5] at e1
    rw [if_pos (Classical.byContradiction fun z => d5 (fl.mpr z))] at e2
    exact fin_c C7 S8 h (by decide) e1 e2
theorem m_note {x0 x1 x2 x3 : Int32} (C7 : Ch7 G a7 h4) (S8 : S_X8 G a8) (hcap : c (rf G (rf G a7 0) 10) 0 = 6) (h : RX G a7 a8 c u) (e1 : (r1, c1) = F_X7_note G w c a7 x0 x1 x2 x3) (e2 : (r2, u1) = F_X8_note G w' u a8 x0 x1 x2 x3) : r1 = r2 ∧ RX G a7 a8 c1 u1 := by
  obtain ⟨h1, q1, q2, q3⟩ := lay0 C7
  unfold F_X7_note K_X7_note_e K_X7_note_42 K_X7_note_c1 K_X7_note_c2 K_X7_note_c3 F_X7_bad K_X7_bad_e F_X7_full K_X7_full_e F_X6_hasThing K_X6_hasThing_e F_X4_isFull_6 K_X4_isFull_6_e at e1
  unfold F_X8_note K_X8_note_e K_X8_note_39 K_X8_note_c1 K_X8_note_c2 K_X8_note_c3 F_X8_bad K_X8_bad_e F_X8_full K_X8_full_e F_X8_isThing K_X8_isThing_e at e2
  have t0 : c (rf G a7 0) 0 = u (rf G a8 1) (Int32.toNatClampNeg 0) := h.1.1.1.1
  have tb := h.1.1.2.1.1
  rw [← t0] at e2
  have d1 : (F_X8_in G w' u x0 0 (c (rf G a7 0) 0 - 1) = 0) ↔ ((if x0 < 0 then (0 : Int32) else if c (rf G a7 0) 0 ≤ x0 then 0 else 1) = 0) := by
    rw [in8 (G' := G) (w' := w) (v' := c), isW0, hs_in tb]
  by_cases c1' : (if x0 < 0 then (0 : Int32) else if c (rf G a7 0) 0 ≤ x0 then 0 else 1) = 0
  · rw [if_pos c1'] at e1
    rw [if_pos (d1.mpr c1')] at e2
    exact fin_c C7 S8 h (by decide) e1 e2
  rw [if_neg c1'] at e1
  rw [if_neg (fun z => c1' (d1.mp z))] at e2
  have i1 : F_X8_in G w' u x1 1 30 = F_X7_isWithin G w c x1 1 30 := in8
  rw [i1] at e2
  by_cases d2 : F_X7_isWithin G w c x1 1 30 = 0
  · rw [if_pos d2] at e1 e2
    exact fin_c C7 S8 h (by decide) e1 e2
  rw [if_neg d2] at e1 e2
  have i2 : F_X8_in G w' u x2 0 99 = F_X7_isWithin G w c x2 0 99 := in8
  rw [i2] at e2
  by_cases d3 : F_X7_isWithin G w c x2 0 99 = 0
  · rw [if_pos d3] at e1 e2
    exact fin_c C7 S8 h (by decide) e1 e2
  rw [if_neg d3] at e1 e2
  have i3 : F_X8_in G w' u x3 0 99 = F_X7_isWithin G w c x3 0 99 := in8
  rw [i3] at e2
  by_cases d4 : F_X7_isWithin G w c x3 0 99 = 0
  · rw [if_pos d4] at e1 e2
    exact fin_c C7 S8 h (by decide) e1 e2
  rw [if_neg d4] at e1 e2
  have tr : c (rf G (rf G a7 0) 10) 2 = u (rf G a8 1) (Int32.toNatClampNeg 3) := h.1.2.2.1.1.1
  have trb := h.1.2.2.1.1.2
  have fl := fl_in (n := c (rf G (rf G a7 0) 10) 2) (K := 6) (k := 6) (by decide) hcap tr trb
  by_cases d5 : (if c (rf G (rf G a7 0) 10) 2 < c (rf G (rf G a7 0) 10) 0 then (0 : Int32) else 1) = 0
  · rw [if_pos d5] at e1
    rw [if_neg (fl.mp d5)] at e2
    exact fin_w C7 S8 h q1 q3 e1 e2 (tell_note q2 h.1 (fl_bd (K := 6) (k := 5) (by decide) hcap trb d5) (hs_bd tb c1') (inW (lo := 1) (hi := 30) d2 (by decide) (by decide)) (inW (lo := 0) (hi := 99) d3 (by decide) (by decide)) (inW (lo := 0) (hi := 99) d4 (by decide) (by decide)))
  · rw [if_neg d5] at e1
    rw [if_pos (Classical.byContradiction fun z => d5 (fl.mpr z))] at e2
    exact fin_c C7 S8 h (by decide) e1 e2
theorem m_mark {x0 x1 x2 x3 : Int32} (C7 : Ch7 G a7 h4) (S8 : S_X8 G a8) (hcap : c (rf G (rf G a7 0) 11) 0 = 6) (h : RX G a7 a8 c u) (e1 : (r1, c1) = F_X7_mark G w c a7 x0 x1 x2 x3) (e2 : (r2, u1) = F_X8_mark G w' u a8 x0 x1 x2 x3) : r1 = r2 ∧ RX G a7 a8 c1 u1 := by
  obtain ⟨h1, q1, q2, q3⟩ := lay0 C7
  unfold F_X7_mark K_X7_mark_e K_X7_mark_42 K_X7_mark_c1 K_X7_mark_c2 K_X7_mark_c3 F_X7_bad K_X7_bad_e F_X7_full K_X7_full_e F_X6_hasOne K_X6_hasOne_e F_X4_isFull_6 K_X4_isFull_6_e at e1
  unfold F_X8_mark K_X8_mark_e K_X8_mark_39 K_X8_mark_c1 K_X8_mark_c2 K_X8_mark_c3 F_X8_bad K_X8_bad_e F_X8_full K_X8_full_e F_X8_isOne K_X8_isOne_e at e2
  have t0 : c (rf G a7 0) 3 = u (rf G a8 1) (Int32.toNatClampNeg 1) := h.1.1.1.2
  have tb := h.1.1.2.1.2
  rw [← t0] at e2
  have d1 : (F_X8_in G w' u x0 0 (c (rf G a7 0) 3 - 1) = 0) ↔ ((if x0 < 0 then (0 : Int32) else if c (rf G a7 0) 3 ≤ x0 then 0 else 1) = 0) := by
    rw [in8 (G' := G) (w' := w) (v' := c), isW0, hs_in tb]
  by_cases c1' : (if x0 < 0 then (0 : Int32) else if c (rf G a7 0) 3 ≤ x0 then 0 else 1) = 0
  · rw [if_pos c1'] at e1
    rw [if_pos (d1.mpr c1')] at e2
    exact fin_c C7 S8 h (by decide) e1 e2
  rw [if_neg c1'] at e1
  rw [if_neg (fun z => c1' (d1.mp z))] at e2
  have i1 : F_X8_in G w' u x1 1 9 = F_X7_isWithin G w c x1 1 9 := in8
  rw [i1] at e2
  by_cases d2 : F_X7_isWithin G w c x1 1 9 = 0
  · rw [if_pos d2] at e1 e2
    exact fin_c C7 S8 h (by decide) e1 e2
  rw [if_neg d2] at e1 e2
  have i2 : F_X8_in G w' u x2 0 99 = F_X7_isWithin G w c x2 0 99 := in8
  rw [i2] at e2
  by_cases d3 : F_X7_isWithin G w c x2 0 99 = 0
  · rw [if_pos d3] at e1 e2
    exact fin_c C7 S8 h (by decide) e1 e2
  rw [if_neg d3] at e1 e2
  have i3 : F_X8_in G w' u x3 0 99 = F_X7_isWithin G w c x3 0 99 := in8
  rw [i3] at e2
  by_cases d4 : F_X7_isWithin G w c x3 0 99 = 0
  · rw [if_pos d4] at e1 e2
    exact fin_c C7 S8 h (by decide) e1 e2
  rw [if_neg d4] at e1 e2
  have tr : c (rf G (rf G a7 0) 11) 2 = u (rf G a8 1) (Int32.toNatClampNeg 4) := h.1.2.2.2.1.1
  have trb := h.1.2.2.2.1.2
  have fl := fl_in (n := c (rf G (rf G a7 0) 11) 2) (K := 6) (k := 6) (by decide) hcap tr trb
  by_cases d5 : (if c (rf G (rf G a7 0) 11) 2 < c (rf G (rf G a7 0) 11) 0 then (0 : Int32) else 1) = 0
  · rw [if_pos d5] at e1
    rw [if_neg (fl.mp d5)] at e2
    exact fin_w C7 S8 h q1 q3 e1 e2 (tell_mark q2 h.1 (fl_bd (K := 6) (k := 5) (by decide) hcap trb d5) (hs_bd tb c1') (inW (lo := 1) (hi := 9) d2 (by decide) (by decide)) (inW (lo := 0) (hi := 99) d3 (by decide) (by decide)) (inW (lo := 0) (hi := 99) d4 (by decide) (by decide)))
  · rw [if_neg d5] at e1
    rw [if_pos (Classical.byContradiction fun z => d5 (fl.mpr z))] at e2
    exact fin_c C7 S8 h (by decide) e1 e2
/-- the reference wipes the fours too -/
theorem fg57 {s p : Nat} {X : Int32} (hs : s ≤ 6) (hX : X.toInt = p) (hp : p ≤ 100) : ∀ (n k : Nat) (v : Mv), k ≤ 4 * s → 4 * s - k < n → ∃ v' : Mv, K_X8_forget_57 G w a8 n v (nI s) X (nI k) = (nI s, v') ∧ (∀ b, b ≠ rf G a8 1 → v' b = v b) ∧ ∀ j, (j < p ∨ p + 4 * s ≤ j) → v' (rf G a8 1) j = v (rf G a8 1) j := by
  intro n
  induction n with
  | zero => intro k v _ h; omega
  | succ n ih =>
    intro k v hk hf
    have e4 : ((4 : Int32) * nI s).toInt = (4 * s : Nat) := by
      have e := nI_toInt (n := s) (by omega)
      have e2 : (4 : Int32).toInt = 4 := by decide
      rw [fb_mulI (by rw [e, e2]; omega) (by rw [e, e2]; omega), e, e2]
      omega
    rw [K_X8_forget_57]
    by_cases c : (4 : Int32) * nI s ≤ nI k
    · rw [if_pos c]
      exact ⟨v, rfl, fun _ _ => rfl, fun _ _ => rfl⟩
    · have hlt : k < 4 * s := Nat.not_le.mp fun z => c ((le_nI (4 * s) e4 (by omega)).mpr z)
      rw [if_neg c, nI_1, ixw p k hX (by omega) (by omega)]
      obtain ⟨v', r1, r2, r3⟩ := ih (k + 1) (stv v (rf G a8 1) (p + k) 0) (by omega) (by omega)
      exact ⟨v', r1, fun b hb => (r2 b hb).trans (stv_row hb), fun j hj => (r3 j hj).trans (stv_k (by omega))⟩
theorem drop_9 {a ha : Nat} (C : Ch6 G a ha) (hR : RW G (rf G a8 1) c u a 0) : (F_X4_drop_5 G w c (rf G a 9)).1 = (K_X8_forget_44 G w' a8 u 0 (u (rf G a8 1) 2) 50).1 ∧ RW G (rf G a8 1) (F_X4_drop_5 G w c (rf G a 9)).2 (K_X8_forget_44 G w' a8 u 0 (u (rf G a8 1) 2) 50).2 a 0 ∧ (∀ f, (f < a ∨ ha ≤ f) → (F_X4_drop_5 G w c (rf G a 9)).2 f = c f) ∧ (∀ j, 246 ≤ j → (K_X8_forget_44 G w' a8 u 0 (u (rf G a8 1) 2) 50).2 (rf G a8 1) j = u (rf G a8 1) j) ∧ ∀ b, b ≠ rf G a8 1 → (K_X8_forget_44 G w' a8 u 0 (u (rf G a8 1) 2) 50).2 b = u b := by
  obtain ⟨⟨⟨b1, b2⟩, ⟨b3, b4⟩, b5, b6, b7, b8⟩, p9, p10, p11⟩ := hR
  obtain ⟨k1, k2, k3, k4, k5, ⟨k6, k7⟩, k8, k9, k10, k11, k12, k13, k14, k15, -⟩ := C
  unfold Ch4 at k10 k12 k14
  have hT : nn (c a 0) ≤ 7 := nn_le b3
  have hO : nn (c a 3) ≤ 7 := nn_le b4
  have pI : c (rf G a 9) 2 = u (rf G a8 1) 2 := p9.1.1
  obtain ⟨s, hs1, hs2⟩ := bd_nI (n := 5) p9.1.2
  unfold K_X8_forget_44
  rw [show Int32.toNatClampNeg (2 + 0) = 2 from by decide, ← pI, hs2]
  obtain ⟨v', f1, f2, f3⟩ := fg57 (G := G) (w := w') (a8 := a8) (s := s) (p := 50) (X := 50) (by omega) (by decide) (by omega) 61 0 (stv u (rf G a8 1) 2 0) (by omega) (by omega)
  have f1 : K_X8_forget_57 G w' a8 61 (stv u (rf G a8 1) 2 0) (nI s) 50 0 = (nI s, v') := f1
  rw [f1]
  have eC : F_X4_drop_5 G w c (rf G a 9) = (c (rf G a 9) 2, stv c (rf G a 9) 2 0) := rfl
  rw [eC]
  have fo : ∀ f, f ≠ rf G a 9 → (stv c (rf G a 9) 2 0) f = c f := fun f q => stv_row q
  have g : ∀ j, j ≠ 2 → (j < 50 ∨ 50 + 20 ≤ j) → v' (rf G a8 1) j = u (rf G a8 1) j := fun j q1 q2 => (f3 j (by omega)).trans (stv_k q1)
  have gi : v' (rf G a8 1) (0 + 2) = 0 := (f3 (0 + 2) (by omega)).trans stv_s
  refine ⟨hs2, ?_, fun f hf => fo f (by omega), fun j hj => g j (by omega) (by omega), fun b hb => (f2 b hb).trans (stv_row hb)⟩
  have ra := fo a (by omega)
  have rr1 := fo (rf G a 1) (by omega)
  have rr2 := fo (rf G a 2) (by omega)
  have rr4 := fo (rf G a 4) (by omega)
  have rr5 := fo (rf G a 5) (by omega)
  show RW G (rf G a8 1) (stv c (rf G a 9) 2 0) v' a 0
  unfold RW RB
  rw [ra, rr1, rr2, rr4, rr5]
  exact ⟨⟨⟨b1.trans (g 0 (by omega) (by omega)).symm, b2.trans (g (0 + 1) (by omega) (by omega)).symm⟩, ⟨b3, b4⟩, b5.congr (fun t ht => rfl) (fun t ht => g _ (by omega) (by omega)), b6.congr (fun t ht => rfl) (fun t ht => g _ (by omega) (by omega)), b7.congr (fun t ht => rfl) (fun t ht => g _ (by omega) (by omega)), b8.congr (fun t ht => rfl) (fun t ht => g _ (by omega) (by omega))⟩, RR.zero stv_s gi, p10.tr (by rw [fo (rf G a 10) (by omega)]) (fun t _ => by rw [fo (rf G (rf G a 10) 1) (by omega)]) (g _ (by omega) (by omega)) (fun t ht => g _ (by omega) (by omega)), p11.tr (by rw [fo (rf G a 11) (by omega)]) (fun t _ => by rw [fo (rf G (rf G a 11) 1) (by omega)]) (g _ (by omega) (by omega)) (fun t ht => g _ (by omega) (by omega))⟩
theorem drop_10 {a ha : Nat} (C : Ch6 G a ha) (hR : RW G (rf G a8 1) c u a 0) : (F_X4_drop_6 G w c (rf G a 10)).1 = (K_X8_forget_44 G w' a8 u 1 (u (rf G a8 1) 3) 70).1 ∧ RW G (rf G a8 1) (F_X4_drop_6 G w c (rf G a 10)).2 (K_X8_forget_44 G w' a8 u 1 (u (rf G a8 1) 3) 70).2 a 0 ∧ (∀ f, (f < a ∨ ha ≤ f) → (F_X4_drop_6 G w c (rf G a 10)).2 f = c f) ∧ (∀ j, 246 ≤ j → (K_X8_forget_44 G w' a8 u 1 (u (rf G a8 1) 3) 70).2 (rf G a8 1) j = u (rf G a8 1) j) ∧ ∀ b, b ≠ rf G a8 1 → (K_X8_forget_44 G w' a8 u 1 (u (rf G a8 1) 3) 70).2 b = u b := by
  obtain ⟨⟨⟨b1, b2⟩, ⟨b3, b4⟩, b5, b6, b7, b8⟩, p9, p10, p11⟩ := hR
  obtain ⟨k1, k2, k3, k4, k5, ⟨k6, k7⟩, k8, k9, k10, k11, k12, k13, k14, k15, -⟩ := C
  unfold Ch4 at k10 k12 k14
  have hT : nn (c a 0) ≤ 7 := nn_le b3
  have hO : nn (c a 3) ≤ 7 := nn_le b4
  have pI : c (rf G a 10) 2 = u (rf G a8 1) 3 := p10.1.1
  obtain ⟨s, hs1, hs2⟩ := bd_nI (n := 6) p10.1.2
  unfold K_X8_forget_44
  rw [show Int32.toNatClampNeg (2 + 1) = 3 from by decide, ← pI, hs2]
  obtain ⟨v', f1, f2, f3⟩ := fg57 (G := G) (w := w') (a8 := a8) (s := s) (p := 70) (X := 70) (by omega) (by decide) (by omega) 61 0 (stv u (rf G a8 1) 3 0) (by omega) (by omega)
  have f1 : K_X8_forget_57 G w' a8 61 (stv u (rf G a8 1) 3 0) (nI s) 70 0 = (nI s, v') := f1
  rw [f1]
  have eC : F_X4_drop_6 G w c (rf G a 10) = (c (rf G a 10) 2, stv c (rf G a 10) 2 0) := rfl
  rw [eC]
  have fo : ∀ f, f ≠ rf G a 10 → (stv c (rf G a 10) 2 0) f = c f := fun f q => stv_row q
  have g : ∀ j, j ≠ 3 → (j < 70 ∨ 70 + 24 ≤ j) → v' (rf G a8 1) j = u (rf G a8 1) j := fun j q1 q2 => (f3 j (by omega)).trans (stv_k q1)
  have gi : v' (rf G a8 1) (0 + 3) = 0 := (f3 (0 + 3) (by omega)).trans stv_s
  refine ⟨hs2, ?_, fun f hf => fo f (by omega), fun j hj => g j (by omega) (by omega), fun b hb => (f2 b hb).trans (stv_row hb)⟩
  have ra := fo a (by omega)
  have rr1 := fo (rf G a 1) (by omega)
  have rr2 := fo (rf G a 2) (by omega)
  have rr4 := fo (rf G a 4) (by omega)
  have rr5 := fo (rf G a 5) (by omega)
  show RW G (rf G a8 1) (stv c (rf G a 10) 2 0) v' a 0
  unfold RW RB
  rw [ra, rr1, rr2, rr4, rr5]
  exact ⟨⟨⟨b1.trans (g 0 (by omega) (by omega)).symm, b2.trans (g (0 + 1) (by omega) (by omega)).symm⟩, ⟨b3, b4⟩, b5.congr (fun t ht => rfl) (fun t ht => g _ (by omega) (by omega)), b6.congr (fun t ht => rfl) (fun t ht => g _ (by omega) (by omega)), b7.congr (fun t ht => rfl) (fun t ht => g _ (by omega) (by omega)), b8.congr (fun t ht => rfl) (fun t ht => g _ (by omega) (by omega))⟩, p9.tr (by rw [fo (rf G a 9) (by omega)]) (fun t _ => by rw [fo (rf G (rf G a 9) 1) (by omega)]) (g _ (by omega) (by omega)) (fun t ht => g _ (by omega) (by omega)), RR.zero stv_s gi, p11.tr (by rw [fo (rf G a 11) (by omega)]) (fun t _ => by rw [fo (rf G (rf G a 11) 1) (by omega)]) (g _ (by omega) (by omega)) (fun t ht => g _ (by omega) (by omega))⟩
theorem drop_11 {a ha : Nat} (C : Ch6 G a ha) (hR : RW G (rf G a8 1) c u a 0) : (F_X4_drop_6 G w c (rf G a 11)).1 = (K_X8_forget_44 G w' a8 u 2 (u (rf G a8 1) 4) 94).1 ∧ RW G (rf G a8 1) (F_X4_drop_6 G w c (rf G a 11)).2 (K_X8_forget_44 G w' a8 u 2 (u (rf G a8 1) 4) 94).2 a 0 ∧ (∀ f, (f < a ∨ ha ≤ f) → (F_X4_drop_6 G w c (rf G a 11)).2 f = c f) ∧ (∀ j, 246 ≤ j → (K_X8_forget_44 G w' a8 u 2 (u (rf G a8 1) 4) 94).2 (rf G a8 1) j = u (rf G a8 1) j) ∧ ∀ b, b ≠ rf G a8 1 → (K_X8_forget_44 G w' a8 u 2 (u (rf G a8 1) 4) 94).2 b = u b := by
  obtain ⟨⟨⟨b1, b2⟩, ⟨b3, b4⟩, b5, b6, b7, b8⟩, p9, p10, p11⟩ := hR
  obtain ⟨k1, k2, k3, k4, k5, ⟨k6, k7⟩, k8, k9, k10, k11, k12, k13, k14, k15, -⟩ := C
  unfold Ch4 at k10 k12 k14
  have hT : nn (c a 0) ≤ 7 := nn_le b3
  have hO : nn (c a 3) ≤ 7 := nn_le b4
  have pI : c (rf G a 11) 2 = u (rf G a8 1) 4 := p11.1.1
  obtain ⟨s, hs1, hs2⟩ := bd_nI (n := 6) p11.1.2
  unfold K_X8_forget_44
  rw [show Int32.toNatClampNeg (2 + 2) = 4 from by decide, ← pI, hs2]
  obtain ⟨v', f1, f2, f3⟩ := fg57 (G := G) (w := w') (a8 := a8) (s := s) (p := 94) (X := 94) (by omega) (by decide) (by omega) 61 0 (stv u (rf G a8 1) 4 0) (by omega) (by omega)
  have f1 : K_X8_forget_57 G w' a8 61 (stv u (rf G a8 1) 4 0) (nI s) 94 0 = (nI s, v') := f1
  rw [f1]
  have eC : F_X4_drop_6 G w c (rf G a 11) = (c (rf G a 11) 2, stv c (rf G a 11) 2 0) := rfl
  rw [eC]
  have fo : ∀ f, f ≠ rf G a 11 → (stv c (rf G a 11) 2 0) f = c f := fun f q => stv_row q
  have g : ∀ j, j ≠ 4 → (j < 94 ∨ 94 + 24 ≤ j) → v' (rf G a8 1) j = u (rf G a8 1) j := fun j q1 q2 => (f3 j (by omega)).trans (stv_k q1)
  have gi : v' (rf G a8 1) (0 + 4) = 0 := (f3 (0 + 4) (by omega)).trans stv_s
  refine ⟨hs2, ?_, fun f hf => fo f (by omega), fun j hj => g j (by omega) (by omega), fun b hb => (f2 b hb).trans (stv_row hb)⟩
  have ra := fo a (by omega)
  have rr1 := fo (rf G a 1) (by omega)
  have rr2 := fo (rf G a 2) (by omega)
  have rr4 := fo (rf G a 4) (by omega)
  have rr5 := fo (rf G a 5) (by omega)
  show RW G (rf G a8 1) (stv c (rf G a 11) 2 0) v' a 0
  unfold RW RB
  rw [ra, rr1, rr2, rr4, rr5]
  exact ⟨⟨⟨b1.trans (g 0 (by omega) (by omega)).symm, b2.trans (g (0 + 1) (by omega) (by omega)).symm⟩, ⟨b3, b4⟩, b5.congr (fun t ht => rfl) (fun t ht => g _ (by omega) (by omega)), b6.congr (fun t ht => rfl) (fun t ht => g _ (by omega) (by omega)), b7.congr (fun t ht => rfl) (fun t ht => g _ (by omega) (by omega)), b8.congr (fun t ht => rfl) (fun t ht => g _ (by omega) (by omega))⟩, p9.tr (by rw [fo (rf G a 9) (by omega)]) (fun t _ => by rw [fo (rf G (rf G a 9) 1) (by omega)]) (g _ (by omega) (by omega)) (fun t ht => g _ (by omega) (by omega)), p10.tr (by rw [fo (rf G a 10) (by omega)]) (fun t _ => by rw [fo (rf G (rf G a 10) 1) (by omega)]) (g _ (by omega) (by omega)) (fun t ht => g _ (by omega) (by omega)), RR.zero stv_s gi⟩
theorem m_forget (C7 : Ch7 G a7 h4) (S8 : S_X8 G a8) (h : RX G a7 a8 c u) (e1 : (r1, c1) = F_X7_forget G w c a7 x) (e2 : (r2, u1) = F_X8_forget G w' u a8 x) : r1 = r2 ∧ RX G a7 a8 c1 u1 := by
  obtain ⟨h1, q1, q2, q3⟩ := lay0 C7
  unfold F_X7_forget K_X7_forget_e K_X7_forget_c1 K_X7_forget_c2 K_X7_forget_c3 K_X7_forget_c4 F_X7_bad K_X7_bad_e at e1
  unfold F_X8_forget K_X8_forget_e K_X8_forget_c1 F_X8_bad K_X8_bad_e at e2
  rw [in8 (G' := G) (w' := w) (v' := c)] at e2
  by_cases d1 : F_X7_isWithin G w c x 0 2 = 0
  · rw [if_pos d1] at e1 e2
    exact fin_c C7 S8 h (by decide) e1 e2
  rw [if_neg d1] at e1 e2
  by_cases d2 : x = 0
  · rw [if_pos d2] at e1 e2
    rw [d2, show Int32.toNatClampNeg (2 + 0) = 2 from by decide] at e2
    exact fin_w C7 S8 h q1 q3 e1 e2 (drop_9 q2 h.1)
  rw [if_neg d2] at e1 e2
  by_cases d3 : x = 1
  · rw [if_pos d3] at e1 e2
    rw [d3, show Int32.toNatClampNeg (2 + 1) = 3 from by decide] at e2
    exact fin_w C7 S8 h q1 q3 e1 e2 (drop_10 q2 h.1)
  rw [if_neg d3] at e1 e2
  have hb := inW d1 (lo := 0) (hi := 2) (by decide) (by decide)
  have hx : x = 2 := by
    have n0 : x.toInt ≠ 0 := fun z => d2 (i_eq (z.trans (by decide)))
    have n1 : x.toInt ≠ 1 := fun z => d3 (i_eq (z.trans (by decide)))
    obtain ⟨l1, l2⟩ := hb
    exact i_eq (by rw [show (2 : Int32).toInt = 2 from by decide]; omega)
  rw [hx, show Int32.toNatClampNeg (2 + 2) = 4 from by decide] at e2
  exact fin_w C7 S8 h q1 q3 e1 e2 (drop_11 q2 h.1)
end MET2
