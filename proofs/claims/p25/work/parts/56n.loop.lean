section IT5
variable {G : Gm} {w : Mw} {rd a8 hi : Nat} {c u c1 u1 : Mv} {x : Int32}
theorem may_big {s : Int32} (h : 5 < s) : F_X8_may G w u a8 s = 0 := by
  unfold F_X8_may K_X8_may_e
  rw [if_pos h]
theorem may_0y (h : u a8 11 = 0) : F_X8_may G w u a8 0 = 1 := by
  unfold F_X8_may K_X8_may_e K_X8_may_14 K_X8_may_26 K_X8_may_49 K_X8_may_67
  rw [if_neg (show ¬ (5 : Int32) < 0 by decide), if_pos (show (0 : Int32) = 0 from rfl), if_pos h, if_pos (show (1 : Int32) = 1 from rfl), if_neg (show ¬ (0 : Int32) = 1 by decide), if_neg (show ¬ (0 : Int32) = 2 by decide)]
theorem may_0n (h : ¬ u a8 11 = 0) : F_X8_may G w u a8 0 = 0 := by
  unfold F_X8_may K_X8_may_e K_X8_may_14 K_X8_may_26
  rw [if_neg (show ¬ (5 : Int32) < 0 by decide), if_pos (show (0 : Int32) = 0 from rfl), if_neg h, if_neg (show ¬ (1 : Int32) = 0 by decide)]
theorem may_kn {s : Int32} (h5 : ¬ 5 < s) (h0 : ¬ s = 0) (h : u a8 11 = 0) : F_X8_may G w u a8 s = 0 := by
  unfold F_X8_may K_X8_may_e K_X8_may_14 K_X8_may_26
  rw [if_neg h5, if_neg h0, if_pos h, if_neg (show ¬ (0 : Int32) = 1 by decide)]
theorem may_ky {s : Int32} (h5 : ¬ 5 < s) (h0 : ¬ s = 0) (h : ¬ u a8 11 = 0) (h1 : s = 1 → ¬ 7 ≤ u (rf G a8 1) 738) (h2 : s = 2 → ¬ 7 ≤ u (rf G a8 1) 739) : F_X8_may G w u a8 s = 1 := by
  unfold F_X8_may K_X8_may_e K_X8_may_14 K_X8_may_26 K_X8_may_49 K_X8_may_67
  rw [if_neg h5, if_neg h0, if_neg h, if_pos (show (0 : Int32) = 0 from rfl), show Int32.toNatClampNeg 738 = 738 from by decide, show Int32.toNatClampNeg 739 = 739 from by decide]
  by_cases q1 : s = 1
  · rw [if_pos q1, if_neg (h1 q1), if_neg (show ¬ s = 2 by rw [q1]; decide)]
  · rw [if_neg q1]
    by_cases q2 : s = 2
    · rw [if_pos q2, if_neg (h2 q2)]
    · rw [if_neg q2]
theorem may_1n (h : ¬ u a8 11 = 0) (h1 : 7 ≤ u (rf G a8 1) 738) : F_X8_may G w u a8 1 = 0 := by
  unfold F_X8_may K_X8_may_e K_X8_may_14 K_X8_may_26
  rw [if_neg (show ¬ (5 : Int32) < 1 by decide), if_neg (show ¬ (1 : Int32) = 0 by decide), if_neg h, if_pos (show (0 : Int32) = 0 from rfl), if_pos (show (1 : Int32) = 1 from rfl), show Int32.toNatClampNeg 738 = 738 from by decide, if_pos h1]
theorem may_2n (h : ¬ u a8 11 = 0) (h1 : 7 ≤ u (rf G a8 1) 739) : F_X8_may G w u a8 2 = 0 := by
  unfold F_X8_may K_X8_may_e K_X8_may_14 K_X8_may_26 K_X8_may_49
  rw [if_neg (show ¬ (5 : Int32) < 2 by decide), if_neg (show ¬ (2 : Int32) = 0 by decide), if_neg h, if_pos (show (0 : Int32) = 0 from rfl), if_neg (show ¬ (2 : Int32) = 1 by decide), if_pos (show (2 : Int32) = 2 from rfl), show Int32.toNatClampNeg 739 = 739 from by decide, if_pos h1]
theorem bd6 {x : Int32} (h : Bd x 0 7) (h7 : ¬ 7 ≤ x) : Bd x 0 6 := Bd.lt_l (nle h7) h (Bd.lit 7 7 (by decide)) 6 (by decide)
theorem it_0 : F_X8_item G w u a8 (Int32.ofNat 0) = u := by
  unfold F_X8_item K_X8_item_e
  rw [if_pos (by decide)]
theorem it_1 : F_X8_item G w u a8 (Int32.ofNat 1) = F_X8_readThing G w u a8 := by
  unfold F_X8_item K_X8_item_e K_X8_item_c1
  rw [if_neg (by decide), if_pos (by decide)]
theorem it_2 : F_X8_item G w u a8 (Int32.ofNat 2) = F_X8_readOne G w u a8 := by
  unfold F_X8_item K_X8_item_e K_X8_item_c2
  rw [if_neg (by decide), if_neg (by decide), if_pos (by decide)]
theorem it_3 : F_X8_item G w u a8 (Int32.ofNat 3) = F_X8_readOwn G w u a8 := by
  unfold F_X8_item K_X8_item_e K_X8_item_c3
  rw [if_neg (by decide), if_neg (by decide), if_neg (by decide), if_pos (by decide)]
theorem it_4 : F_X8_item G w u a8 (Int32.ofNat 4) = F_X8_readLeave G w u a8 := by
  unfold F_X8_item K_X8_item_e K_X8_item_c4
  rw [if_neg (by decide), if_neg (by decide), if_neg (by decide), if_neg (by decide), if_pos (by decide)]
theorem it_5 : F_X8_item G w u a8 (Int32.ofNat 5) = F_X8_readYears G w u a8 := by
  unfold F_X8_item K_X8_item_e K_X8_item_c5
  rw [if_neg (by decide), if_neg (by decide), if_neg (by decide), if_neg (by decide), if_neg (by decide)]
theorem ti_f (h : F_X3_isWord G w c rd 0 = x) : F_X3_takeItem G w c rd 1 = (x, c) := by
  unfold F_X3_takeItem K_X3_takeItem_e
  rw [if_neg (show ¬ (1 : Int32) = 0 by decide), h]
theorem ti_0 (w1 : F_X3_isWord G w c rd 1 = 0) (w2 : F_X3_isWord G w c rd 2 = 0) (w3 : F_X3_isWord G w c rd 3 = 0) (w4 : F_X3_isWord G w c rd 4 = 0) (w5 : F_X3_isWord G w c rd 5 = 0) : F_X3_takeItem G w c rd 0 = (0, c) := by
  unfold F_X3_takeItem K_X3_takeItem_e
  rw [if_pos (show (0 : Int32) = 0 from rfl), if_pos w1, if_pos w2, if_pos w3, if_pos w4, if_pos w5]
theorem ti_1 (w1 : F_X3_isWord G w c rd 1 = 1) : F_X3_takeItem G w c rd 0 = F_X3_takeThing G w c rd := by
  unfold F_X3_takeItem K_X3_takeItem_e K_X3_takeItem_c5
  rw [if_pos (show (0 : Int32) = 0 from rfl), if_neg (by rw [w1]; decide)]
theorem ti_2 (w1 : F_X3_isWord G w c rd 1 = 0) (w2 : F_X3_isWord G w c rd 2 = 1) : F_X3_takeItem G w c rd 0 = F_X3_takeOne G w c rd := by
  unfold F_X3_takeItem K_X3_takeItem_e K_X3_takeItem_c4
  rw [if_pos (show (0 : Int32) = 0 from rfl), if_pos w1, if_neg (by rw [w2]; decide)]
theorem ti_3 (w1 : F_X3_isWord G w c rd 1 = 0) (w2 : F_X3_isWord G w c rd 2 = 0) (w3 : F_X3_isWord G w c rd 3 = 1) : F_X3_takeItem G w c rd 0 = F_X3_takeOwn G w c rd := by
  unfold F_X3_takeItem K_X3_takeItem_e K_X3_takeItem_c3
  rw [if_pos (show (0 : Int32) = 0 from rfl), if_pos w1, if_pos w2, if_neg (by rw [w3]; decide)]
theorem ti_4 (w1 : F_X3_isWord G w c rd 1 = 0) (w2 : F_X3_isWord G w c rd 2 = 0) (w3 : F_X3_isWord G w c rd 3 = 0) (w4 : F_X3_isWord G w c rd 4 = 1) : F_X3_takeItem G w c rd 0 = F_X3_takeLeave G w c rd := by
  unfold F_X3_takeItem K_X3_takeItem_e K_X3_takeItem_c2
  rw [if_pos (show (0 : Int32) = 0 from rfl), if_pos w1, if_pos w2, if_pos w3, if_neg (by rw [w4]; decide)]
theorem ti_5 {r : Int32} {c' : Mv} (w1 : F_X3_isWord G w c rd 1 = 0) (w2 : F_X3_isWord G w c rd 2 = 0) (w3 : F_X3_isWord G w c rd 3 = 0) (w4 : F_X3_isWord G w c rd 4 = 0) (w5 : F_X3_isWord G w c rd 5 = 1) (e : F_X3_takeYears G w c rd = (r, c')) (hr : r = 1 ∨ r = 0) : F_X3_takeItem G w c rd 0 = (r, c') := by
  unfold F_X3_takeItem K_X3_takeItem_e K_X3_takeItem_c1
  rw [if_pos (show (0 : Int32) = 0 from rfl), if_pos w1, if_pos w2, if_pos w3, if_pos w4, if_neg (by rw [w5]; decide), e]
  rcases hr with q | q
  · rw [q]; exact if_neg (show ¬ (1 : Int32) = 0 by decide)
  · rw [q]; exact if_pos rfl
/-- an ITEM -/
theorem item_sim (S3 : S_X3 G rd) (S8 : S_X8 G a8) (C : Ch3 G rd hi) (h : CUR G w rd a8 c u) (first : Int32) (hf : (first = 1 ∧ u a8 11 = 0) ∨ (first = 0 ∧ ¬ u a8 11 = 0)) : ∃ (r : Int32) (c' : Mv), F_X3_takeItem G w c rd first = (r, c') ∧ FRD G rd c c' ∧ ((r = 0 ∧ F_X8_may G w u a8 (u a8 8) = 0 ∧ c' rd 4 = u a8 7) ∨ (F_X8_may G w u a8 (u a8 8) = 1 ∧ OUT G w rd a8 r c' (F_X8_item G w (F_X8_step G w u a8) a8 (u a8 8)) ∧ FSA G a8 u (F_X8_item G w (F_X8_step G w u a8) a8 (u a8 8)))) := by
  obtain ⟨s1, s2⟩ := h.step S3 S8
  have g2 := FS.d (G := G) S8 s2
  obtain ⟨⟨⟨b1, b2⟩, ⟨b3, b4⟩, -⟩, -⟩ := id h.2.1
  have b2' : c (rf G rd 6) 3 = u (rf G a8 1) 739 := b2
  have h47 := h.2.2.2.1.1
  generalize F_X8_step G w u a8 = v at *
  rcases h.2.2.2.2.2.2 with ⟨i, i1, i2, i3, hW⟩ | ⟨hW, hK⟩
  · have v0 := hW 0 (by omega)
    have v1 := hW 1 (by omega)
    have v2 := hW 2 (by omega)
    have v3 := hW 3 (by omega)
    have v4 := hW 4 (by omega)
    have v5 := hW 5 (by omega)
    rw [i3]
    rcases hf with ⟨f1, f2⟩ | ⟨f1, f2⟩
    · -- the first word
      rw [f1]
      match i, i1 with
      | 0, _ => exact ⟨1, c, ti_f v0, frd_rf, Or.inr ⟨may_0y f2, by rw [it_0]; exact Or.inl ⟨rfl, s1⟩, by rw [it_0]; exact g2⟩⟩
      | 1, _ => exact ⟨0, c, ti_f v0, frd_rf, Or.inl ⟨rfl, may_kn (by decide) (by decide) f2, h47⟩⟩
      | 2, _ => exact ⟨0, c, ti_f v0, frd_rf, Or.inl ⟨rfl, may_kn (by decide) (by decide) f2, h47⟩⟩
      | 3, _ => exact ⟨0, c, ti_f v0, frd_rf, Or.inl ⟨rfl, may_kn (by decide) (by decide) f2, h47⟩⟩
      | 4, _ => exact ⟨0, c, ti_f v0, frd_rf, Or.inl ⟨rfl, may_kn (by decide) (by decide) f2, h47⟩⟩
      | 5, _ => exact ⟨0, c, ti_f v0, frd_rf, Or.inl ⟨rfl, may_kn (by decide) (by decide) f2, h47⟩⟩
      | (k + 6), q => exact absurd q (by omega)
    · rw [f1]
      match i, i1 with
      | 0, _ => exact ⟨0, c, ti_0 v1 v2 v3 v4 v5, frd_rf, Or.inl ⟨rfl, may_0n f2, h47⟩⟩
      | 1, _ =>
        by_cases c7 : 7 ≤ c (rf G rd 6) 0
        · refine ⟨0, c, (ti_1 v1).trans ?_, frd_rf, Or.inl ⟨rfl, may_1n f2 (by rw [← b1]; exact c7), h47⟩⟩
          unfold F_X3_takeThing K_X3_takeThing_e
          rw [if_pos c7]
        · obtain ⟨r, c', e, o, f, g⟩ := thing_sim S3 S8 C s1 (bd6 b3 c7)
          exact ⟨r, c', (ti_1 v1).trans e, f, Or.inr ⟨may_ky (by decide) (by decide) f2 (fun _ => by rw [← b1]; exact c7) (fun q => absurd q (by decide)), by rw [it_1]; exact o, by rw [it_1]; exact g2.tr g⟩⟩
      | 2, _ =>
        by_cases c7 : 7 ≤ c (rf G rd 6) 3
        · refine ⟨0, c, (ti_2 v1 v2).trans ?_, frd_rf, Or.inl ⟨rfl, may_2n f2 (by rw [← b2']; exact c7), h47⟩⟩
          unfold F_X3_takeOne K_X3_takeOne_e
          rw [if_pos c7]
        · obtain ⟨r, c', e, o, f, g⟩ := one_sim S3 S8 C s1 (bd6 b4 c7)
          exact ⟨r, c', (ti_2 v1 v2).trans e, f, Or.inr ⟨may_ky (by decide) (by decide) f2 (fun q => absurd q (by decide)) (fun _ => by rw [← b2']; exact c7), by rw [it_2]; exact o, by rw [it_2]; exact g2.tr g⟩⟩
      | 3, _ =>
        obtain ⟨r, c', e, o, f, g⟩ := own_sim S3 S8 C s1
        exact ⟨r, c', (ti_3 v1 v2 v3).trans e, f, Or.inr ⟨may_ky (by decide) (by decide) f2 (fun q => absurd q (by decide)) (fun q => absurd q (by decide)), by rw [it_3]; exact o, by rw [it_3]; exact g2.tr g⟩⟩
      | 4, _ =>
        obtain ⟨r, c', e, o, f, g⟩ := leave_sim S3 S8 C s1
        exact ⟨r, c', (ti_4 v1 v2 v3 v4).trans e, f, Or.inr ⟨may_ky (by decide) (by decide) f2 (fun q => absurd q (by decide)) (fun q => absurd q (by decide)), by rw [it_4]; exact o, by rw [it_4]; exact g2.tr g⟩⟩
      | 5, _ =>
        obtain ⟨r, c', e, o, f, g⟩ := years_sim S3 S8 C s1
        exact ⟨r, c', ti_5 v1 v2 v3 v4 v5 e (o.imp (fun q => q.1) (fun q => q.1)), f, Or.inr ⟨may_ky (by decide) (by decide) f2 (fun q => absurd q (by decide)) (fun q => absurd q (by decide)), by rw [it_5]; exact o, by rw [it_5]; exact g2.tr g⟩⟩
      | (k + 6), q => exact absurd q (by omega)
  · have h5 : 5 < u a8 8 := by
      rcases hK with ⟨-, k8⟩ | ⟨-, k8⟩ | ⟨-, k8, -⟩ | ⟨-, k8⟩ | ⟨-, k8⟩ <;> rw [k8] <;> decide
    refine ⟨0, c, ?_, frd_rf, Or.inl ⟨rfl, may_big h5, h47⟩⟩
    rcases hf with ⟨f1, -⟩ | ⟨f1, -⟩
    · rw [f1]; exact ti_f (hW 0 (by omega))
    · rw [f1]; exact ti_0 (hW 1 (by omega)) (hW 2 (by omega)) (hW 3 (by omega)) (hW 4 (by omega)) (hW 5 (by omega))
end IT5
