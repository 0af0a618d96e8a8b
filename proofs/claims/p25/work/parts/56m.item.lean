section IT4
variable {G : Gm} {w : Mw} {rd a8 hi : Nat} {c u c1 u1 : Mv}
theorem tL_n {n : Mv} (h : F_X3_takeNumber G w c rd 0 (c (rf G rd 6) 3 - 1) = (0, n)) : F_X3_takeLeave G w c rd = (0, n) := by
  unfold F_X3_takeLeave K_X3_takeLeave_e K_X3_takeLeave_c1
  rw [h]
  exact if_pos rfl
theorem tL_m {n : Mv} (h : F_X3_takeNumber G w c rd 0 (c (rf G rd 6) 3 - 1) = (1, n)) (hm : n (rf G (rf G (rf G rd 6) 6) 1) (nn (n rd 5)) = -1) : F_X3_takeLeave G w c rd = (0, n) := by
  unfold F_X3_takeLeave K_X3_takeLeave_e K_X3_takeLeave_c1
  rw [h]
  exact (if_neg (show ¬ (1 : Int32) = 0 by decide)).trans (if_pos hm)
theorem tL_y {n : Mv} (h : F_X3_takeNumber G w c rd 0 (c (rf G rd 6) 3 - 1) = (1, n)) (hm : ¬ n (rf G (rf G (rf G rd 6) 6) 1) (nn (n rd 5)) = -1) : F_X3_takeLeave G w c rd = (1, stv n (rf G (rf G (rf G rd 6) 6) 1) (nn (n rd 5)) (-1)) := by
  unfold F_X3_takeLeave K_X3_takeLeave_e K_X3_takeLeave_c1
  rw [h]
  exact (if_neg (show ¬ (1 : Int32) = 0 by decide)).trans (if_neg hm)
theorem rL_45 (h10 : u a8 10 = 0) : K_X8_readLeave_45 G w a8 u (u a8 9) = stv u a8 10 1 := by
  unfold K_X8_readLeave_45 K_X8_readLeave_46 K_X8_readLeave_c1
  rw [due_0 h10, if_neg (by rw [stv_s]; decide)]
theorem leave_sim (S3 : S_X3 G rd) (S8 : S_X8 G a8) (C : Ch3 G rd hi) (h : RUN G w rd a8 c u) : ∃ (r : Int32) (c' : Mv), F_X3_takeLeave G w c rd = (r, c') ∧ OUT G w rd a8 r c' (F_X8_readLeave G w u a8) ∧ FRD G rd c c' ∧ FSA G a8 u (F_X8_readLeave G w u a8) := by
  obtain ⟨hc, hf, hp⟩ := h.next S3 S8 C
  have hd6 : rf G rd 6 ≠ rd := by obtain ⟨d1, d2, -⟩ := C; omega
  have h10 : u a8 10 = 0 := hc.2.2.1
  have e6 := hf.row hd6
  have TY := @tn_y G w rd c 0 (c (rf G rd 6) 3 - 1)
  have TN := @tn_n G w rd c 0 (c (rf G rd 6) 3 - 1)
  generalize F_X3_nextToken G w c rd = n at *
  obtain ⟨⟨⟨b1, b2⟩, ⟨b3, b4⟩, -⟩, ⟨-, m3, -, m5⟩⟩ := id hc.2.1
  have b2' : n (rf G rd 6) 3 = u (rf G a8 1) 739 := b2
  have h7 := nn_le (n := 7) b4
  have out0 : OUT G w rd a8 0 n (stv u a8 10 1) := Or.inr ⟨rfl, hc.2.2.2.1.1.trans (stv_k (by decide)).symm, by rw [stv_s]; decide⟩
  rw [← e6] at TY TN
  unfold F_X8_readLeave K_X8_readLeave_e
  rw [show Int32.toNatClampNeg 739 = 739 from by decide, ← b2']
  rcases hc.2.2.2.num with ⟨k3, k8, k5, kb⟩ | ⟨k3, k8⟩
  · rw [if_pos k8]
    by_cases c1 : n (rf G rd 6) 3 ≤ u a8 9
    · rw [if_pos c1, rL_45 h10]
      exact ⟨0, n, tL_n (by rw [← e6]; exact TN (fun q => by have := (sub1 b4).mp q.2.2; rw [k5] at this; exact nle_of_lt this c1)), out0, fr_d C hf (nx_mono hc hp), fsa_wrong S8⟩
    · have hT := TY k3 ⟨by rw [k5]; exact i_le.mpr (by rw [show (0 : Int32).toInt = 0 from by decide]; exact kb.1), by rw [k5]; exact (sub1 b4).mpr (nle c1)⟩
      rw [e6] at hT
      have hi9 := i_lt.mp (nle c1)
      have hn9 : nn (u a8 9) < nn (n (rf G rd 6) 3) := by show (u a8 9).toInt.toNat < (n (rf G rd 6) 3).toInt.toNat; have := kb.1; omega
      have ho := (m5 (nn (u a8 9)) hn9).1
      rw [show 738 + 43 + nn (u a8 9) = 781 + nn (u a8 9) from by omega] at ho
      have hbu : 0 ≤ (u a8 9).toInt ∧ (u a8 9).toInt ≤ 200 := ⟨kb.1, by have := kb.2; omega⟩
      rw [if_neg c1, ixl 781 (by decide) (by decide) hbu]
      by_cases c3 : u (rf G a8 1) (781 + nn (u a8 9)) = -1
      · rw [if_pos c3, rL_45 h10]
        exact ⟨0, n, tL_m hT (by rw [k5]; exact ho.trans c3), out0, fr_d C hf (nx_mono hc hp), fsa_wrong S8⟩
      · rw [if_neg c3]
        unfold K_X8_readLeave_46 K_X8_readLeave_c1
        obtain ⟨s1, s2⟩ := hc.step S3 S8
        rw [due_1 h10 (show ¬ (1 : Int32) = 0 by decide), if_pos s1.2.2.1, ixl 781 (by decide) (by decide) hbu]
        have hd := own_set (i := nn (u a8 9)) (t := -1) C.2.2 s1.2.1.1 s1.2.1.2 hn9 ⟨by decide, by have := b3.1; show (-1 : Int) ≤ _; omega⟩
        refine ⟨1, _, tL_y hT (by rw [k5]; exact fun q => c3 (ho.symm.trans q)), Or.inl ⟨rfl, ?_⟩, (fr_d C hf (nx_mono hc hp)).tr (fdr_d C fdr_own (own8 C)), (FS.d S8 s2).tr (fsa_own S8 (by omega))⟩
        rw [k5]
        exact s1.draft S8 C fdr_own Fa.rf.st hd
  · rw [if_neg k8, rL_45 h10]
    exact ⟨0, n, tL_n (by rw [← e6]; exact TN (fun q => k3 q.1)), out0, fr_d C hf (nx_mono hc hp), fsa_wrong S8⟩
theorem ry_wr (h : ¬ u a8 10 = 0) (x : Int32) : K_X8_readYears_10 G w a8 1024 u x 0 = u := by
  rw [K_X8_readYears_10]
  by_cases c1 : x ≤ 0
  · rw [if_pos c1]
  · rw [if_neg c1, if_neg h]
theorem years_sim (S3 : S_X3 G rd) (S8 : S_X8 G a8) (C : Ch3 G rd hi) (h : RUN G w rd a8 c u) : ∃ (r : Int32) (c' : Mv), F_X3_takeYears G w c rd = (r, c') ∧ OUT G w rd a8 r c' (F_X8_readYears G w u a8) ∧ FRD G rd c c' ∧ FSA G a8 u (F_X8_readYears G w u a8) := by
  obtain ⟨c1, f1, g1, n1⟩ := num_ok S3 S8 C h 1 99
  unfold F_X3_takeYears K_X3_takeYears_e F_X8_readYears K_X8_readYears_e
  generalize hA : F_X8_number G w u a8 1 99 = A at *
  obtain ⟨y1, u1⟩ := A
  unfold K_X8_readYears_c2 K_X3_takeYears_c1
  rcases n1 with ⟨e1, e2, h1, w1, b1, d1⟩ | ⟨e1, e2, e3⟩
  · have e2 : y1 = c1 rd 5 := e2
    have h1 : RUN G w rd a8 c1 u1 := h1
    have eI := nI_nn b1.1
    have hX := nn_le (n := 99) b1
    obtain ⟨c', u', r1, r2, r3, r4, r5⟩ := years_ok (w := w) S8 C.2.2 (nn (c1 rd 5)) hX 101 1024 0 c1 u1 h1.2.1 h1.2.2.1 (by omega) (by omega) (by omega)
    rw [eI] at r1 r2
    have r2' : K_X8_readYears_10 G w a8 1024 u1 (c1 rd 5) 0 = u' := r2
    have r1' : F_X6_passYears G w c1 (rf G rd 6) (rf G (rf G rd 6) 6) (c1 rd 5) 999 = c' := r1
    show ∃ r c', (if (F_X3_takeNumber G w c rd 1 99).1 = 0 then _ else _) = (r, c') ∧ OUT G w rd a8 r c' (K_X8_readYears_10 G w a8 1024 u1 y1 0) ∧ FRD G rd c c' ∧ FSA G a8 u (K_X8_readYears_10 G w a8 1024 u1 y1 0)
    rw [e1, e2, r2']
    refine ⟨1, c', (if_neg (show ¬ (1 : Int32) = 0 by decide)).trans ?_, Or.inl ⟨rfl, h1.draft S8 C (fm_d r4) r5 r3⟩, f1.tr (fdr_d C (fm_d r4) (fun q => by
      obtain ⟨d1, d2, k1, k2, k3, k4, k5, ⟨k6, k7⟩, -⟩ := C
      rw [r4 (rf G rd 6) (by omega) (by omega) (by omega)]
      exact q)), g1.tr ?_⟩
    · show K_X3_takeYears_c2 G w rd (F_X6_passYears G w c1 (rf G rd 6) (rf G (rf G rd 6) 6) (c1 rd 5) 999) = _
      rw [r1']
      rfl
    · exact ⟨fun x _ q => r5.1 x q, fun k _ => by rw [r5.1 a8 (Ne.symm (ne81 S8))], fun j q => r5.2 j q⟩
  · have e3 : ¬ u1 a8 10 = 0 := e3
    show ∃ r c', (if (F_X3_takeNumber G w c rd 1 99).1 = 0 then _ else _) = (r, c') ∧ OUT G w rd a8 r c' (K_X8_readYears_10 G w a8 1024 u1 y1 0) ∧ FRD G rd c c' ∧ FSA G a8 u (K_X8_readYears_10 G w a8 1024 u1 y1 0)
    rw [e1, ry_wr e3]
    exact ⟨0, c1, if_pos rfl, Or.inr ⟨rfl, e2, e3⟩, f1, g1⟩
end IT4
