section IT3
variable {G : Gm} {w : Mw} {rd a8 hi : Nat} {c u c1 u1 : Mv}
theorem ofN_lt {i : Nat} (h : i < 6) {k : Int32} (hk : 6 ≤ k.toInt) : ¬ Int32.ofNat i = k := fun q => by
  have := congrArg Int32.toInt q
  rw [Int32.toInt_ofNat_of_lt (by omega)] at this
  omega
theorem TK.num (h : TK G w rd a8 c u) : (c rd 3 = 2 ∧ u a8 8 = 6 ∧ c rd 5 = u a8 9 ∧ Bd (u a8 9) 0 99) ∨ (¬ c rd 3 = 2 ∧ ¬ u a8 8 = 6) := by
  rcases h.2.2.2 with ⟨i, i1, i2, i3, -⟩ | ⟨-, ⟨k3, k8⟩ | ⟨k3, k8⟩ | ⟨k3, k8, k5, kb⟩ | ⟨k3, k8⟩ | ⟨k3, k8⟩⟩
  · exact Or.inr ⟨by rw [i2]; decide, by rw [i3]; exact ofN_lt i1 (by decide)⟩
  · exact Or.inr ⟨by rw [k3]; decide, by rw [k8]; decide⟩
  · exact Or.inr ⟨by rw [k3]; decide, by rw [k8]; decide⟩
  · exact Or.inl ⟨k3, k8, k5, kb⟩
  · exact Or.inr ⟨by rw [k3]; decide, by rw [k8]; decide⟩
  · exact Or.inr ⟨by rw [k3]; decide, by rw [k8]; decide⟩
theorem TK.stop (h : TK G w rd a8 c u) : (c rd 3 = 3 ∧ u a8 8 = 7) ∨ (¬ c rd 3 = 3 ∧ ¬ u a8 8 = 7) := by
  rcases h.2.2.2 with ⟨i, i1, i2, i3, -⟩ | ⟨-, ⟨k3, k8⟩ | ⟨k3, k8⟩ | ⟨k3, k8, k5, kb⟩ | ⟨k3, k8⟩ | ⟨k3, k8⟩⟩
  · exact Or.inr ⟨by rw [i2]; decide, by rw [i3]; exact ofN_lt i1 (by decide)⟩
  · exact Or.inr ⟨by rw [k3]; decide, by rw [k8]; decide⟩
  · exact Or.inr ⟨by rw [k3]; decide, by rw [k8]; decide⟩
  · exact Or.inr ⟨by rw [k3]; decide, by rw [k8]; decide⟩
  · exact Or.inl ⟨k3, k8⟩
  · exact Or.inr ⟨by rw [k3]; decide, by rw [k8]; decide⟩
theorem TK.fin (h : TK G w rd a8 c u) : (c rd 3 = 0 ∧ u a8 8 = 8) ∨ (¬ c rd 3 = 0 ∧ ¬ u a8 8 = 8) := by
  rcases h.2.2.2 with ⟨i, i1, i2, i3, -⟩ | ⟨-, ⟨k3, k8⟩ | ⟨k3, k8⟩ | ⟨k3, k8, k5, kb⟩ | ⟨k3, k8⟩ | ⟨k3, k8⟩⟩
  · exact Or.inr ⟨by rw [i2]; decide, by rw [i3]; exact ofN_lt i1 (by decide)⟩
  · exact Or.inl ⟨k3, k8⟩
  · exact Or.inr ⟨by rw [k3]; decide, by rw [k8]; decide⟩
  · exact Or.inr ⟨by rw [k3]; decide, by rw [k8]; decide⟩
  · exact Or.inr ⟨by rw [k3]; decide, by rw [k8]; decide⟩
  · exact Or.inr ⟨by rw [k3]; decide, by rw [k8]; decide⟩
theorem tn_y {lo up : Int32} (h3 : (F_X3_nextToken G w c rd) rd 3 = 2) (h5 : lo ≤ (F_X3_nextToken G w c rd) rd 5 ∧ (F_X3_nextToken G w c rd) rd 5 ≤ up) : F_X3_takeNumber G w c rd lo up = (1, F_X3_nextToken G w c rd) := by
  unfold F_X3_takeNumber K_X3_takeNumber_e K_X3_takeNumber_c1
  rw [if_pos h3, if_neg (fun q => isW0.mp q h5)]
theorem tn_n {lo up : Int32} (h : ¬ ((F_X3_nextToken G w c rd) rd 3 = 2 ∧ lo ≤ (F_X3_nextToken G w c rd) rd 5 ∧ (F_X3_nextToken G w c rd) rd 5 ≤ up)) : F_X3_takeNumber G w c rd lo up = (0, F_X3_nextToken G w c rd) := by
  unfold F_X3_takeNumber K_X3_takeNumber_e K_X3_takeNumber_c1
  by_cases h3 : (F_X3_nextToken G w c rd) rd 3 = 2
  · rw [if_pos h3, if_pos (isW0.mpr (fun q => h ⟨h3, q⟩))]
  · rw [if_neg h3]
theorem sub1 {x y : Int32} (hx : Bd x 0 7) : y ≤ x - 1 ↔ y < x := by
  have e1 : (1 : Int32).toInt = 1 := by decide
  have := hx.1
  have := hx.2
  have e : (x - 1).toInt = x.toInt - 1 := by rw [fb_subI (by rw [e1]; omega) (by rw [e1]; omega), e1]
  rw [i_le, i_lt, e]
  omega
theorem own_wr (h : ¬ u a8 10 = 0) (x : Int32) : K_X8_readOwn_c2 G w a8 u x = u := by
  unfold K_X8_readOwn_c2 K_X8_readOwn_124 K_X8_readOwn_125 K_X8_readOwn_c1
  rw [due_w h, due_w h, if_neg h]
  split
  · split
    · rfl
    · split <;> rfl
  · rfl
theorem tO_n {n : Mv} (h : F_X3_takeNumber G w c rd 0 (c (rf G rd 6) 3 - 1) = (0, n)) : F_X3_takeOwn G w c rd = (0, n) := by
  unfold F_X3_takeOwn K_X3_takeOwn_e K_X3_takeOwn_c1
  rw [h]
  exact if_pos rfl
theorem tO_m {n : Mv} (h : F_X3_takeNumber G w c rd 0 (c (rf G rd 6) 3 - 1) = (1, n)) (hm : F_X6_mayGet G w n (rf G rd 6) (n rd 5) = 0) : F_X3_takeOwn G w c rd = (0, n) := by
  unfold F_X3_takeOwn K_X3_takeOwn_e K_X3_takeOwn_c1
  rw [h]
  exact (if_neg (show ¬ (1 : Int32) = 0 by decide)).trans (if_pos hm)
theorem tO_y {n : Mv} (h : F_X3_takeNumber G w c rd 0 (c (rf G rd 6) 3 - 1) = (1, n)) (hm : ¬ F_X6_mayGet G w n (rf G rd 6) (n rd 5) = 0) : F_X3_takeOwn G w c rd = K_X3_takeOwn_c2 G w rd (F_X3_takeNumber G w n rd 0 (n (rf G rd 6) 0 - 1)).2 (n rd 5) (F_X3_takeNumber G w n rd 0 (n (rf G rd 6) 0 - 1)).1 := by
  unfold F_X3_takeOwn K_X3_takeOwn_e K_X3_takeOwn_c1
  rw [h]
  exact (if_neg (show ¬ (1 : Int32) = 0 by decide)).trans (if_neg hm)
theorem rO_45 (h10 : u a8 10 = 0) : K_X8_readOwn_45 G w a8 u (u a8 9) = stv u a8 10 1 := by
  unfold K_X8_readOwn_45 K_X8_readOwn_46 K_X8_readOwn_70 K_X8_readOwn_71
  rw [if_pos (show (0 : Int32) = 0 from rfl), due_0 h10, own_wr (by rw [stv_s]; decide)]
theorem rO_n8 (h10 : u a8 10 = 0) (h8 : ¬ u a8 8 = 6) : F_X8_readOwn G w u a8 = stv u a8 10 1 := by
  unfold F_X8_readOwn K_X8_readOwn_e
  rw [if_neg h8, rO_45 h10]
theorem rO_np (h10 : u a8 10 = 0) (h8 : u a8 8 = 6) (h9 : u (rf G a8 1) 739 ≤ u a8 9) : F_X8_readOwn G w u a8 = stv u a8 10 1 := by
  unfold F_X8_readOwn K_X8_readOwn_e
  rw [if_pos h8, show Int32.toNatClampNeg 739 = 739 from by decide, if_pos h9, rO_45 h10]
theorem rO_nl (h10 : u a8 10 = 0) (h8 : u a8 8 = 6) (h9 : ¬ u (rf G a8 1) 739 ≤ u a8 9) (hl : ¬ F_X8_has G w u (u (rf G a8 1) 773) (u a8 9) = 0) : F_X8_readOwn G w u a8 = stv u a8 10 1 := by
  unfold F_X8_readOwn K_X8_readOwn_e
  rw [if_pos h8, show Int32.toNatClampNeg 739 = 739 from by decide, show Int32.toNatClampNeg 773 = 773 from by decide, if_neg h9, if_neg hl, rO_45 h10]
theorem rO_no (h10 : u a8 10 = 0) (h8 : u a8 8 = 6) (h9 : ¬ u (rf G a8 1) 739 ≤ u a8 9) (hl : F_X8_has G w u (u (rf G a8 1) 773) (u a8 9) = 0) (hb : 0 ≤ (u a8 9).toInt ∧ (u a8 9).toInt ≤ 200) (ho : ¬ u (rf G a8 1) (781 + nn (u a8 9)) = -1) : F_X8_readOwn G w u a8 = stv u a8 10 1 := by
  unfold F_X8_readOwn K_X8_readOwn_e
  rw [if_pos h8, show Int32.toNatClampNeg 739 = 739 from by decide, show Int32.toNatClampNeg 773 = 773 from by decide, if_neg h9, if_pos hl]
  unfold K_X8_readOwn_46
  rw [if_neg (show ¬ (1 : Int32) = 0 by decide), ixl 781 (by decide) (by decide) hb, if_neg ho]
  unfold K_X8_readOwn_70 K_X8_readOwn_71
  rw [due_0 h10, own_wr (by rw [stv_s]; decide)]
theorem rO_y (h10 : u a8 10 = 0) (h8 : u a8 8 = 6) (h9 : ¬ u (rf G a8 1) 739 ≤ u a8 9) (hl : F_X8_has G w u (u (rf G a8 1) 773) (u a8 9) = 0) (hb : 0 ≤ (u a8 9).toInt ∧ (u a8 9).toInt ≤ 200) (ho : u (rf G a8 1) (781 + nn (u a8 9)) = -1) : F_X8_readOwn G w u a8 = K_X8_readOwn_c2 G w a8 (F_X8_step G w u a8) (u a8 9) := by
  unfold F_X8_readOwn K_X8_readOwn_e
  rw [if_pos h8, show Int32.toNatClampNeg 739 = 739 from by decide, show Int32.toNatClampNeg 773 = 773 from by decide, if_neg h9, if_pos hl]
  unfold K_X8_readOwn_46
  rw [if_neg (show ¬ (1 : Int32) = 0 by decide), ixl 781 (by decide) (by decide) hb, if_pos ho]
  unfold K_X8_readOwn_71
  rw [due_1 h10 (show ¬ (1 : Int32) = 0 by decide)]
theorem may_eq {a : Nat} {i : Nat} (hi0 : i < 32) : F_X6_mayGet G w c a (nI i) = 0 ↔ ¬ (bt (c (rf G a 6) 2) i = true ∧ c (rf G (rf G a 6) 1) i = -1) := by
  unfold F_X6_mayGet K_X6_mayGet_e
  rw [isHere_eq i hi0, cl_nI (by omega)]
  by_cases c1 : bt (c (rf G a 6) 2) i = true
  · rw [if_pos c1, if_neg (show ¬ (1 : Int32) = 0 by decide)]
    by_cases c2 : c (rf G (rf G a 6) 1) i = -1
    · rw [if_pos c2]
      exact ⟨fun q => absurd q (by decide), fun q => absurd ⟨c1, c2⟩ q⟩
    · rw [if_neg c2]
      exact ⟨fun _ q => c2 q.2, fun _ => rfl⟩
  · rw [if_neg c1, if_pos (show (0 : Int32) = 0 from rfl)]
    exact ⟨fun _ q => c1 q.1, fun _ => rfl⟩
/-- the first number of 'own' -/
theorem own_1 (S3 : S_X3 G rd) (S8 : S_X8 G a8) (C : Ch3 G rd hi) (h : RUN G w rd a8 c u) : ∃ c1 : Mv, FRD G rd c c1 ∧ c1 rd 4 = u a8 7 ∧ ((F_X3_takeOwn G w c rd = K_X3_takeOwn_c2 G w rd (F_X3_takeNumber G w c1 rd 0 (c1 (rf G rd 6) 0 - 1)).2 (c1 rd 5) (F_X3_takeNumber G w c1 rd 0 (c1 (rf G rd 6) 0 - 1)).1 ∧ F_X8_readOwn G w u a8 = K_X8_readOwn_c2 G w a8 (F_X8_step G w u a8) (c1 rd 5) ∧ RUN G w rd a8 c1 (F_X8_step G w u a8) ∧ FSA G a8 u (F_X8_step G w u a8) ∧ 0 ≤ (c1 rd 5).toInt ∧ nn (c1 rd 5) < nn (c1 (rf G rd 6) 3)) ∨ (F_X3_takeOwn G w c rd = (0, c1) ∧ F_X8_readOwn G w u a8 = stv u a8 10 1)) := by
  obtain ⟨hc, hf, hp⟩ := h.next S3 S8 C
  have hd6 : rf G rd 6 ≠ rd := by obtain ⟨d1, d2, -⟩ := C; omega
  have h10 : u a8 10 = 0 := hc.2.2.1
  have e6 := hf.row hd6
  have TY := @tn_y G w rd c 0 (c (rf G rd 6) 3 - 1)
  have TN := @tn_n G w rd c 0 (c (rf G rd 6) 3 - 1)
  generalize F_X3_nextToken G w c rd = n at *
  obtain ⟨⟨⟨b1, b2⟩, ⟨b3, b4⟩, -⟩, ⟨-, m3, -, m5⟩⟩ := hc.2.1
  have b2' : n (rf G rd 6) 3 = u (rf G a8 1) 739 := b2
  have h7 := nn_le (n := 7) b4
  rw [← e6] at TY TN
  refine ⟨n, fr_d C hf (nx_mono hc hp), hc.2.2.2.1.1, ?_⟩
  rcases hc.2.2.2.num with ⟨k3, k8, k5, kb⟩ | ⟨k3, k8⟩
  · by_cases c1 : n (rf G rd 6) 3 ≤ u a8 9
    · exact Or.inr ⟨tO_n (by rw [← e6]; exact TN (fun q => by have := (sub1 b4).mp q.2.2; rw [k5] at this; exact nle_of_lt this c1)), rO_np h10 k8 (by rw [← b2']; exact c1)⟩
    · have hT := TY k3 ⟨by rw [k5]; exact i_le.mpr (by rw [show (0 : Int32).toInt = 0 from by decide]; exact kb.1), by rw [k5]; exact (sub1 b4).mpr (nle c1)⟩
      rw [e6] at hT
      have hi9 := i_lt.mp (nle c1)
      have hn9 : nn (u a8 9) < nn (n (rf G rd 6) 3) := by show (u a8 9).toInt.toNat < (n (rf G rd 6) 3).toInt.toNat; have := kb.1; omega
      have eI := nI_nn kb.1
      have hb : bt (n (rf G (rf G rd 6) 6) 2) (nn (u a8 9)) = !bt (u (rf G a8 1) 773) (nn (u a8 9)) := (m3 (nn (u a8 9)) (by omega)).1 hn9
      have ho := (m5 (nn (u a8 9)) hn9).1
      rw [show 738 + 43 + nn (u a8 9) = 781 + nn (u a8 9) from by omega] at ho
      have hM := may_eq (G := G) (w := w) (c := n) (a := rf G rd 6) (i := nn (u a8 9)) (by omega)
      have hH := has_eq (G := G) (w := w) (v := u) (nn (u a8 9)) (by omega) (u (rf G a8 1) 773)
      rw [eI, ← k5] at hM
      rw [eI] at hH
      rw [k5] at hM
      rw [b2'] at c1
      have hbu : 0 ≤ (u a8 9).toInt ∧ (u a8 9).toInt ≤ 200 := ⟨kb.1, by have := kb.2; omega⟩
      by_cases c2 : bt (u (rf G a8 1) 773) (nn (u a8 9)) = true
      · have hno : ¬ (bt (n (rf G (rf G rd 6) 6) 2) (nn (u a8 9)) = true ∧ n (rf G (rf G (rf G rd 6) 6) 1) (nn (u a8 9)) = -1) := fun q => by
          have q1 := q.1
          rw [hb, c2] at q1
          cases q1
        exact Or.inr ⟨tO_m hT (by rw [k5]; exact hM.mpr hno), rO_nl h10 k8 c1 (by rw [hH, if_pos c2]; decide)⟩
      · by_cases c3 : u (rf G a8 1) (781 + nn (u a8 9)) = -1
        · obtain ⟨s1, s2⟩ := hc.step S3 S8
          refine Or.inl ⟨tO_y hT (by rw [k5]; exact fun q => hM.mp q ⟨by rw [hb]; simpa using c2, ho.trans c3⟩), by rw [k5]; exact rO_y h10 k8 c1 (by rw [hH, if_neg c2]) hbu c3, s1, FS.d S8 s2, by rw [k5]; exact kb.1, by rw [k5]; exact hn9⟩
        · exact Or.inr ⟨tO_m hT (by rw [k5]; exact hM.mpr (fun q => c3 (ho.symm.trans q.2))), rO_no h10 k8 c1 (by rw [hH, if_neg c2]) hbu c3⟩
  · exact Or.inr ⟨tO_n (by rw [← e6]; exact TN (fun q => k3 q.1)), rO_n8 h10 k8⟩
theorem own8 (C : Ch3 G rd hi) {i : Nat} {t : Int32} (q : c (rf G rd 6) 8 = 0) : (stv c (rf G (rf G (rf G rd 6) 6) 1) i t) (rf G rd 6) 8 = 0 := by
  obtain ⟨d1, d2, k1, k2, k3, k4, k5, ⟨k6, k7⟩, -⟩ := C
  rw [stv_a (by omega)]
  exact q
theorem fdr_own {a i : Nat} {t : Int32} : Fdr G a c (stv c (rf G (rf G a 6) 1) i t) := fun _ _ _ _ _ _ _ _ q8 => stv_row q8
theorem fsa_own (S8 : S_X8 G a8) {j : Nat} {t : Int32} (hj : 743 ≤ j) : FSA G a8 u (stv u (rf G a8 1) j t) := ⟨fun x _ q => stv_row q, fun k _ => stv_a (Ne.symm (ne81 S8)), fun i q => stv_k (by omega)⟩
theorem own_sim (S3 : S_X3 G rd) (S8 : S_X8 G a8) (C : Ch3 G rd hi) (h : RUN G w rd a8 c u) : ∃ (r : Int32) (c' : Mv), F_X3_takeOwn G w c rd = (r, c') ∧ OUT G w rd a8 r c' (F_X8_readOwn G w u a8) ∧ FRD G rd c c' ∧ FSA G a8 u (F_X8_readOwn G w u a8) := by
  obtain ⟨c1, f1, p1, n1⟩ := own_1 S3 S8 C h
  rcases n1 with ⟨e1, e2, h1, g1, b1, d1⟩ | ⟨e1, e2⟩
  · rw [e1, e2]
    generalize F_X8_step G w u a8 = u1 at *
    obtain ⟨hc, hf, hp⟩ := h1.next S3 S8 C
    have hd6 : rf G rd 6 ≠ rd := by obtain ⟨d1, d2, -⟩ := C; omega
    have h10 : u1 a8 10 = 0 := hc.2.2.1
    have e6 := hf.row hd6
    have TY := @tn_y G w rd c1 0 (c1 (rf G rd 6) 0 - 1)
    have TN := @tn_n G w rd c1 0 (c1 (rf G rd 6) 0 - 1)
    generalize F_X3_nextToken G w c1 rd = n at *
    obtain ⟨⟨⟨b1', b2'⟩, ⟨b3, b4⟩, -⟩, -⟩ := id hc.2.1
    have hw1 : ¬ (stv u1 a8 10 1) a8 10 = 0 := by rw [stv_s]; decide
    have bad : K_X8_readOwn_124 G w a8 u1 (c1 rd 5) (u1 a8 9) = stv u1 a8 10 1 := by
      unfold K_X8_readOwn_124 K_X8_readOwn_125 K_X8_readOwn_c1
      rw [due_0 h10, if_neg hw1]
    have out0 : OUT G w rd a8 0 n (stv u1 a8 10 1) := Or.inr ⟨rfl, hc.2.2.2.1.1.trans (stv_k (by decide)).symm, hw1⟩
    unfold K_X3_takeOwn_c2 K_X8_readOwn_c2
    rw [show Int32.toNatClampNeg 738 = 738 from by decide, ← b1']
    rw [← e6] at TY TN
    rcases hc.2.2.2.num with ⟨k3, k8, k5, kb⟩ | ⟨k3, k8⟩
    · rw [if_pos k8]
      by_cases c2 : n (rf G rd 6) 0 ≤ u1 a8 9
      · rw [if_pos c2, bad, ← e6, TN (fun q => by have := (sub1 b3).mp q.2.2; rw [k5] at this; exact nle_of_lt this c2)]
        exact ⟨0, n, if_pos rfl, out0, f1.tr (fr_d C hf (nx_mono hc hp)), g1.tr (fsa_wrong S8)⟩
      · rw [if_neg c2, ← e6, TY k3 ⟨by rw [k5]; exact i_le.mpr (by rw [show (0 : Int32).toInt = 0 from by decide]; exact kb.1), by rw [k5]; exact (sub1 b3).mpr (nle c2)⟩]
        have hO := owner_eq (w := w) hc.2.1.1 hc.2.1.2 (u1 a8 9)
        by_cases c3 : F_X6_ownerOf G w n (rf G rd 6) (u1 a8 9) = -1
        · rw [if_pos (hO.mp c3)]
          unfold K_X8_readOwn_125 K_X8_readOwn_c1
          rw [due_1 h10 (show ¬ (1 : Int32) = 0 by decide)]
          obtain ⟨s1, s2⟩ := hc.step S3 S8
          have d1' : nn (c1 rd 5) < nn (n (rf G rd 6) 3) := by rw [e6]; exact d1
          have h7 := nn_le (n := 7) b4
          have hb2 : 0 ≤ (c1 rd 5).toInt ∧ (c1 rd 5).toInt ≤ 200 := ⟨b1, by
            have h8 : (c1 rd 5).toInt.toNat < nn (n (rf G rd 6) 3) := d1'
            omega⟩
          rw [if_pos s1.2.2.1, ixl 781 (by decide) (by decide) hb2]
          have hd := own_set (i := nn (c1 rd 5)) (t := u1 a8 9) C.2.2 s1.2.1.1 s1.2.1.2 d1' ⟨by have := kb.1; omega, by have := i_lt.mp (nle c2); omega⟩
          refine ⟨1, stv n (rf G (rf G (rf G rd 6) 6) 1) (nn (c1 rd 5)) (u1 a8 9), ?_, Or.inl ⟨rfl, s1.draft S8 C fdr_own Fa.rf.st hd⟩, (f1.tr (fr_d C hf (nx_mono hc hp))).tr (fdr_d C fdr_own (own8 C)), (g1.tr (FS.d S8 s2)).tr (fsa_own S8 (by omega))⟩
          refine (if_neg (show ¬ (1 : Int32) = 0 by decide)).trans ?_
          show (if F_X6_ownerOf G w n (rf G rd 6) (n rd 5) = -1 then (1, stv n (rf G (rf G (rf G rd 6) 6) 1) (nn (c1 rd 5)) (n rd 5)) else (0, n)) = _
          rw [k5, if_pos c3]
        · rw [if_neg (fun q => c3 (hO.mpr q)), bad]
          refine ⟨0, n, ?_, out0, f1.tr (fr_d C hf (nx_mono hc hp)), g1.tr (fsa_wrong S8)⟩
          refine (if_neg (show ¬ (1 : Int32) = 0 by decide)).trans ?_
          show (if F_X6_ownerOf G w n (rf G rd 6) (n rd 5) = -1 then _ else (0, n)) = _
          rw [k5, if_neg c3]
    · rw [if_neg k8, bad, ← e6, TN (fun q => k3 q.1)]
      exact ⟨0, n, if_pos rfl, out0, f1.tr (fr_d C hf (nx_mono hc hp)), g1.tr (fsa_wrong S8)⟩
  · rw [e1, e2]
    exact ⟨0, c1, rfl, Or.inr ⟨rfl, p1.trans (stv_k (by decide)).symm, by rw [stv_s]; decide⟩, f1, fsa_wrong S8⟩
end IT3
