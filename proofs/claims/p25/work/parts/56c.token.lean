/-- fields 2 to 5 of the reader alone; fields 6 to 9 of the reference alone -/
def FR (rd : Nat) (c c' : Mv) : Prop := ∀ x k, (x ≠ rd ∨ (k ≠ 2 ∧ k ≠ 3 ∧ k ≠ 4 ∧ k ≠ 5)) → c' x k = c x k
def FS (a8 : Nat) (u u' : Mv) : Prop := ∀ x k, (x ≠ a8 ∨ (k ≠ 6 ∧ k ≠ 7 ∧ k ≠ 8 ∧ k ≠ 9)) → u' x k = u x k
theorem FR.rf {rd : Nat} {c : Mv} : FR rd c c := fun _ _ _ => rfl
theorem FS.rf {a8 : Nat} {u : Mv} : FS a8 u u := fun _ _ _ => rfl
theorem FR.tr {rd : Nat} {c c1 c2 : Mv} (h : FR rd c c1) (h2 : FR rd c1 c2) : FR rd c c2 := fun x k q => (h2 x k q).trans (h x k q)
theorem FS.tr {a8 : Nat} {u u1 u2 : Mv} (h : FS a8 u u1) (h2 : FS a8 u1 u2) : FS a8 u u2 := fun x k q => (h2 x k q).trans (h x k q)
theorem FR.st {rd : Nat} {c c' : Mv} (h : FR rd c c') {k : Nat} {x : Int32} (hk : k = 2 ∨ k = 3 ∨ k = 4 ∨ k = 5) : FR rd c (stv c' rd k x) := fun y j q => by
  rw [stv_ne (by rcases q with q | q; exact Or.inl q; exact Or.inr (by omega))]
  exact h y j q
theorem FS.st {a8 : Nat} {u u' : Mv} (h : FS a8 u u') {k : Nat} {x : Int32} (hk : k = 6 ∨ k = 7 ∨ k = 8 ∨ k = 9) : FS a8 u (stv u' a8 k x) := fun y j q => by
  rw [stv_ne (by rcases q with q | q; exact Or.inl q; exact Or.inr (by omega))]
  exact h y j q
/-- the token that both stand at: the class's as it was read last, the reference's as it stands -/
def TK (G : Gm) (w : Mw) (rd a8 : Nat) (c u : Mv) : Prop := (c rd 4 = u a8 7 ∧ c rd 2 = u a8 6) ∧ (0 ≤ (c rd 4).toInt ∧ (c rd 4).toInt ≤ (c rd 2).toInt ∧ (c rd 2).toInt ≤ (c rd 1).toInt) ∧ (c rd 3 = 0 ∨ (c rd 4).toInt < (c rd 2).toInt) ∧
  ((∃ i, i < 6 ∧ c rd 3 = 1 ∧ u a8 8 = Int32.ofNat i ∧ ∀ j, j < 6 → F_X3_isWord G w c rd j = if j = i then 1 else 0) ∨
   ((∀ j, j < 6 → F_X3_isWord G w c rd j = 0) ∧ ((c rd 3 = 0 ∧ u a8 8 = 8) ∨ (c rd 3 = 1 ∧ u a8 8 = 9) ∨ (c rd 3 = 2 ∧ u a8 8 = 6 ∧ c rd 5 = u a8 9 ∧ Bd (u a8 9) 0 99) ∨ (c rd 3 = 3 ∧ u a8 8 = 7) ∨ (c rd 3 = 4 ∧ u a8 8 = 9))))
section TK3
variable {G : Gm} {w : Mw} {rd a8 : Nat} {c u : Mv}
set_option maxHeartbeats 1000000 in
theorem tok (S3 : S_X3 G rd) (S8 : S_X8 G a8) (hT : RT G rd a8 c u) (hp : c rd 2 = u a8 6) (hb : 0 ≤ (c rd 2).toInt) (hle : (c rd 2).toInt ≤ (c rd 1).toInt) : TK G w rd a8 (F_X3_nextToken G w c rd) (F_X8_step G w u a8) ∧ FR rd c (F_X3_nextToken G w c rd) ∧ FS a8 u (F_X8_step G w u a8) ∧ (c rd 2).toInt ≤ ((F_X3_nextToken G w c rd) rd 4).toInt := by
  have hl150 := hT.2.1.2
  rw [← hT.1] at hl150
  obtain ⟨p, p1, p2, p3, p4, p5⟩ := tk_sp (w := w) S3 S8 151 c u hT hp ⟨hb, by omega⟩ hle (by omega)
  have eN : F_X3_nextToken G w c rd = K_X3_nextToken_38 G w rd (stv c rd 2 p) := p3
  have eS : F_X8_step G w u a8 = K_X8_step_0 G w a8 1 (stv u a8 6 p) := p4
  have bp : Bd p 0 150 := ⟨by omega, by omega⟩
  -- the class, behind the blanks
  have hT1 : RT G rd a8 (stv c rd 2 p) (stv u a8 6 p) := (hT.ac S3 (by decide)).au S8 (by decide)
  have hT2 : RT G rd a8 (stv (stv c rd 2 p) rd 4 p) (stv (stv (stv u a8 6 p) a8 7 p) a8 9 0) := ((hT1.ac S3 (by decide)).au S8 (by decide)).au S8 (by decide)
  have g2 : (stv c rd 2 p) rd 2 = p := stv_s
  have g6 : (stv u a8 6 p) a8 6 = p := stv_s
  have q1 : (stv (stv c rd 2 p) rd 4 p) rd 1 = c rd 1 := by simp [stv]
  have q2 : (stv (stv c rd 2 p) rd 4 p) rd 2 = p := by simp [stv]
  have q4 : (stv (stv c rd 2 p) rd 4 p) rd 4 = p := stv_s
  have r6 : (stv (stv (stv u a8 6 p) a8 7 p) a8 9 0) a8 6 = p := by simp [stv]
  have r7 : (stv (stv (stv u a8 6 p) a8 7 p) a8 9 0) a8 7 = p := by simp [stv]
  have r9 : (stv (stv (stv u a8 6 p) a8 7 p) a8 9 0) a8 9 = 0 := stv_s
  have qF : FR rd c (stv (stv c rd 2 p) rd 4 p) := (FR.rf.st (by omega)).st (by omega)
  have rF : FS a8 u (stv (stv (stv u a8 6 p) a8 7 p) a8 9 0) := ((FS.rf.st (by omega)).st (by omega)).st (by omega)
  have hh : hF G (stv (stv (stv u a8 6 p) a8 7 p) a8 9 0) a8 = hF G (stv u a8 6 p) a8 := by rw [here_at S8 (by decide), here_at S8 (by decide)]
  have eN2 := eN
  unfold K_X3_nextToken_38 at eN2
  rw [g2] at eN2
  have eS2 := eS
  rw [K_X8_step_0, if_neg (show ¬ F_X8_here G w (stv u a8 6 p) a8 = 32 from p5), g6] at eS2
  generalize hc2 : stv (stv c rd 2 p) rd 4 p = c2 at *
  generalize hu2 : stv (stv (stv u a8 6 p) a8 7 p) a8 9 0 = u2 at *
  rw [q1] at eN2
  have hpp : c2 rd 2 = u2 a8 6 := q2.trans r6.symm
  have bp2 : Bd (c2 rd 2) 0 150 := by rw [q2]; exact bp
  by_cases c1 : p < c rd 1
  · rw [if_pos c1] at eN2
    obtain ⟨h0, h0b⟩ := here_in hT2 hpp bp2 (by rw [q1, q2]; exact c1)
    rw [q2] at h0
    have hne : ¬ F_X8_here G w u2 a8 = -1 := fun q => by
      have e : hF G u2 a8 = -1 := q
      rw [e] at h0b
      have := h0b.1
      have e1 : (-1 : Int32).toInt = -1 := by decide
      omega
    rw [if_neg hne] at eS2
    have hx : F_X8_here G w u2 a8 = c2 (rf G rd 0) (Int32.toNatClampNeg p) := h0
    rw [hx] at eS2
    have ltp : p.toInt < (c rd 1).toInt := i_lt.mp c1
    have ep1 : (p + 1).toInt = p.toInt + 1 := i_add1 bp (by decide) (by decide)
    by_cases c2w : F_X7_isWithin G w c2 (c2 (rf G rd 0) (Int32.toNatClampNeg p)) 97 122 = 0
    · rw [if_pos c2w] at eN2
      by_cases c3w : F_X7_isWithin G w c2 (c2 (rf G rd 0) (Int32.toNatClampNeg p)) 48 57 = 0
      · -- a byte that stands alone
        rw [if_pos c3w] at eN2
        rw [if_pos (show F_X8_in G w u2 (c2 (rf G rd 0) (Int32.toNatClampNeg p)) 48 57 = 0 from c3w), if_pos (show F_X8_in G w u2 (c2 (rf G rd 0) (Int32.toNatClampNeg p)) 97 122 = 0 from c2w)] at eS2
        by_cases c5 : c2 (rf G rd 0) (Int32.toNatClampNeg p) = 59
        · rw [if_pos c5] at eN2 eS2
          unfold K_X3_nextToken_223 at eN2
          rw [q2] at eN2
          rw [eN2, eS2]
          refine ⟨⟨⟨?_, ?_⟩, ⟨?_, ?_, ?_⟩, Or.inr ?_, Or.inr ⟨fun j _ => iw_no (by simp [stv]) j, Or.inr (Or.inr (Or.inr (Or.inl ⟨by simp [stv], by simp [stv]⟩)))⟩⟩, (qF.st (by omega)).st (by omega), ?_, ?_⟩
          · simp [stv, q4, r7]
          · simp [stv]
          · simp [stv, q4]; omega
          · simp [stv, q4, ep1]; omega
          · simp [stv, q1, ep1]; omega
          · simp [stv, q4, ep1]; omega
          · exact (rF.st (by omega)).st (by omega)
          · simp [stv, q4]; omega
        · rw [if_neg c5] at eN2 eS2
          unfold K_X3_nextToken_223 at eN2
          rw [q2] at eN2
          rw [eN2, eS2]
          refine ⟨⟨⟨?_, ?_⟩, ⟨?_, ?_, ?_⟩, Or.inr ?_, Or.inr ⟨fun j _ => iw_no (by simp [stv]) j, Or.inr (Or.inr (Or.inr (Or.inr ⟨by simp [stv], by simp [stv]⟩)))⟩⟩, (qF.st (by omega)).st (by omega), ?_, ?_⟩
          · simp [stv, q4, r7]
          · simp [stv]
          · simp [stv, q4]; omega
          · simp [stv, q4, ep1]; omega
          · simp [stv, q1, ep1]; omega
          · simp [stv, q4, ep1]; omega
          · exact (rF.st (by omega)).st (by omega)
          · simp [stv, q4]; omega
      · -- figures
        rw [if_neg c3w] at eN2
        rw [if_neg (show ¬ F_X8_in G w u2 (c2 (rf G rd 0) (Int32.toNatClampNeg p)) 48 57 = 0 from c3w)] at eS2
        have hw : 48 ≤ c2 (rf G rd 0) (Int32.toNatClampNeg p) ∧ c2 (rf G rd 0) (Int32.toNatClampNeg p) ≤ 57 := Classical.byContradiction fun q => c3w (isW0.mpr q)
        obtain ⟨e, u', d1, d2, d3, d4, d5, d6, d7, d8, d9⟩ := tk_dig (w := w) S3 S8 (c2 (rf G rd 0)) p bp.1 151 c2 u2 hT2 hpp bp2 (by rw [q1, q2]; omega) (by rw [q1, q2]; omega) rfl r7 (by rw [q2]; exact Int.le_refl _) (by rw [q2, r9]; exact ⟨fun _ => by decide, fun q => by omega, fun q => by omega⟩)
        rw [q2] at d1 d9
        rw [q1] at d2 d9
        have hpe := d9 ⟨c1, hw⟩
        rw [d4] at eS2
        have eN3 : F_X3_nextToken G w c rd = K_X3_nextToken_c1 G w rd (stv c2 rd 2 e) := by rw [eN2, show F_X3_passRun G w c2 rd 48 57 = _ from d3]
        have fu : FS a8 u u' := fun x k q => (d5 x k (q.imp id (fun z => ⟨z.1, z.2.2.1, z.2.2.2⟩))).trans (rF x k q)
        have u7 : u' a8 7 = p := (d5 a8 7 (Or.inr (by decide))).trans r7
        have hde : (e - p).toInt = e.toInt - p.toInt := fb_subI (by omega) (by omega)
        have t2 : (stv c2 rd 2 e) rd 2 = e := stv_s
        have t4 : (stv c2 rd 2 e) rd 4 = p := (stv_k (by decide)).trans q4
        have e2 : (2 : Int32).toInt = 2 := by decide
        have e1 : (1 : Int32).toInt = 1 := by decide
        have e48 : (48 : Int32).toInt = 48 := by decide
        have e10 : (10 : Int32).toInt = 10 := by decide
        unfold K_X3_nextToken_c1 K_X3_nextToken_146 K_X3_nextToken_196 at eN3
        rw [t2, t4] at eN3
        have hTx : ∀ y, (stv (stv c2 rd 2 e) rd 3 y) (rf G rd 0) = c2 (rf G rd 0) := fun y => by rw [stv_row (ne30 S3), stv_row (ne30 S3)]
        simp only [hTx] at eN3
        have he1 : (e - 1).toInt = e.toInt - 1 := by rw [fb_subI (by rw [e1]; omega) (by rw [e1]; omega), e1]
        by_cases c6 : (2 : Int32) < e - p
        · rw [if_pos c6] at eN3
          rw [i_lt, hde, e2] at c6
          have s9 : u' a8 8 = 9 := by
            rcases d8 with q | q
            · omega
            · exact q.2
          rw [if_neg (by intro q; have := congrArg Int32.toInt q; rw [hde, e2] at this; omega)] at eN3
          rw [eN3, eS2]
          refine ⟨⟨⟨?_, ?_⟩, ⟨?_, ?_, ?_⟩, Or.inr ?_, Or.inr ⟨fun j _ => iw_no (by simp [stv]) j, Or.inr (Or.inr (Or.inr (Or.inr ⟨by simp [stv], s9⟩)))⟩⟩, ((qF.st (by omega)).st (by omega)).st (by omega), fu, ?_⟩
          · simp [stv, q4, u7]
          · simp [stv, d6]
          · simp [stv, q4]; omega
          · simp [stv, q4]; omega
          · simp [stv, q1]; omega
          · simp [stv, q4]; omega
          · simp [stv, q4]; omega
        · rw [if_neg c6] at eN3
          rw [i_lt, hde, e2] at c6
          have s6 : u' a8 8 = 6 := by
            rcases d8 with q | q
            · exact q.2
            · omega
          by_cases c7 : e - p = 2
          · rw [if_pos c7] at eN3
            have h2 := congrArg Int32.toInt c7
            rw [hde, e2] at h2
            obtain ⟨v1, v2, v3⟩ := d7.2.2 (by omega)
            have ix : Int32.toNatClampNeg (e - 1) = p.toInt.toNat + 1 := by show (e - 1).toInt.toNat = _; rw [he1]; omega
            have ix0 : Int32.toNatClampNeg p = p.toInt.toNat := rfl
            rw [ix, ix0] at eN3
            have n1 : (c2 (rf G rd 0) (p.toInt.toNat + 1) - 48).toInt = (c2 (rf G rd 0) (p.toInt.toNat + 1)).toInt - 48 := by rw [fb_subI (by rw [e48]; omega) (by rw [e48]; omega), e48]
            have n2 : (c2 (rf G rd 0) p.toInt.toNat - 48).toInt = (c2 (rf G rd 0) p.toInt.toNat).toInt - 48 := by rw [fb_subI (by rw [e48]; omega) (by rw [e48]; omega), e48]
            have n3 : (10 * (c2 (rf G rd 0) p.toInt.toNat - 48)).toInt = 10 * ((c2 (rf G rd 0) p.toInt.toNat).toInt - 48) := by rw [fb_mulI (by rw [e10, n2]; omega) (by rw [e10, n2]; omega), e10, n2]
            have nv : c2 (rf G rd 0) (p.toInt.toNat + 1) - 48 + 10 * (c2 (rf G rd 0) p.toInt.toNat - 48) = u' a8 9 := i_eq (by rw [fb_addI (by rw [n1, n3]; omega) (by rw [n1, n3]; omega), n1, n3, v1]; omega)
            rw [nv] at eN3
            rw [eN3, eS2]
            refine ⟨⟨⟨?_, ?_⟩, ⟨?_, ?_, ?_⟩, Or.inr ?_, Or.inr ⟨fun j _ => iw_no (by simp [stv]) j, Or.inr (Or.inr (Or.inl ⟨by simp [stv], s6, stv_s, ⟨by rw [v1]; omega, by rw [v1]; omega⟩⟩))⟩⟩, ((qF.st (by omega)).st (by omega)).st (by omega), fu, ?_⟩
            · simp [stv, q4, u7]
            · simp [stv, d6]
            · simp [stv, q4]; omega
            · simp [stv, q4]; omega
            · simp [stv, q1]; omega
            · simp [stv, q4]; omega
            · simp [stv, q4]; omega
          · rw [if_neg c7] at eN3
            have h2 : ¬ (e.toInt - p.toInt = 2) := fun q => c7 (i_eq (by rw [hde, e2]; exact q))
            obtain ⟨v1, v2, v3⟩ := d7.2.1 (by omega)
            have ix : Int32.toNatClampNeg (e - 1) = p.toInt.toNat := by show (e - 1).toInt.toNat = _; rw [he1]; omega
            rw [ix] at eN3
            have n2 : (c2 (rf G rd 0) p.toInt.toNat - 48).toInt = (c2 (rf G rd 0) p.toInt.toNat).toInt - 48 := by rw [fb_subI (by rw [e48]; omega) (by rw [e48]; omega), e48]
            have nv : c2 (rf G rd 0) p.toInt.toNat - 48 + 0 = u' a8 9 := i_eq (by rw [Int32.add_zero, n2, v1])
            rw [nv] at eN3
            rw [eN3, eS2]
            refine ⟨⟨⟨?_, ?_⟩, ⟨?_, ?_, ?_⟩, Or.inr ?_, Or.inr ⟨fun j _ => iw_no (by simp [stv]) j, Or.inr (Or.inr (Or.inl ⟨by simp [stv], s6, stv_s, ⟨by rw [v1]; omega, by rw [v1]; omega⟩⟩))⟩⟩, ((qF.st (by omega)).st (by omega)).st (by omega), fu, ?_⟩
            · simp [stv, q4, u7]
            · simp [stv, d6]
            · simp [stv, q4]; omega
            · simp [stv, q4]; omega
            · simp [stv, q1]; omega
            · simp [stv, q4]; omega
            · simp [stv, q4]; omega
    · -- letters
      rw [if_neg c2w] at eN2
      have hw : 97 ≤ c2 (rf G rd 0) (Int32.toNatClampNeg p) ∧ c2 (rf G rd 0) (Int32.toNatClampNeg p) ≤ 122 := Classical.byContradiction fun q => c2w (isW0.mpr q)
      have c3w : F_X8_in G w u2 (c2 (rf G rd 0) (Int32.toNatClampNeg p)) 48 57 = 0 := by
        rw [in8 (G' := G) (w' := w) (v' := u2)]
        refine isW0.mpr (fun q => ?_)
        have h1 := i_le.mp hw.1
        have h2 := i_le.mp q.2
        have e97 : (97 : Int32).toInt = 97 := by decide
        have e57 : (57 : Int32).toInt = 57 := by decide
        omega
      rw [if_pos c3w, if_neg (show ¬ F_X8_in G w u2 (c2 (rf G rd 0) (Int32.toNatClampNeg p)) 97 122 = 0 from c2w)] at eS2
      obtain ⟨e, d1, d2, d3, d4, d9⟩ := tk_let (w := w) S3 S8 151 c2 u2 hT2 hpp bp2 (by rw [q1, q2]; omega) (by rw [q1, q2]; omega)
      rw [q2] at d1 d9
      rw [q1] at d2 d9
      have hpe := d9 ⟨c1, hw⟩
      rw [d4] at eS2
      have eN3 : F_X3_nextToken G w c rd = K_X3_nextToken_c2 G w rd (stv c2 rd 2 e) := by rw [eN2, show F_X3_passRun G w c2 rd 97 122 = _ from d3]
      unfold K_X3_nextToken_c2 at eN3
      rw [eN3, eS2]
      have hwr := wd_rel (G := G) (w := w) (rd := rd) (a8 := a8) (c := stv (stv c2 rd 2 e) rd 3 1) (u := stv u2 a8 6 e) stv_s (fun k k0 k1 => ?_) (by simp [stv, q4, r7])
      · have x4 : (stv (stv c2 rd 2 e) rd 3 1) rd 4 = p := by simp [stv, q4]
        have x2 : (stv (stv c2 rd 2 e) rd 3 1) rd 2 = e := by simp [stv]
        have x1 : (stv (stv c2 rd 2 e) rd 3 1) rd 1 = c rd 1 := by simp [stv, q1]
        have x3 : (stv (stv c2 rd 2 e) rd 3 1) rd 3 = 1 := stv_s
        have y8 : (stv (stv u2 a8 6 e) a8 8 (F_X8_wordOf G w (stv u2 a8 6 e) a8)) a8 8 = F_X8_wordOf G w (stv u2 a8 6 e) a8 := stv_s
        have y7 : (stv (stv u2 a8 6 e) a8 8 (F_X8_wordOf G w (stv u2 a8 6 e) a8)) a8 7 = p := by simp [stv, r7]
        have y6 : (stv (stv u2 a8 6 e) a8 8 (F_X8_wordOf G w (stv u2 a8 6 e) a8)) a8 6 = e := by simp [stv]
        refine ⟨⟨⟨by rw [x4, y7], by rw [x2, y6]⟩, ⟨by rw [x4]; omega, by rw [x4, x2]; omega, by rw [x2, x1]; omega⟩, Or.inr (by rw [x4, x2]; omega), ?_⟩, (qF.st (by omega)).st (by omega), (rF.st (by omega)).st (by omega), by rw [x4]; omega⟩
        rw [y8, x3]
        rcases hwr with ⟨i, i1, i2, i3⟩ | ⟨i2, i3⟩
        · exact Or.inl ⟨i, i1, rfl, i2, i3⟩
        · exact Or.inr ⟨i3, Or.inr (Or.inl ⟨rfl, i2⟩)⟩
      · have x4 : (stv (stv c2 rd 2 e) rd 3 1) rd 4 = p := by simp [stv, q4]
        have y7 : (stv u2 a8 6 e) a8 7 = p := by simp [stv, r7]
        have y6 : (stv u2 a8 6 e) a8 6 = e := stv_s
        rw [y6, y7, fb_subI (by omega) (by omega)] at k1
        rw [x4, y7, stv_row (ne30 S3), stv_row (ne30 S3), stv_row (ne84 S8)]
        have hk : (p + k).toInt = p.toInt + k.toInt := fb_addI (by omega) (by omega)
        have hi : Int32.toNatClampNeg (p + k) = (p.toInt + k.toInt).toNat := by show (p + k).toInt.toNat = _; rw [hk]
        rw [hi]
        have h5 : (u2 a8 5).toInt = (c rd 1).toInt := by rw [← hT2.1, q1]
        exact (hT2.2.2 _ (by rw [h5]; omega)).1
  · rw [if_neg c1] at eN2
    have h0 := here_out hT2 hpp (by rw [q1, q2]; exact c1)
    rw [if_pos (show F_X8_here G w u2 a8 = -1 from h0)] at eS2
    rw [eN2, eS2]
    refine ⟨⟨⟨?_, ?_⟩, ⟨?_, ?_, ?_⟩, Or.inl ?_, Or.inr ⟨fun j _ => iw_no (by simp [stv]) j, Or.inl ⟨by simp [stv], by simp [stv]⟩⟩⟩, qF.st (by omega), rF.st (by omega), ?_⟩
    · simp [stv, q4, r7]
    · simp [stv, q2, r6]
    · simp [stv, q4]; omega
    · simp [stv, q4, q2]
    · simp [stv, q2, q1]; omega
    · simp [stv]
    · simp [stv, q4]; omega
end TK3
