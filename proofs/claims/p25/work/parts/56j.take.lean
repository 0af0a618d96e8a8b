/-! PURE THEORY 5: the ITEMS, one by one -/
/-- what reading may write: the reader's fields and the draft; the reference's fields 6 to 11 and its draft row -/
def FRD (G : Gm) (rd : Nat) (c c' : Mv) : Prop := (∀ x, x ≠ rd → x ≠ rf G rd 6 → x ≠ rf G (rf G rd 6) 1 → x ≠ rf G (rf G rd 6) 2 → x ≠ rf G (rf G rd 6) 4 → x ≠ rf G (rf G rd 6) 5 → x ≠ rf G (rf G rd 6) 6 → x ≠ rf G (rf G (rf G rd 6) 6) 0 → x ≠ rf G (rf G (rf G rd 6) 6) 1 → c' x = c x) ∧ (∀ k, k ≠ 2 → k ≠ 3 → k ≠ 4 → k ≠ 5 → c' rd k = c rd k) ∧ (c rd 2).toInt ≤ (c' rd 2).toInt ∧ (c (rf G rd 6) 8 = 0 → c' (rf G rd 6) 8 = 0)
def FSA (G : Gm) (a8 : Nat) (u u' : Mv) : Prop := (∀ x, x ≠ a8 → x ≠ rf G a8 1 → u' x = u x) ∧ (∀ k, (k < 6 ∨ 10 < k) → u' a8 k = u a8 k) ∧ ∀ j, (j < 738 ∨ (740 ≤ j ∧ j ≤ 742)) → u' (rf G a8 1) j = u (rf G a8 1) j
section IT
variable {G : Gm} {w : Mw} {rd a8 hi : Nat} {c u c1 u1 : Mv}
theorem frd_rf : FRD G rd c c := ⟨fun _ _ _ _ _ _ _ _ _ _ => rfl, fun _ _ _ _ _ => rfl, Int.le_refl _, id⟩
theorem fsa_rf : FSA G a8 u u := ⟨fun _ _ _ => rfl, fun _ _ => rfl, fun _ _ => rfl⟩
theorem FRD.tr {c2 : Mv} (h : FRD G rd c c1) (h2 : FRD G rd c1 c2) : FRD G rd c c2 := ⟨fun x q1 q2 q3 q4 q5 q6 q7 q8 q9 => (h2.1 x q1 q2 q3 q4 q5 q6 q7 q8 q9).trans (h.1 x q1 q2 q3 q4 q5 q6 q7 q8 q9), fun k q1 q2 q3 q4 => (h2.2.1 k q1 q2 q3 q4).trans (h.2.1 k q1 q2 q3 q4), Int.le_trans h.2.2.1 h2.2.2.1, fun q => h2.2.2.2 (h.2.2.2 q)⟩
theorem FSA.tr {u2 : Mv} (h : FSA G a8 u u1) (h2 : FSA G a8 u1 u2) : FSA G a8 u u2 := ⟨fun x q1 q2 => (h2.1 x q1 q2).trans (h.1 x q1 q2), fun k q => (h2.2.1 k q).trans (h.2.1 k q), fun j q => (h2.2.2 j q).trans (h.2.2 j q)⟩
theorem fr_d (C : Ch3 G rd hi) (h : FR rd c c1) (hm : (c rd 2).toInt ≤ (c1 rd 2).toInt) : FRD G rd c c1 := ⟨fun x q _ _ _ _ _ _ _ _ => h.row q, fun k q1 q2 q3 q4 => h rd k (Or.inr ⟨q1, q2, q3, q4⟩), hm, fun q => by
  have hd6 : rf G rd 6 ≠ rd := by obtain ⟨d1, d2, -⟩ := C; omega
  rw [h.row hd6]
  exact q⟩
theorem nx_mono (hc : CUR G w rd a8 c1 u) (hp : (c rd 2).toInt ≤ (c1 rd 4).toInt) : (c rd 2).toInt ≤ (c1 rd 2).toInt := by
  have := hc.2.2.2.2.1
  omega
theorem FS.d (S8 : S_X8 G a8) (h : FS a8 u u1) : FSA G a8 u u1 := ⟨fun x q _ => h.row q, fun k q => h a8 k (Or.inr (by omega)), fun j _ => by rw [h.row (ne81 S8)]⟩
theorem fdr_d (C : Ch3 G rd hi) (h : Fdr G (rf G rd 6) c c1) (h8 : c (rf G rd 6) 8 = 0 → c1 (rf G rd 6) 8 = 0) : FRD G rd c c1 := by
  obtain ⟨d1, d2, k1, k2, k3, k4, k5, ⟨k6, k7⟩, -⟩ := C
  exact ⟨fun x _ q2 q3 q4 q5 q6 q7 q8 q9 => h x q2 q3 q4 q5 q6 q7 q8 q9, fun k _ _ _ _ => by rw [h rd (by omega) (by omega) (by omega) (by omega) (by omega) (by omega) (by omega) (by omega)], by rw [h rd (by omega) (by omega) (by omega) (by omega) (by omega) (by omega) (by omega) (by omega)]; exact Int.le_refl _, h8⟩
theorem fdr_rd (C : Ch3 G rd hi) (h : Fdr G (rf G rd 6) c c1) : c1 rd = c rd ∧ c1 (rf G rd 0) = c (rf G rd 0) := by
  obtain ⟨d1, d2, k1, k2, k3, k4, k5, ⟨k6, k7⟩, -⟩ := C
  exact ⟨h rd (by omega) (by omega) (by omega) (by omega) (by omega) (by omega) (by omega) (by omega), h _ (by omega) (by omega) (by omega) (by omega) (by omega) (by omega) (by omega) (by omega)⟩
theorem ne814 (S8 : S_X8 G a8) : rf G a8 4 ≠ rf G a8 1 := tg_ne (S_X8.f4 S8) (S_X8.f1 S8) rfl
/-- what comes of an ITEM: both read on, or both stand at the FAULT -/
def OUT (G : Gm) (w : Mw) (rd a8 : Nat) (r : Int32) (c u : Mv) : Prop := (r = 1 ∧ RUN G w rd a8 c u) ∨ (r = 0 ∧ c rd 4 = u a8 7 ∧ ¬ u a8 10 = 0)
theorem due_1 (h : u a8 10 = 0) {x : Int32} (hx : ¬ x = 0) : F_X8_due G w u a8 x = F_X8_step G w u a8 := by
  unfold F_X8_due K_X8_due_e K_X8_due_c1
  rw [if_pos h, if_neg hx]
theorem due_0 (h : u a8 10 = 0) : F_X8_due G w u a8 0 = stv u a8 10 1 := by
  unfold F_X8_due K_X8_due_e
  rw [if_pos h, if_pos rfl]
theorem due_w (h : ¬ u a8 10 = 0) {x : Int32} : F_X8_due G w u a8 x = u := by
  unfold F_X8_due K_X8_due_e
  rw [if_neg h]
theorem num_w (h : ¬ u a8 10 = 0) {x y : Int32} : (F_X8_number G w u a8 x y).2 = u := by
  unfold F_X8_number K_X8_number_e K_X8_number_28 K_X8_number_29 K_X8_number_c1
  rw [due_w h, due_w h]
  by_cases q : u a8 8 = 6
  · rw [if_pos q]
    split <;> rfl
  · rw [if_neg q]
theorem fsa_wrong (S8 : S_X8 G a8) : FSA G a8 u (stv u a8 10 1) := ⟨fun x q _ => stv_row q, fun k q => stv_k (by omega), fun j _ => stv_a (ne81 S8)⟩
/-- a number of both -/
theorem num_ok (S3 : S_X3 G rd) (S8 : S_X8 G a8) (C : Ch3 G rd hi) (h : RUN G w rd a8 c u) (lo up : Int32) : ∃ c1 : Mv, FRD G rd c c1 ∧ FSA G a8 u (F_X8_number G w u a8 lo up).2 ∧ ((F_X3_takeNumber G w c rd lo up = (1, c1) ∧ (F_X8_number G w u a8 lo up).1 = c1 rd 5 ∧ RUN G w rd a8 c1 (F_X8_number G w u a8 lo up).2 ∧ (lo ≤ c1 rd 5 ∧ c1 rd 5 ≤ up) ∧ Bd (c1 rd 5) 0 99 ∧ c1 (rf G rd 6) = c (rf G rd 6)) ∨ (F_X3_takeNumber G w c rd lo up = (0, c1) ∧ c1 rd 4 = (F_X8_number G w u a8 lo up).2 a8 7 ∧ ¬ (F_X8_number G w u a8 lo up).2 a8 10 = 0)) := by
  obtain ⟨hc, hf, hp⟩ := h.next S3 S8 C
  have hd6 : rf G rd 6 ≠ rd := by obtain ⟨d1, d2, -⟩ := C; omega
  have h10 : u a8 10 = 0 := hc.2.2.1
  have e6 := hf.row hd6
  generalize hc1 : F_X3_nextToken G w c rd = c1 at *
  have eT : F_X3_takeNumber G w c rd lo up = if c1 rd 3 = 2 then (if F_X7_isWithin G w c1 (c1 rd 5) lo up = 0 then (0, c1) else (1, c1)) else (0, c1) := by
    unfold F_X3_takeNumber K_X3_takeNumber_e K_X3_takeNumber_c1
    rw [hc1]
  have eN : F_X8_number G w u a8 lo up = if u a8 8 = 6 then (if F_X8_in G w u (u a8 9) lo up = 0 then (u a8 9, stv u a8 10 1) else (u a8 9, F_X8_step G w u a8)) else (u a8 9, stv u a8 10 1) := by
    unfold F_X8_number K_X8_number_e K_X8_number_28 K_X8_number_29 K_X8_number_c1
    rw [due_0 h10, due_1 h10 (show ¬ (1 : Int32) = 0 by decide)]
  have hbad : F_X8_number G w u a8 lo up = (u a8 9, stv u a8 10 1) → F_X3_takeNumber G w c rd lo up = (0, c1) → ∃ c1 : Mv, FRD G rd c c1 ∧ FSA G a8 u (F_X8_number G w u a8 lo up).2 ∧ ((F_X3_takeNumber G w c rd lo up = (1, c1) ∧ (F_X8_number G w u a8 lo up).1 = c1 rd 5 ∧ RUN G w rd a8 c1 (F_X8_number G w u a8 lo up).2 ∧ (lo ≤ c1 rd 5 ∧ c1 rd 5 ≤ up) ∧ Bd (c1 rd 5) 0 99 ∧ c1 (rf G rd 6) = c (rf G rd 6)) ∨ (F_X3_takeNumber G w c rd lo up = (0, c1) ∧ c1 rd 4 = (F_X8_number G w u a8 lo up).2 a8 7 ∧ ¬ (F_X8_number G w u a8 lo up).2 a8 10 = 0)) := by
    intro q1 q2
    refine ⟨c1, fr_d C hf (nx_mono hc hp), ?_, Or.inr ⟨q2, ?_, ?_⟩⟩
    · rw [q1]; exact fsa_wrong S8
    · rw [q1]; exact hc.2.2.2.1.1.trans (stv_k (by decide)).symm
    · rw [q1]; show ¬ (stv u a8 10 1) a8 10 = 0; rw [stv_s]; decide
  rcases hc.2.2.2.2.2.2 with ⟨i, i1, i2, i3, -⟩ | ⟨-, ⟨k3, k8⟩ | ⟨k3, k8⟩ | ⟨k3, k8, k5, kb⟩ | ⟨k3, k8⟩ | ⟨k3, k8⟩⟩
  · refine hbad ?_ ?_
    · rw [eN, if_neg (fun q => ?_)]
      rw [i3] at q
      have := congrArg Int32.toInt q
      rw [show (6 : Int32).toInt = 6 from by decide] at this
      have h2 : (Int32.ofNat i).toInt = (i : Int) := Int32.toInt_ofNat_of_lt (by omega)
      omega
    · rw [eT, if_neg (by rw [i2]; decide)]
  · exact hbad (by rw [eN, if_neg (by rw [k8]; decide)]) (by rw [eT, if_neg (by rw [k3]; decide)])
  · exact hbad (by rw [eN, if_neg (by rw [k8]; decide)]) (by rw [eT, if_neg (by rw [k3]; decide)])
  · rw [if_pos k3, k5] at eT
    rw [if_pos k8] at eN
    by_cases c2 : F_X7_isWithin G w c1 (u a8 9) lo up = 0
    · exact hbad (by rw [eN, if_pos (show F_X8_in G w u (u a8 9) lo up = 0 from c2)]) (by rw [eT, if_pos c2])
    · rw [if_neg c2] at eT
      rw [if_neg (show ¬ F_X8_in G w u (u a8 9) lo up = 0 from c2)] at eN
      obtain ⟨s1, s2⟩ := hc.step S3 S8
      refine ⟨c1, fr_d C hf (nx_mono hc hp), by rw [eN]; exact FS.d S8 s2, Or.inl ⟨eT, by rw [eN, k5], by rw [eN]; exact s1, ?_, by rw [k5]; exact kb, e6⟩⟩
      rw [k5]
      exact Classical.byContradiction fun q => c2 (isW0.mpr q)
  · exact hbad (by rw [eN, if_neg (by rw [k8]; decide)]) (by rw [eT, if_neg (by rw [k3]; decide)])
  · exact hbad (by rw [eN, if_neg (by rw [k8]; decide)]) (by rw [eT, if_neg (by rw [k3]; decide)])
end IT
