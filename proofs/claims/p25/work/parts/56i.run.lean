section DR5
variable {G : Gm} {w : Mw} {a a8 hi : Nat} {c u : Mv}
theorem ne81 (S8 : S_X8 G a8) : rf G a8 1 ≠ a8 := tg_ne (S_X8.f1 S8) (S_X8.h S8) rfl
theorem year_ok (C : Ch6 G a hi) (h : DRl G a a8 c u) (hy : (c (rf G a 6) 3).toInt ≤ 998) (rec3 : Mv → Int32 → Int32 → Int32 → Mv) (x1 x2 x7 : Int32) : ∃ c' : Mv, K_X6_passYears_20 G w a (rf G a 6) rec3 8 c x1 x2 x7 0 = rec3 c' x1 x2 (x7 + 1) ∧ DRl G a a8 c' (F_X8_passOn_738_A_772 G w u a8) ∧ Fm G (rf G a 6) c c' ∧ Fa (rf G a8 1) u (F_X8_passOn_738_A_772 G w u a8) := by
  obtain ⟨k1, k2, k3, k4, k5, ⟨k6, k7⟩, -⟩ := id C
  have h7 := nn_le (n := 7) h.1.2.1.2
  obtain ⟨c', u', r1, r2, r3, r4, r5, r6⟩ := ppl_ok (w := w) (a8 := a8) C rec3 (u (rf G a8 1) 773) x1 x2 x7 (nn (c a 3)) h7 8 0 c u h (nI_nn h.1.2.1.2.1).symm (by omega) (by omega) (fun j _ _ => rfl)
  have e2 : F_X8_passOn_738_A_772 G w u a8 = stv u' (rf G a8 1) 772 (u' (rf G a8 1) 772 + 1) := by
    unfold F_X8_passOn_738_A_772 K_X8_passOn_738_A_772_e
    rw [show Int32.toNatClampNeg (772 + 1) = 773 from by decide]
    exact r2
  refine ⟨stv c' (rf G a 6) 3 (c' (rf G a 6) 3 + 1), r1, ?_, fun x q1 q2 q3 => (stv_row q1).trans (r4 x q1 q2 q3), ?_⟩
  · rw [e2]
    obtain ⟨⟨⟨b1, b2⟩, ⟨b3, b4⟩, b5, b6, b7, b8⟩, ⟨⟨m1, m2⟩, m3, m4, m5⟩⟩ := r3
    have h70 := nn_le (n := 7) b3
    have h73 := nn_le (n := 7) b4
    have m1' : c' (rf G a 6) 3 = u' (rf G a8 1) 772 := m1
    have ey := i_add1 m2 (by decide) (by decide)
    have fo : ∀ f, f ≠ rf G a 6 → (stv c' (rf G a 6) 3 (c' (rf G a 6) 3 + 1)) f = c' f := fun f h => stv_row h
    have g : ∀ j, j ≠ 772 → (stv u' (rf G a8 1) 772 (u' (rf G a8 1) 772 + 1)) (rf G a8 1) j = u' (rf G a8 1) j := fun j h => stv_k h
    have g2 : (stv u' (rf G a8 1) 772 (u' (rf G a8 1) 772 + 1)) (rf G a8 1) (738 + 34) = u' (rf G a8 1) 772 + 1 := stv_s
    unfold DRl RB RM
    rw [fo a (by omega), fo (rf G a 1) (by omega), fo (rf G a 2) (by omega), fo (rf G a 4) (by omega), fo (rf G a 5) (by omega), fo (rf G (rf G a 6) 0) (by omega), fo (rf G (rf G a 6) 1) (by omega), g 738 (by omega), g (738 + 1) (by omega), g2, g (738 + 35) (by omega), stv_s, stv_k (show (2 : Nat) ≠ 3 by decide)]
    exact ⟨⟨⟨b1, b2⟩, ⟨b3, b4⟩, b5.congr (fun _ _ => rfl) (fun t ht => g _ (by omega)), b6.congr (fun _ _ => rfl) (fun t ht => g _ (by omega)), b7.congr (fun _ _ => rfl) (fun t ht => g _ (by omega)), b8.congr (fun _ _ => rfl) (fun t ht => g _ (by omega))⟩, ⟨⟨by rw [m1'], by rw [r6]; rw [r6] at ey; exact ⟨by rw [ey]; have := h.2.1.2.1; omega, by rw [ey]; omega⟩⟩, m3, m4.congr (fun _ _ => rfl) (fun t ht => g _ (by omega)), m5.congr (fun _ _ => rfl) (fun t ht => g _ (by omega))⟩⟩
  · rw [e2]
    exact r5.st
theorem years_ok (S8 : S_X8 G a8) (C : Ch6 G a hi) (X : Nat) (hX : X ≤ 99) : ∀ (n m k : Nat) (c u : Mv), DRl G a a8 c u → u a8 10 = 0 → k ≤ X → X - k < n → X - k < m → ∃ c' u' : Mv, K_X6_passYears_3 G w a (rf G a 6) n c (nI X) 999 (nI k) = c' ∧ K_X8_readYears_10 G w a8 m u (nI X) (nI k) = u' ∧ DRl G a a8 c' u' ∧ Fm G (rf G a 6) c c' ∧ Fa (rf G a8 1) u u' := by
  intro n
  induction n with
  | zero => intro m k c u _ _ _ h _; omega
  | succ n ih =>
    intro m k c u h hw hk hf hf2
    match m, hf2 with
    | 0, hf2 => exact absurd hf2 (by omega)
    | m + 1, hf2 =>
      rw [K_X6_passYears_3, K_X8_readYears_10]
      by_cases c1 : nI X ≤ nI k
      · rw [if_pos c1, if_pos c1]
        exact ⟨c, u, rfl, rfl, h, Fm.rf, Fa.rf⟩
      · have hlt : k < X := Nat.not_le.mp fun q => c1 ((nI_leI (by omega) (by omega)).mpr q)
        have m1 : c (rf G a 6) 3 = u (rf G a8 1) 772 := h.2.1.1
        rw [if_neg c1, if_neg c1, if_pos hw, show Int32.toNatClampNeg 772 = 772 from by decide, ← m1]
        by_cases c2 : (999 : Int32) ≤ c (rf G a 6) 3
        · rw [if_pos c2, if_pos c2]
          exact ⟨c, u, rfl, rfl, h, Fm.rf, Fa.rf⟩
        · rw [if_neg c2, if_neg c2]
          have e9 : (999 : Int32).toInt = 999 := by decide
          obtain ⟨c', r1, r2, r3, r4⟩ := year_ok (w := w) C h (by have := i_lt.mp (nle c2); omega) (K_X6_passYears_3 G w a (rf G a 6) n) (nI X) 999 (nI k)
          unfold K_X8_readYears_c1
          rw [r1, nI_1]
          obtain ⟨c2, u2, s1, s2, s3, s4, s5⟩ := ih m (k + 1) c' _ r2 (by rw [r4.1 a8 (Ne.symm (ne81 S8))]; exact hw) (by omega) (by omega) (by omega)
          exact ⟨c2, u2, s1, s2, s3, r3.tr s4, r4.tr s5⟩
/-- the draft's own cells alone -/
def Fdr (G : Gm) (a : Nat) (c c' : Mv) : Prop := ∀ x, x ≠ a → x ≠ rf G a 1 → x ≠ rf G a 2 → x ≠ rf G a 4 → x ≠ rf G a 5 → x ≠ rf G a 6 → x ≠ rf G (rf G a 6) 0 → x ≠ rf G (rf G a 6) 1 → c' x = c x
theorem fm_d (h : Fm G (rf G a 6) c u) : Fdr G a c u := fun x _ _ _ _ _ q6 q7 q8 => h x q6 q7 q8
theorem DRl.congr {c' u' : Mv} (h : DRl G a a8 c u) (ha : c' a = c a) (h1 : c' (rf G a 1) = c (rf G a 1)) (h2 : c' (rf G a 2) = c (rf G a 2)) (h4 : c' (rf G a 4) = c (rf G a 4)) (h5 : c' (rf G a 5) = c (rf G a 5)) (h6 : c' (rf G a 6) = c (rf G a 6)) (h60 : c' (rf G (rf G a 6) 0) = c (rf G (rf G a 6) 0)) (h61 : c' (rf G (rf G a 6) 1) = c (rf G (rf G a 6) 1)) (hu : u' (rf G a8 1) = u (rf G a8 1)) : DRl G a a8 c' u' := by
  unfold DRl RB RM
  rw [ha, h1, h2, h4, h5, h6, h60, h61, hu]
  exact h
end DR5
/-- both are where they read on: the class is about to read the token that the reference stands at -/
def RUN (G : Gm) (w : Mw) (rd a8 : Nat) (c u : Mv) : Prop := RT G rd a8 c u ∧ DRl G (rf G rd 6) a8 c u ∧ u a8 10 = 0 ∧ (0 ≤ (c rd 2).toInt ∧ (c rd 2).toInt ≤ (c rd 1).toInt) ∧ ∃ up : Mv, RT G rd a8 c up ∧ c rd 2 = up a8 6 ∧ ∀ k, 6 ≤ k → k ≤ 9 → u a8 k = (F_X8_step G w up a8) a8 k
/-- the class has read it -/
def CUR (G : Gm) (w : Mw) (rd a8 : Nat) (c u : Mv) : Prop := RT G rd a8 c u ∧ DRl G (rf G rd 6) a8 c u ∧ u a8 10 = 0 ∧ TK G w rd a8 c u
section RU
variable {G : Gm} {w : Mw} {rd a8 hi : Nat} {c u : Mv}
theorem FR.row {c' : Mv} (h : FR rd c c') {x : Nat} (hx : x ≠ rd) : c' x = c x := funext fun k => h x k (Or.inl hx)
theorem FS.row {u' : Mv} (h : FS a8 u u') {x : Nat} (hx : x ≠ a8) : u' x = u x := funext fun k => h x k (Or.inl hx)
theorem DRl.fr {c' : Mv} (C : Ch3 G rd hi) (h : DRl G (rf G rd 6) a8 c u) (f : FR rd c c') : DRl G (rf G rd 6) a8 c' u := by
  obtain ⟨d1, d2, k1, k2, k3, k4, k5, ⟨k6, k7⟩, -⟩ := C
  exact h.congr (f.row (by omega)) (f.row (by omega)) (f.row (by omega)) (f.row (by omega)) (f.row (by omega)) (f.row (by omega)) (f.row (by omega)) (f.row (by omega)) rfl
theorem RT.fr {c' : Mv} (S3 : S_X3 G rd) (h : RT G rd a8 c u) (f : FR rd c c') : RT G rd a8 c' u := h.congr (f rd 1 (Or.inr (by decide))) (f.row (ne30 S3)) rfl rfl
theorem RT.fs {u' : Mv} (S8 : S_X8 G a8) (h : RT G rd a8 c u) (f : FS a8 u u') : RT G rd a8 c u' := h.congr rfl rfl (f a8 5 (Or.inr (by decide))) (f.row (ne84 S8))
theorem DRl.fs {u' : Mv} (S8 : S_X8 G a8) (h : DRl G (rf G rd 6) a8 c u) (f : FS a8 u u') : DRl G (rf G rd 6) a8 c u' := h.congr rfl rfl rfl rfl rfl rfl rfl rfl (f.row (ne81 S8))
theorem TK.cu {u' : Mv} (h : TK G w rd a8 c u) (e : ∀ k, 6 ≤ k → k ≤ 9 → u' a8 k = u a8 k) : TK G w rd a8 c u' := by
  unfold TK
  rw [e 6 (by omega) (by omega), e 7 (by omega) (by omega), e 8 (by omega) (by omega), e 9 (by omega) (by omega)]
  exact h
/-- the reference goes on to the next token -/
theorem CUR.step (S3 : S_X3 G rd) (S8 : S_X8 G a8) (h : CUR G w rd a8 c u) : RUN G w rd a8 c (F_X8_step G w u a8) ∧ FS a8 u (F_X8_step G w u a8) := by
  obtain ⟨h1, h2, h3, h4⟩ := h
  obtain ⟨t1, t2, t3, t4⟩ := tok (w := w) S3 S8 h1 h4.1.2 (by have := h4.2.1; omega) h4.2.1.2.2
  exact ⟨⟨h1.fs S8 t3, h2.fs S8 t3, (t3 a8 10 (Or.inr (by decide))).trans h3, ⟨by have := h4.2.1; omega, h4.2.1.2.2⟩, u, h1, h4.1.2, fun _ _ _ => rfl⟩, t3⟩
/-- the class reads the token -/
theorem RUN.next (S3 : S_X3 G rd) (S8 : S_X8 G a8) (C : Ch3 G rd hi) (h : RUN G w rd a8 c u) : CUR G w rd a8 (F_X3_nextToken G w c rd) u ∧ FR rd c (F_X3_nextToken G w c rd) ∧ (c rd 2).toInt ≤ ((F_X3_nextToken G w c rd) rd 4).toInt := by
  obtain ⟨h1, h2, h3, h4, up, h5, h6, h7⟩ := h
  obtain ⟨t1, t2, t3, t4⟩ := tok (w := w) S3 S8 h5 h6 h4.1 h4.2
  exact ⟨⟨h1.fr S3 t2, h2.fr C t2, h3, t1.cu h7⟩, t2, t4⟩
theorem RUN.keep {c' u' : Mv} (h : RUN G w rd a8 c u) (hc : c' rd = c rd) (ht : c' (rf G rd 0) = c (rf G rd 0)) (hu : ∀ k, 5 ≤ k → k ≤ 10 → u' a8 k = u a8 k) (hx : u' (rf G a8 4) = u (rf G a8 4)) (hd : DRl G (rf G rd 6) a8 c' u') : RUN G w rd a8 c' u' := by
  obtain ⟨h1, h2, h3, h4, up, h5, h6, h7⟩ := h
  refine ⟨h1.congr (by rw [hc]) ht (hu 5 (by omega) (by omega)) hx, hd, (hu 10 (by omega) (by omega)).trans h3, by rw [hc]; exact h4, up, h5.congr (by rw [hc]) ht rfl rfl, by rw [hc]; exact h6, fun k k1 k2 => (hu k (by omega) (by omega)).trans (h7 k k1 k2)⟩
end RU
