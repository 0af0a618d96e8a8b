/-! TELL: by what trial the strengths that fit are told apart best -/
section TELL
variable {G : Gm} {w w' : Mw} {h0 a7 a8 : Nat} {v c u c1 u1 : Mv} {s x y z K r1 r2 : Int32} {f : Nat → Int32}
theorem hb_val (n : Nat) (hn : n < 32) (x : Int32) : (x >>> (nI n &&& 31)) &&& 1 = if bt x n = true then 1 else 0 := by
  by_cases h : bt x n = true
  · rw [if_pos h]
    exact (hb_eq n hn x).mpr h
  · rw [if_neg h]
    refine b_ext (fun i hi => ?_)
    rw [b_and, b_1 i hi, b_sshr n hn x hi, b_0]
    by_cases q : i = 0
    · rw [q, Nat.add_zero, if_pos hn, Bool.eq_false_iff.mpr h, Bool.false_and]
    · rw [decide_eq_false q, Bool.and_false]
theorem bits_loop : ∀ (n k : Nat), k ≤ 10 → 10 - k < n → K_X8_bitsOf_4 G w n v s (nI (nb s k)) (nI k) = nI (nb s 10) := by
  intro n
  induction n with
  | zero => intro k _ h; omega
  | succ n ih =>
    intro k hk hf
    rw [K_X8_bitsOf_4]
    by_cases c1 : (10 : Int32) ≤ nI k
    · have := (le_nI 10 (by decide) (by omega)).mp c1
      rw [if_pos c1, show k = 10 by omega]
    · have hlt : k < 10 := Nat.not_le.mp fun z => c1 ((le_nI 10 (by decide) (by omega)).mpr z)
      rw [if_neg c1, hb_val k (by omega), nI_1]
      have t := ih (k + 1) (by omega) (by omega)
      by_cases b : bt s k = true
      · rw [if_pos b, nI_1]
        rw [nb_y b] at t
        exact t
      · rw [if_neg b, i_add0]
        rw [nb_n b] at t
        exact t
theorem bits_eq : F_X8_bitsOf G w v s = nI (nb s 10) := bits_loop (G := G) (w := w) (v := v) (s := s) 11 0 (by omega) (by omega)
theorem ls_le (k : Nat) : ls f s x k ≤ nb s k := by
  induction k with
  | zero => exact Nat.le_refl _
  | succ k ih =>
    rw [ls]
    by_cases b : bt s k = true
    · rw [if_pos b, nb_y b]
      split <;> omega
    · rw [if_neg b, nb_n b]
      omega
theorem ls_y {k : Nat} (b : bt s k = true) : ls f s x (k + 1) = ls f s x k + (if f k < x then 0 else 1) := by rw [ls, if_pos b]
theorem ls_n {k : Nat} (b : ¬ bt s k = true) : ls f s x (k + 1) = ls f s x k := by rw [ls, if_neg b, Nat.add_zero]
theorem lt9 {k : Nat} (hk : k ≤ 1000) : (9 : Int32) < nI k ↔ 9 < k := by
  rw [i_lt, nI_toInt (by omega), show (9 : Int32).toInt = 9 from by decide]
  omega
/-- the greater part by one trial -/
def gq (f : Nat → Int32) (s x : Int32) : Nat := bg (ls f s x 10) (nb s 10 - ls f s x 10)
theorem gq_le (hs0 : bt s 0 = false) : gq f s x ≤ 9 := by
  have l := ls_le (f := f) (s := s) (x := x) 10
  have l2 := nb_le1 hs0 (show 1 ≤ 10 by omega)
  rw [gq, bg]
  split <;> omega
theorem t55 (rec28 : Mv → Int32 → Int32 → Int32 → Int32 → Int32 → Int32 × Mv) (rec42 : Mv → Int32 → Int32 → Int32 → Int32 → Int32 → Int32 → Int32 × Mv) (hf : ∀ j, 1 ≤ j → j ≤ 9 → F_X8_liftsBy G w v (v (rf G h0 1) (Int32.toNatClampNeg (20 + x))) (nI j) (10 * y) = f j) {p q : Int32} : ∀ (n j : Nat), 1 ≤ j → j ≤ 10 → 10 - j < n → K_X8_tell_55 G w h0 rec28 rec42 n v x s p q y z (nI (ls f s z j)) (nI j) = if q ≤ nI (gq f s z) then rec42 v x s p q y (z + 1) else rec42 v x s (100 * y + z) (nI (gq f s z)) y (z + 1) := by
  intro n
  induction n with
  | zero => intro j _ _ h; omega
  | succ n ih =>
    intro j hj1 hj hf1
    rw [K_X8_tell_55]
    by_cases c9 : (9 : Int32) < nI j
    · have := (lt9 (by omega)).mp c9
      have ej : j = 10 := by omega
      have l := ls_le (f := f) (s := s) (x := z) 10
      have l2 := nb_le (s := s) 10
      rw [if_pos c9, ej, bits_eq, nI_sub l]
      have key : ∀ g : Int32, K_X8_tell_135 G w h0 rec28 rec42 v x s p q y z g = if q ≤ g then rec42 v x s p q y (z + 1) else rec42 v x s (100 * y + z) g y (z + 1) := by
        intro g
        unfold K_X8_tell_135 K_X8_tell_156 K_X8_tell_171
        by_cases c1 : q ≤ g
        · simp only [if_pos c1]
        · simp only [if_neg c1]
      rw [key, key]
      by_cases c2 : nI (ls f s z 10) ≤ nI (nb s 10 - ls f s z 10)
      · have c3 := (nI_leI (by omega) (by omega)).mp c2
        have e : gq f s z = nb s 10 - ls f s z 10 := by
          rw [gq, bg]
          split <;> omega
        rw [if_pos c2, e]
      · have c3 : ¬ ls f s z 10 ≤ nb s 10 - ls f s z 10 := fun z => c2 ((nI_leI (by omega) (by omega)).mpr z)
        have e : gq f s z = ls f s z 10 := by
          rw [gq, bg]
          split <;> omega
        rw [if_neg c2, e]
    · have hlt : j ≤ 9 := Nat.not_lt.mp fun z => c9 ((lt9 (by omega)).mpr z)
      rw [if_neg c9, hf j hj1 hlt]
      unfold K_X8_tell_101 K_X8_tell_102
      rw [i_add0, nI_1, nI_1]
      have t := ih (j + 1) (by omega) (by omega) (by omega)
      by_cases b : bt s j = true
      · rw [if_neg (fun z => (has0 j (by omega)).mp z b)]
        rw [ls_y b] at t
        by_cases d : f j < z
        · rw [if_pos d]
          rw [if_pos d] at t
          exact t
        · rw [if_neg d]
          rw [if_neg d] at t
          exact t
      · rw [if_pos ((has0 j (by omega)).mpr b)]
        rw [ls_n b] at t
        exact t
theorem tell_in (hs0 : bt s 0 = false) (rec40 rec28 : Mv → Int32 → Int32 → Int32 → Int32 → Int32 → Int32 × Mv) (hf : ∀ j, 1 ≤ j → j ≤ 9 → F_X8_liftsBy G w' u (u (rf G a8 1) (Int32.toNatClampNeg (20 + x))) (nI j) (10 * y) = f j) (q1 : AW G (rf G a7 5) v s f 10) (hrec : ∀ p q r, lr 10 q r → (rec40 v x s p q (y + 1)).1 = (rec28 u x s p r (y + 1)).1) : ∀ (n m k : Nat) (p q r : Int32), k ≤ 61 → 61 - k < n → 61 - k < m → lr 10 q r → (K_X7_tell_72 G w a7 rec40 n v x s p q y (nI k)).1 = (K_X8_tell_42 G w' a8 rec28 m u x s p r y (nI k)).1 := by
  intro n
  induction n with
  | zero => intro m k p q r _ h; omega
  | succ n ih =>
    intro m k p q r hk hf1 hf2 hL
    match m, hf2 with
    | 0, hf2 => exact absurd hf2 (by omega)
    | m + 1, hf2 =>
      rw [K_X7_tell_72, K_X8_tell_42]
      by_cases c1 : (60 : Int32) < nI k
      · rw [if_pos c1, if_pos c1]
        exact hrec p q r hL
      · have hlt : k ≤ 60 := Nat.not_lt.mp fun z => c1 (i_lt.mpr (by rw [nI_toInt (by omega), show (60 : Int32).toInt = 60 from by decide]; omega))
        rw [if_neg c1, if_neg c1]
        have t := t55 (G := G) (w := w') (h0 := a8) (v := u) (s := s) (x := x) (y := y) (z := nI k) (f := f) rec28 (K_X8_tell_42 G w' a8 rec28 m) hf (p := p) (q := r) 10 1 (by omega) (by omega) (by omega)
        rw [ls_n (by rw [hs0]; decide)] at t
        have t : K_X8_tell_55 G w' a8 rec28 (K_X8_tell_42 G w' a8 rec28 m) 10 u x s p r y (nI k) 0 1 = _ := t
        have g1 : F_X0_greaterPart G w v (rf G a7 5) (nI k) = nI (gq f s (nI k)) := q1.part hs0
        rw [t, g1]
        unfold K_X7_tell_110
        rw [nI_1]
        have l := gq_le (f := f) (s := s) (x := nI k) hs0
        generalize gq f s (nI k) = g at l ⊢
        have key := lr_le (g := nI g) (n := 10) hL (by decide) rfl (show g < 10 by omega) (by omega)
        by_cases c2 : q ≤ nI g
        · rw [if_pos c2, if_pos (key.mp c2)]
          exact ih m (k + 1) p q r (by omega) (by omega) (by omega) hL
        · rw [if_neg c2, if_neg (fun z => c2 (key.mpr z))]
          exact ih m (k + 1) _ (nI g) (nI g) (by omega) (by omega) (by omega) (Or.inl rfl)
theorem tell_loop (S7 : S_X7 G a7) (hs : ¬ s = 0) (hs0 : bt s 0 = false) (hb : Bd (c (rf G (rf G a7 0) 4) (Int32.toNatClampNeg x)) 0 5) (ex : u (rf G a8 1) (Int32.toNatClampNeg (20 + x)) = c (rf G (rf G a7 0) 4) (Int32.toNatClampNeg x)) : ∀ (n m k : Nat) (v : Mv) (p q r : Int32), k ≤ 10 → 10 - k < n → 10 - k < m → Oth G (rf G a7 5) c v → lr 10 q r → (K_X7_tell_40 G w a7 n v x s p q (nI k)).1 = (K_X8_tell_28 G w' a8 m u x s p r (nI k)).1 := by
  intro n
  induction n with
  | zero => intro m k v p q r _ h; omega
  | succ n ih =>
    intro m k v p q r hk hf1 hf2 hO hL
    match m, hf2 with
    | 0, hf2 => exact absurd hf2 (by omega)
    | m + 1, hf2 =>
      rw [K_X7_tell_40, K_X8_tell_28]
      by_cases c1 : (9 : Int32) < nI k
      · rw [if_pos c1, if_pos c1]
      · have hlt : k ≤ 9 := Nat.not_lt.mp fun z => c1 ((lt9 (by omega)).mpr z)
        rw [if_neg c1, if_neg c1, if_neg hs]
        have S0 := S_X7.f5 S7
        have ev : v (rf G (rf G a7 0) 4) = c (rf G (rf G a7 0) 4) := hO _ (tg_ne (S_X6.f4 (S_X7.f0 S7)) (S_X0.h S0) rfl) (tg_ne (S_X6.f4 (S_X7.f0 S7)) (S_X0.f0 S0) rfl)
        rw [ev]
        have hy : Bd (10 * nI k) 0 99 := by
          have e10 : (10 : Int32).toInt = 10 := by decide
          have ek := nI_toInt (n := k) (by omega)
          have e := fb_mulI (x := 10) (y := nI k) (by rw [e10, ek]; omega) (by rw [e10, ek]; omega)
          rw [e10, ek] at e
          exact ⟨by rw [e]; omega, by rw [e]; omega⟩
        have bk : ∀ j : Nat, j ≤ 9 → Bd (nI j) 0 9 := fun j hj => ⟨by rw [nI_toInt (by omega)]; omega, by rw [nI_toInt (by omega)]; omega⟩
        obtain ⟨q1, q2⟩ := filled_Strength (G := G) (w := w) (h0 := rf G a7 5) (s := s) (x := c (rf G (rf G a7 0) 4) (Int32.toNatClampNeg x)) (y := 10 * nI k) (f := fun j => F_X8_liftsBy G w' u (u (rf G a8 1) (Int32.toNatClampNeg (20 + x))) (nI j) (10 * nI k)) (S0_ne S0) hs0 (fun v k _ hk => by rw [ex]; exact leq hb (bk k hk) hy) v
        have hO' := hO.tr q2
        unfold K_X7_tell_c1
        generalize F_X0_fillByStrength G w v (rf G a7 5) (c (rf G (rf G a7 0) 4) (Int32.toNatClampNeg x)) s (10 * nI k) = v2 at hO' q1 ⊢
        exact tell_in (w := w) (w' := w') hs0 (K_X7_tell_40 G w a7 n) (K_X8_tell_28 G w' a8 m) (fun _ _ _ => rfl) q1 (fun p q r hL => by
          rw [nI_1]
          exact ih m (k + 1) v2 p q r (by omega) (by omega) (by omega) hO' hL) 62 62 0 p q r (by omega) (by omega) (by omega) hL
theorem m_tell (S7 : S_X7 G a7) (S8 : S_X8 G a8) (h : RX G a7 a8 c u) (e1 : (r1, c1) = F_X7_tell G w c a7 x) (e2 : (r2, u1) = F_X8_tell G w' u a8 x) : r1 = r2 := by
  unfold F_X7_tell K_X7_tell_e K_X7_tell_c2 F_X7_bad K_X7_bad_e F_X6_hasOne K_X6_hasOne_e at e1
  unfold F_X8_tell K_X8_tell_e K_X8_tell_c1 F_X8_bad K_X8_bad_e F_X8_isOne K_X8_isOne_e at e2
  have t0 : c (rf G a7 0) 3 = u (rf G a8 1) (Int32.toNatClampNeg 1) := h.1.1.1.2
  have tb := h.1.1.2.1.2
  rw [← t0] at e2
  have d1 : (F_X8_in G w' u x 0 (c (rf G a7 0) 3 - 1) = 0) ↔ ((if x < 0 then (0 : Int32) else if c (rf G a7 0) 3 ≤ x then 0 else 1) = 0) := by
    rw [in8 (G' := G) (w' := w) (v' := c), isW0, hs_in tb]
  by_cases q : (if x < 0 then (0 : Int32) else if c (rf G a7 0) 3 ≤ x then 0 else 1) = 0
  · rw [if_pos q] at e1
    rw [if_pos (d1.mpr q)] at e2
    exact (Prod.mk.inj e1).1.trans (Prod.mk.inj e2).1.symm
  rw [if_neg q] at e1
  rw [if_neg (fun z => q (d1.mp z))] at e2
  obtain ⟨k1, k2⟩ := cell_of (X := 20) h.1.1.2.2.2.2.1 tb (hs_bd tb q) (by decide) (by omega)
  obtain ⟨s1, s2, s3⟩ := set_strong (w := w) (w' := w') h (hs_bd tb q)
  rw [← s1] at e2
  have e2 := congrArg Prod.fst e2
  generalize F_X6_fittingStrengths G w c (rf G a7 0) x = s at e1 e2 s3
  by_cases hs : s = 0
  · rw [if_pos hs] at e1
    rw [K_X8_tell_28, if_neg (show ¬ (9 : Int32) < 0 by decide), if_pos hs] at e2
    exact (Prod.mk.inj e1).1.trans e2.symm
  · rw [if_neg hs] at e1
    have e1 := congrArg Prod.fst e1
    exact e1.trans ((tell_loop (w := w) (w' := w') (a8 := a8) (u := u) S7 hs s3 k2 k1 11 11 0 c (-1) 10 100000 (by omega) (by omega) (by omega) (fun _ _ _ => rfl) (Or.inr ⟨rfl, rfl⟩)).trans e2.symm)
end TELL
