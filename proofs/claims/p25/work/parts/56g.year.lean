/-! PURE THEORY 4: who owns what, and a YEAR, in the draft -/
theorem nn_nI {k : Nat} (h : k < 2147483648) : nn (nI k) = k := by
  show (nI k).toInt.toNat = k
  rw [nI_toInt h]
  omega
theorem ixk {A : Int32} (a k : Nat) (hA : A.toInt = a) (ha : a ≤ 1000) (hk : k ≤ 200) : Int32.toNatClampNeg (A + nI k) = a + k := by
  rw [ixl a hA ha (by rw [nI_toInt (by omega)]; omega)]
  have := nn_nI (k := k) (by omega)
  show a + nn (nI k) = a + k
  rw [this]
theorem cl_nI {k : Nat} (h : k < 2147483648) : Int32.toNatClampNeg (nI k) = k := nn_nI h
section DR3
variable {G : Gm} {w : Mw} {a a8 hi : Nat} {c u : Mv}
theorem own_c {m : Nat} {t : Int32} {N : Nat} (hN : c a 3 = nI N) (h7 : N ≤ 7) : ∀ (n k : Nat), k ≤ N → N - k < n → (K_X6_ownerIn_2 G w a m n c t (nI k) = -1 ↔ ∀ j, k ≤ j → j < N → c (rf G m 1) j ≠ t) := by
  intro n
  induction n with
  | zero => intro k _ h; omega
  | succ n ih =>
    intro k hk hf
    rw [K_X6_ownerIn_2, hN]
    by_cases c1 : nI N ≤ nI k
    · rw [if_pos c1]
      have := (nI_leI (by omega) (by omega)).mp c1
      exact ⟨fun _ j h1 h2 => by omega, fun _ => rfl⟩
    · rw [if_neg c1, cl_nI (by omega)]
      have hlt : k < N := Nat.not_le.mp fun q => c1 ((nI_leI (by omega) (by omega)).mpr q)
      by_cases c2 : c (rf G m 1) k = t
      · rw [if_pos c2]
        refine ⟨fun q => ?_, fun q => absurd c2 (q k (Nat.le_refl _) hlt)⟩
        have e := congrArg Int32.toInt q
        rw [nI_toInt (by omega), show (-1 : Int32).toInt = -1 from by decide] at e
        omega
      · rw [if_neg c2, nI_1, ih (k + 1) (by omega) (by omega)]
        refine ⟨fun q j h1 h2 => ?_, fun q j h1 h2 => q j (by omega) h2⟩
        by_cases e : j = k
        · rw [e]; exact c2
        · exact q j (by omega) h2
theorem own_u {t : Int32} {N : Nat} (hN : u (rf G a8 1) 739 = nI N) (h7 : N ≤ 7) : ∀ (n k : Nat) (z : Int32), k ≤ N → N - k < n → (K_X8_ownerOf_738_A_772_6 G w a8 n u 738 772 t z (nI k) = -1 ↔ z = -1 ∧ ∀ j, k ≤ j → j < N → u (rf G a8 1) (781 + j) ≠ t) := by
  intro n
  induction n with
  | zero => intro k _ _ h; omega
  | succ n ih =>
    intro k z hk hf
    rw [K_X8_ownerOf_738_A_772_6, show Int32.toNatClampNeg (738 + 1) = 739 from by decide, hN]
    by_cases c1 : nI N ≤ nI k
    · rw [if_pos c1]
      have := (nI_leI (by omega) (by omega)).mp c1
      exact ⟨fun q => ⟨q, fun j h1 h2 => by omega⟩, fun q => q.1⟩
    · rw [if_neg c1, ixk 781 k (by decide) (by decide) (by omega)]
      have hlt : k < N := Nat.not_le.mp fun q => c1 ((nI_leI (by omega) (by omega)).mpr q)
      unfold K_X8_ownerOf_738_A_772_40
      by_cases c2 : u (rf G a8 1) (781 + k) = t
      · rw [if_pos c2, nI_1, ih (k + 1) (nI k) (by omega) (by omega)]
        refine ⟨fun q => ?_, fun q => absurd c2 (q.2 k (Nat.le_refl _) hlt)⟩
        have e := congrArg Int32.toInt q.1
        rw [nI_toInt (by omega), show (-1 : Int32).toInt = -1 from by decide] at e
        omega
      · rw [if_neg c2, nI_1, ih (k + 1) z (by omega) (by omega)]
        refine ⟨fun q => ⟨q.1, fun j h1 h2 => ?_⟩, fun q => ⟨q.1, fun j h1 h2 => q.2 j (by omega) h2⟩⟩
        by_cases e : j = k
        · rw [e]; exact c2
        · exact q.2 j (by omega) h2
theorem owner_eq (hB : RB G (rf G a8 1) c u a 738) (hM : RM G (rf G a8 1) c u a 738) (t : Int32) : F_X6_ownerOf G w c a t = -1 ↔ F_X8_ownerOf_738_A_772 G w u a8 t = -1 := by
  obtain ⟨⟨b1, b2⟩, ⟨b3, b4⟩, -⟩ := hB
  obtain ⟨-, -, -, m5⟩ := hM
  have hN := nI_nn b4.1
  have h7 := nn_le (n := 7) b4
  have b2' : c a 3 = u (rf G a8 1) 739 := b2
  have h1 := own_c (G := G) (w := w) (a := a) (c := c) (m := rf G a 6) (t := t) hN.symm h7 8 0 (by omega) (by omega)
  have h2 := own_u (G := G) (w := w) (a8 := a8) (u := u) (t := t) (b2'.symm.trans hN.symm) h7 8 0 (-1) (by omega) (by omega)
  have e1 : F_X6_ownerOf G w c a t = K_X6_ownerIn_2 G w a (rf G a 6) 8 c t (nI 0) := rfl
  have e2 : F_X8_ownerOf_738_A_772 G w u a8 t = K_X8_ownerOf_738_A_772_6 G w a8 8 u 738 772 t (-1) (nI 0) := rfl
  rw [e1, e2, h1, h2]
  constructor
  · intro q
    refine ⟨rfl, fun j h3 h4 => ?_⟩
    have := (m5 j h4).1
    rw [show 738 + 43 + j = 781 + j from by omega] at this
    rw [← this]
    exact q j h3 h4
  · rintro ⟨-, q⟩ j h3 h4
    have := (m5 j h4).1
    rw [show 738 + 43 + j = 781 + j from by omega] at this
    rw [this]
    exact q j h3 h4
/-- what one owns, set -/
theorem own_set (C : Ch6 G a hi) (hB : RB G (rf G a8 1) c u a 738) (hM : RM G (rf G a8 1) c u a 738) {i : Nat} {t : Int32} (hi0 : i < nn (c a 3)) (ht : Bd t (-1) ((c a 0).toInt - 1)) : RB G (rf G a8 1) (stv c (rf G (rf G a 6) 1) i t) (stv u (rf G a8 1) (781 + i) t) a 738 ∧ RM G (rf G a8 1) (stv c (rf G (rf G a 6) 1) i t) (stv u (rf G a8 1) (781 + i) t) a 738 := by
  obtain ⟨⟨b1, b2⟩, ⟨b3, b4⟩, b5, b6, b7, b8⟩ := hB
  obtain ⟨⟨m1, m2⟩, m3, m4, m5⟩ := hM
  obtain ⟨k1, k2, k3, k4, k5, ⟨k6, k7⟩, -⟩ := C
  have h7 := nn_le (n := 7) b4
  have h0 := nn_le (n := 7) b3
  have fo : ∀ f, f ≠ rf G (rf G a 6) 1 → (stv c (rf G (rf G a 6) 1) i t) f = c f := fun f h => stv_row h
  have fw : ∀ j, j ≠ i → (stv c (rf G (rf G a 6) 1) i t) (rf G (rf G a 6) 1) j = c (rf G (rf G a 6) 1) j := fun j h => stv_k h
  have fwi : (stv c (rf G (rf G a 6) 1) i t) (rf G (rf G a 6) 1) i = t := stv_s
  have g : ∀ j, j ≠ 781 + i → (stv u (rf G a8 1) (781 + i) t) (rf G a8 1) j = u (rf G a8 1) j := fun j h => stv_k h
  have gi : (stv u (rf G a8 1) (781 + i) t) (rf G a8 1) (781 + i) = t := stv_s
  generalize stv c (rf G (rf G a 6) 1) i t = c' at *
  generalize stv u (rf G a8 1) (781 + i) t = u' at *
  have ra := fo a (by omega)
  have r1 := fo (rf G a 1) (by omega)
  have r2 := fo (rf G a 2) (by omega)
  have r4 := fo (rf G a 4) (by omega)
  have r5 := fo (rf G a 5) (by omega)
  have r6 := fo (rf G a 6) (by omega)
  have r60 := fo (rf G (rf G a 6) 0) (by omega)
  unfold RB RM
  rw [ra, r1, r2, r4, r5, r6, r60, g 738 (by omega), g (738 + 1) (by omega), g (738 + 34) (by omega), g (738 + 35) (by omega)]
  refine ⟨⟨⟨b1, b2⟩, ⟨b3, b4⟩, b5.congr (fun _ _ => rfl) (fun t ht => g _ (by omega)), b6.congr (fun _ _ => rfl) (fun t ht => g _ (by omega)), b7.congr (fun _ _ => rfl) (fun t ht => g _ (by omega)), b8.congr (fun _ _ => rfl) (fun t ht => g _ (by omega))⟩, ⟨⟨m1, m2⟩, m3, m4.congr (fun _ _ => rfl) (fun t ht => g _ (by omega)), m5.set (k := i) (fun t _ ht => fw t ht) (fun t _ ht => g _ (by omega)) fwi gi ht⟩⟩
theorem held_eq (hB : RB G (rf G a8 1) c u a 738) (hM : RM G (rf G a8 1) c u a 738) {i : Nat} (hi0 : i < nn (c a 3)) : F_X6_isHeldIn G w c a (rf G a 6) (nI i) = 0 ↔ F_X8_isHeld_738_A_772 G w u a8 (nI i) = 0 := by
  obtain ⟨⟨b1, b2⟩, ⟨b3, b4⟩, b5, b6, b7, b8⟩ := hB
  obtain ⟨⟨m1, m2⟩, m3, m4, m5⟩ := hM
  have h7 := nn_le (n := 7) b4
  have h0 := nn_le (n := 7) b3
  obtain ⟨o1, o2⟩ := m5 i hi0
  obtain ⟨g1, g2⟩ := m4 i hi0
  obtain ⟨k1, k2⟩ := b7 i hi0
  obtain ⟨s1, s2⟩ := b8 i hi0
  rw [show 738 + 43 + i = 781 + i from by omega] at o1
  rw [show 738 + 36 + i = 774 + i from by omega] at g1
  rw [show 738 + 20 + i = 758 + i from by omega] at k1
  rw [show 738 + 27 + i = 765 + i from by omega] at s1
  have m1' : c (rf G a 6) 3 = u (rf G a8 1) 772 := m1
  unfold F_X6_isHeldIn K_X6_isHeldIn_e F_X8_isHeld_738_A_772 K_X8_isHeld_738_A_772_e F_X8_weighsOf K_X8_weighsOf_e F_X8_liftsOf K_X8_liftsOf_e F_X6_hasThing K_X6_hasThing_e
  rw [cl_nI (by omega), ixk (A := 772 + 9) 781 i (by decide) (by decide) (by omega), ixk (A := 772 + 2) 774 i (by decide) (by decide) (by omega), ixk (A := 738 + 20) 758 i (by decide) (by decide) (by omega), ixk (A := 738 + 27) 765 i (by decide) (by decide) (by omega), show Int32.toNatClampNeg (772 + 0) = 772 from by decide, ← o1, ← g1, ← k1, ← s1, ← m1']
  generalize c (rf G (rf G a 6) 1) i = t at *
  have e1 : (-1 : Int32).toInt = -1 := by decide
  have e0 : (0 : Int32).toInt = 0 := by decide
  by_cases ht : t = -1
  · rw [if_pos (show t < 0 from by rw [ht]; decide), if_pos rfl, if_pos ht]
  · have ht0 : 0 ≤ t.toInt := by
      have := o2.1
      have : t.toInt ≠ -1 := fun q => ht (i_eq (by rw [q, e1]))
      omega
    have hnt : nn t < nn (c a 0) := by show t.toInt.toNat < (c a 0).toInt.toNat; have := o2.2; omega
    rw [if_neg (show ¬ t < 0 from fun q => by have := i_lt.mp q; omega), if_neg (show ¬ c a 0 ≤ t from fun q => by have := i_le.mp q; have := o2.2; omega), if_neg (show ¬ (1 : Int32) = 0 from by decide), if_neg ht]
    obtain ⟨w1, w2⟩ := b5 (nn t) hnt
    obtain ⟨v1, v2⟩ := b6 (nn t) hnt
    rw [show 738 + 6 + nn t = 744 + nn t from by omega] at w1
    rw [show 738 + 13 + nn t = 751 + nn t from by omega] at v1
    have hb : 0 ≤ t.toInt ∧ t.toInt ≤ 200 := ⟨ht0, by have := o2.2; have := b3.2; omega⟩
    rw [ixl 744 (by decide) (by decide) hb, ixl 751 (by decide) (by decide) hb]
    show (if F_X5_thingWeighs G w c (c (rf G a 1) (nn t)) (c (rf G a 2) (nn t)) (c (rf G a 6) 3) ≤ _ then (0 : Int32) else 1) = 0 ↔ (if F_X8_weighsBy G w u (u (rf G a8 1) (744 + nn t)) (u (rf G a8 1) (751 + nn t)) (c (rf G a 6) 3) ≤ _ then (0 : Int32) else 1) = 0
    rw [weq (G' := G) (w' := w) (v' := u) w2, leq (G' := G) (w' := w) (v' := u) k2 (s2.w 0 9 (by decide)) g2, w1, v1]
end DR3
