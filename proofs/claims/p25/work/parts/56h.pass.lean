section DR4
variable {G : Gm} {w : Mw} {a a8 hi : Nat} {c u : Mv}
/-- the draft: things, people, the moment -/
def DRl (G : Gm) (a a8 : Nat) (c u : Mv) : Prop := RB G (rf G a8 1) c u a 738 ∧ RM G (rf G a8 1) c u a 738
/-- only the moment's cells; only the reference's row -/
def Fm (G : Gm) (m : Nat) (c c' : Mv) : Prop := ∀ x, x ≠ m → x ≠ rf G m 0 → x ≠ rf G m 1 → c' x = c x
def Fa (A : Nat) (u u' : Mv) : Prop := (∀ x, x ≠ A → u' x = u x) ∧ ∀ j, (j < 738 ∨ (740 ≤ j ∧ j ≤ 742)) → u' A j = u A j
theorem Fm.rf {m : Nat} : Fm G m c c := fun _ _ _ _ => rfl
theorem Fa.rf {A : Nat} : Fa A u u := ⟨fun _ _ => rfl, fun _ _ => rfl⟩
theorem Fm.tr {m : Nat} {c1 c2 : Mv} (h : Fm G m c c1) (h2 : Fm G m c1 c2) : Fm G m c c2 := fun x q1 q2 q3 => (h2 x q1 q2 q3).trans (h x q1 q2 q3)
theorem Fa.tr {A : Nat} {u1 u2 : Mv} (h : Fa A u u1) (h2 : Fa A u1 u2) : Fa A u u2 := ⟨fun x q => (h2.1 x q).trans (h.1 x q), fun j q => (h2.2 j q).trans (h.2 j q)⟩
theorem Fa.st {A k : Nat} {x : Int32} {u1 : Mv} (h : Fa A u u1) (hk : 743 ≤ k ∨ k = 738 ∨ k = 739 := by omega) : Fa A u (stv u1 A k x) := ⟨fun y q => (stv_row q).trans (h.1 y q), fun j q => (stv_k (by omega)).trans (h.2 j q)⟩
theorem lose_ok (C : Ch6 G a hi) (h : DRl G a a8 c u) {i : Nat} (hi0 : i < nn (c a 3)) : DRl G a a8 (F_X2_lose G w c (rf G a 6) (nI i)) (stv (stv u (rf G a8 1) 773 (u (rf G a8 1) 773 ||| ((1 : Int32) <<< (nI i &&& 31)))) (rf G a8 1) (781 + i) (-1)) ∧ Fm G (rf G a 6) c (F_X2_lose G w c (rf G a 6) (nI i)) := by
  have h7 := nn_le (n := 7) h.1.2.1.2
  have h70 := nn_le (n := 7) h.1.2.1.1
  have eL : F_X2_lose G w c (rf G a 6) (nI i) = stv (stv c (rf G a 6) 2 (c (rf G a 6) 2 &&& (((1 : Int32) <<< (nI i &&& 31)) ^^^ (-1)))) (rf G (rf G a 6) 1) i (-1) := by
    unfold F_X2_lose K_X2_lose_e
    rw [cl_nI (by omega)]
  have C0 := C
  obtain ⟨k1, k2, k3, k4, k5, ⟨k6, k7⟩, -⟩ := C0
  rw [eL]
  refine ⟨?_, fun x q1 q2 q3 => by rw [stv_row q3, stv_row q1]⟩
  obtain ⟨⟨⟨b1, b2⟩, ⟨b3, b4⟩, b5, b6, b7, b8⟩, ⟨⟨m1, m2⟩, m3, m4, m5⟩⟩ := h
  have H2 : DRl G a a8 (stv c (rf G a 6) 2 (c (rf G a 6) 2 &&& (((1 : Int32) <<< (nI i &&& 31)) ^^^ (-1)))) (stv u (rf G a8 1) 773 (u (rf G a8 1) 773 ||| ((1 : Int32) <<< (nI i &&& 31)))) := by
    have fo : ∀ f, f ≠ rf G a 6 → (stv c (rf G a 6) 2 (c (rf G a 6) 2 &&& (((1 : Int32) <<< (nI i &&& 31)) ^^^ (-1)))) f = c f := fun f h => stv_row h
    have g : ∀ j, j ≠ 773 → (stv u (rf G a8 1) 773 (u (rf G a8 1) 773 ||| ((1 : Int32) <<< (nI i &&& 31)))) (rf G a8 1) j = u (rf G a8 1) j := fun j h => stv_k h
    unfold DRl RB RM
    rw [fo a (by omega), fo (rf G a 1) (by omega), fo (rf G a 2) (by omega), fo (rf G a 4) (by omega), fo (rf G a 5) (by omega), fo (rf G (rf G a 6) 0) (by omega), fo (rf G (rf G a 6) 1) (by omega), g 738 (by omega), g (738 + 1) (by omega), g (738 + 34) (by omega), stv_k (show (3 : Nat) ≠ 2 by decide), stv_s, stv_s]
    refine ⟨⟨⟨b1, b2⟩, ⟨b3, b4⟩, b5.congr (fun _ _ => rfl) (fun t ht => g _ (by omega)), b6.congr (fun _ _ => rfl) (fun t ht => g _ (by omega)), b7.congr (fun _ _ => rfl) (fun t ht => g _ (by omega)), b8.congr (fun _ _ => rfl) (fun t ht => g _ (by omega))⟩, ⟨⟨m1, m2⟩, ?_, m4.congr (fun _ _ => rfl) (fun t ht => g _ (by omega)), m5.congr (fun _ _ => rfl) (fun t ht => g _ (by omega))⟩⟩
    intro j hj
    obtain ⟨q1, q2⟩ := m3 j hj
    have q2 : nn (c a 3) ≤ j → bt (u (rf G a8 1) 773) j = false := q2
    have q1 : j < nn (c a 3) → bt (c (rf G a 6) 2) j = !bt (u (rf G a8 1) 773) j := q1
    rw [b_set i (by omega) _ (by omega), b_clr i (by omega) _ (by omega)]
    refine ⟨fun z => ?_, fun z => ?_⟩
    · by_cases e : j = i
      · rw [decide_eq_true e]; simp
      · rw [decide_eq_false e, q1 z]; simp
    · rw [decide_eq_false (show ¬ j = i by omega), q2 z]; rfl
  have e3 : (stv c (rf G a 6) 2 (c (rf G a 6) 2 &&& (((1 : Int32) <<< (nI i &&& 31)) ^^^ (-1)))) a = c a := stv_row (by omega)
  exact own_set C H2.1 H2.2 (by rw [e3]; exact hi0) (by rw [e3]; exact ⟨by decide, by have := b3.1; show (-1 : Int) ≤ _; omega⟩)
theorem grow_ok (C : Ch6 G a hi) (h : DRl G a a8 c u) {i : Nat} (hi0 : i < nn (c a 3)) (z : Int32) (hz : z = if (99 : Int32) ≤ u (rf G a8 1) (774 + i) then 0 else 1) : DRl G a a8 (F_X2_growOlder G w c (rf G a 6) (nI i)) (stv u (rf G a8 1) (774 + i) (u (rf G a8 1) (774 + i) + z)) ∧ Fm G (rf G a 6) c (F_X2_growOlder G w c (rf G a 6) (nI i)) := by
  have h7 := nn_le (n := 7) h.1.2.1.2
  have h70 := nn_le (n := 7) h.1.2.1.1
  obtain ⟨⟨⟨b1, b2⟩, ⟨b3, b4⟩, b5, b6, b7, b8⟩, ⟨⟨m1, m2⟩, m3, m4, m5⟩⟩ := h
  obtain ⟨g1, g2⟩ := m4 i hi0
  rw [show 738 + 36 + i = 774 + i from by omega] at g1
  have e99 : (99 : Int32).toInt = 99 := by decide
  have eA : u (rf G a8 1) (774 + i) + z = F_J9_min_7cf53 G w c 99 (c (rf G (rf G a 6) 0) i + 1) := by
    have e1 := i_add1 g2 (by decide) (by decide)
    rw [hz, ← g1, min_eq]
    by_cases q : (99 : Int32) ≤ c (rf G (rf G a 6) 0) i
    · rw [if_pos q, if_neg (fun z => by have := i_lt.mp z; have := i_le.mp q; omega), Int32.add_zero]
      exact i_eq (by have := i_le.mp q; have := g2.2; omega)
    · rw [if_neg q]
      have q' := i_lt.mp (nle q)
      by_cases q2 : c (rf G (rf G a 6) 0) i + 1 < 99
      · rw [if_pos q2]
      · rw [if_neg q2]
        exact i_eq (by have := i_le.mp (nlt q2); omega)
  have bA : Bd (u (rf G a8 1) (774 + i) + z) 0 99 := by
    rw [hz, ← g1]
    by_cases q : (99 : Int32) ≤ c (rf G (rf G a 6) 0) i
    · rw [if_pos q, Int32.add_zero]; exact g2
    · rw [if_neg q]
      have q' := i_lt.mp (nle q)
      have e1 := i_add1 g2 (by decide) (by decide)
      exact ⟨by rw [e1]; have := g2.1; omega, by rw [e1]; omega⟩
  have eL : F_X2_growOlder G w c (rf G a 6) (nI i) = stv c (rf G (rf G a 6) 0) i (u (rf G a8 1) (774 + i) + z) := by
    rw [eA]
    unfold F_X2_growOlder K_X2_growOlder_e
    rw [cl_nI (by omega)]
  obtain ⟨k1, k2, k3, k4, k5, ⟨k6, k7⟩, -⟩ := C
  rw [eL]
  refine ⟨?_, fun x q1 q2 q3 => stv_row q2⟩
  generalize u (rf G a8 1) (774 + i) + z = y at *
  have fo : ∀ f, f ≠ rf G (rf G a 6) 0 → (stv c (rf G (rf G a 6) 0) i y) f = c f := fun f h => stv_row h
  have g : ∀ j, j ≠ 774 + i → (stv u (rf G a8 1) (774 + i) y) (rf G a8 1) j = u (rf G a8 1) j := fun j h => stv_k h
  unfold DRl RB RM
  rw [fo a (by omega), fo (rf G a 1) (by omega), fo (rf G a 2) (by omega), fo (rf G a 4) (by omega), fo (rf G a 5) (by omega), fo (rf G a 6) (by omega), fo (rf G (rf G a 6) 1) (by omega), g 738 (by omega), g (738 + 1) (by omega), g (738 + 34) (by omega), g (738 + 35) (by omega)]
  exact ⟨⟨⟨b1, b2⟩, ⟨b3, b4⟩, b5.congr (fun _ _ => rfl) (fun t ht => g _ (by omega)), b6.congr (fun _ _ => rfl) (fun t ht => g _ (by omega)), b7.congr (fun _ _ => rfl) (fun t ht => g _ (by omega)), b8.congr (fun _ _ => rfl) (fun t ht => g _ (by omega))⟩, ⟨⟨m1, m2⟩, m3, m4.set (k := i) (fun t _ ht => stv_k ht) (fun t _ ht => g _ (by omega)) stv_s stv_s bA, m5.congr (fun _ _ => rfl) (fun t ht => g _ (by omega))⟩⟩
/-- the people of one YEAR, one by one -/
theorem ppl_ok (C : Ch6 G a hi) (rec3 : Mv → Int32 → Int32 → Int32 → Mv) (l x1 x2 x7 : Int32) (N : Nat) (h7 : N ≤ 7) : ∀ (n k : Nat) (c u : Mv), DRl G a a8 c u → c a 3 = nI N → k ≤ N → N - k < n → (∀ j, k ≤ j → j < 7 → bt l j = bt (u (rf G a8 1) 773) j) → ∃ c' u' : Mv, K_X6_passYears_20 G w a (rf G a 6) rec3 n c x1 x2 x7 (nI k) = rec3 (stv c' (rf G a 6) 3 (c' (rf G a 6) 3 + 1)) x1 x2 (x7 + 1) ∧ K_X8_passOn_738_A_772_10 G w a8 n u 738 772 l (nI k) = stv u' (rf G a8 1) 772 (u' (rf G a8 1) 772 + 1) ∧ DRl G a a8 c' u' ∧ Fm G (rf G a 6) c c' ∧ Fa (rf G a8 1) u u' ∧ c' (rf G a 6) 3 = c (rf G a 6) 3 := by
  intro n
  induction n with
  | zero => intro k c u _ _ _ h; omega
  | succ n ih =>
    intro k c u h hN hk hf hs
    have b2 : c a 3 = u (rf G a8 1) 739 := h.1.1.2
    have hnN : nn (c a 3) = N := by rw [hN]; exact nn_nI (by omega)
    obtain ⟨k1, k2, k3, k4, k5, ⟨k6, k7⟩, -⟩ := id C
    have hne : a ≠ rf G a 6 ∧ a ≠ rf G (rf G a 6) 0 ∧ a ≠ rf G (rf G a 6) 1 := ⟨by omega, by omega, by omega⟩
    rw [K_X6_passYears_20, K_X8_passOn_738_A_772_10, show Int32.toNatClampNeg (738 + 1) = 739 from by decide, ← b2, hN]
    by_cases c1 : nI N ≤ nI k
    · rw [if_pos c1, if_pos c1, show Int32.toNatClampNeg (772 + 0) = 772 from by decide]
      exact ⟨c, u, rfl, rfl, h, Fm.rf, Fa.rf, rfl⟩
    · have hlt : k < N := Nat.not_le.mp fun q => c1 ((nI_leI (by omega) (by omega)).mpr q)
      rw [if_neg c1, if_neg c1, isHere_eq k (by omega), has_eq k (by omega)]
      have hb := (h.2.2.1 k (by omega)).1 (by rw [hnN]; exact hlt)
      have hb : bt (c (rf G a 6) 2) k = !bt (u (rf G a8 1) 773) k := hb
      have hl := hs k (Nat.le_refl _) (by omega)
      unfold K_X6_passYears_66 K_X6_passYears_c1 K_X6_passYears_66 K_X8_passOn_738_A_772_99 K_X8_passOn_738_A_772_72 K_X8_passOn_738_A_772_99
      by_cases c2 : bt (u (rf G a8 1) 773) k = true
      · -- lost already
        rw [hb, hl, c2, if_neg (show ¬ (!true) = true by decide), if_pos rfl, if_pos rfl, if_neg (show ¬ (1 : Int32) = 0 by decide), nI_1]
        exact ih (k + 1) c u h hN (by omega) (by omega) (fun j h1 h2 => hs j (by omega) h2)
      · have c2f : bt (u (rf G a8 1) 773) k = false := by simpa using c2
        rw [hb, hl, c2f, if_pos (show (!false) = true by decide), if_neg (show ¬ (1 : Int32) = 0 by decide), if_neg (show ¬ false = true by decide), if_pos rfl]
        by_cases c3 : F_X6_isHeldIn G w c a (rf G a 6) (nI k) = 0
        · -- lost now
          rw [if_pos c3, if_pos ((held_eq h.1 h.2 (by rw [hnN]; exact hlt)).mp c3)]
          obtain ⟨h2, f2⟩ := lose_ok (w := w) C h (i := k) (by rw [hnN]; exact hlt)
          rw [show Int32.toNatClampNeg (772 + 1) = 773 from by decide, ixk (A := 772 + 9) 781 k (by decide) (by decide) (by omega), nI_1]
          have ea := f2 a hne.1 hne.2.1 hne.2.2
          obtain ⟨c', u', r1, r2, r3, r4, r5, r6⟩ := ih (k + 1) _ _ h2 (by rw [ea]; exact hN) (by omega) (by omega) (fun j h1 h3 => by
            rw [stv_k (show (773 : Nat) ≠ 781 + k by omega), stv_s, b_set k (by omega) _ (by omega), decide_eq_false (show ¬ j = k by omega), Bool.or_false]
            exact hs j (by omega) h3)
          refine ⟨c', u', r1, r2, r3, f2.tr r4, (Fa.rf.st.st).tr r5, r6.trans ?_⟩
          unfold F_X2_lose K_X2_lose_e
          rw [stv_a (by omega), stv_k (by decide)]
        · -- a year older
          rw [if_neg c3, if_neg (fun q => c3 ((held_eq h.1 h.2 (by rw [hnN]; exact hlt)).mpr q)), ixk (A := 772 + 2) 774 k (by decide) (by decide) (by omega), nI_1]
          have key : ∀ z : Int32, (z = if (99 : Int32) ≤ u (rf G a8 1) (774 + k) then 0 else 1) → ∃ c' u' : Mv, K_X6_passYears_20 G w a (rf G a 6) rec3 n (F_X2_growOlder G w c (rf G a 6) (nI k)) x1 x2 x7 (nI (k + 1)) = rec3 (stv c' (rf G a 6) 3 (c' (rf G a 6) 3 + 1)) x1 x2 (x7 + 1) ∧ K_X8_passOn_738_A_772_10 G w a8 n (stv u (rf G a8 1) (774 + k) (u (rf G a8 1) (774 + k) + z)) 738 772 l (nI (k + 1)) = stv u' (rf G a8 1) 772 (u' (rf G a8 1) 772 + 1) ∧ DRl G a a8 c' u' ∧ Fm G (rf G a 6) c c' ∧ Fa (rf G a8 1) u u' ∧ c' (rf G a 6) 3 = c (rf G a 6) 3 := by
            intro z hz
            obtain ⟨h2, f2⟩ := grow_ok (w := w) C h (i := k) (by rw [hnN]; exact hlt) z hz
            have ea := f2 a hne.1 hne.2.1 hne.2.2
            obtain ⟨c', u', r1, r2, r3, r4, r5, r6⟩ := ih (k + 1) _ _ h2 (by rw [ea]; exact hN) (by omega) (by omega) (fun j h1 h3 => by
              rw [stv_k (show (773 : Nat) ≠ 774 + k by omega)]
              exact hs j (by omega) h3)
            refine ⟨c', u', r1, r2, r3, f2.tr r4, (Fa.rf.st).tr r5, r6.trans ?_⟩
            unfold F_X2_growOlder K_X2_growOlder_e
            rw [stv_a (by omega)]
          by_cases c4 : (99 : Int32) ≤ u (rf G a8 1) (774 + k)
          · rw [if_pos c4]
            exact key 0 (by rw [if_pos c4])
          · rw [if_neg c4]
            exact key 1 (by rw [if_neg c4])
end DR4
