/-! WHAT THE WRITERS DO TO THE WORLDS -/
section EFF
variable {G : Gm} {w w' : Mw} {a a7 a8 ha h4 : Nat} {c u c1 u1 : Mv} {x y z r1 r2 : Int32}
theorem bd0 {lo hi : Int} (h1 : lo ≤ 0) (h2 : 0 ≤ hi) : Bd 0 lo hi := by
  have h0 : (0 : Int32).toInt = 0 := by decide
  exact ⟨by rw [h0]; exact h1, by rw [h0]; exact h2⟩
theorem b9_w {n n' : Int} (h : n ≤ n') (m : Nat) : (b9 n' m).1 ≤ (b9 n m).1 ∧ (b9 n m).2 ≤ (b9 n' m).2 := by
  unfold b9
  by_cases e : m = 0
  · rw [if_pos e, if_pos e]; exact ⟨Int.le_refl _, by show n - 1 ≤ n' - 1; omega⟩
  · rw [if_neg e, if_neg e]; exact ⟨Int.le_refl _, Int.le_refl _⟩
theorem b10_w {n n' : Int} (h : n ≤ n') (m : Nat) : (b10 n' m).1 ≤ (b10 n m).1 ∧ (b10 n m).2 ≤ (b10 n' m).2 := by
  unfold b10
  by_cases e : m = 0
  · rw [if_pos e, if_pos e]; exact ⟨Int.le_refl _, by show n - 1 ≤ n' - 1; omega⟩
  · rw [if_neg e, if_neg e]; exact ⟨Int.le_refl _, Int.le_refl _⟩
theorem b11_w {n n' : Int} (h : n ≤ n') (m : Nat) : (b11 n' m).1 ≤ (b11 n m).1 ∧ (b11 n m).2 ≤ (b11 n' m).2 := by
  unfold b11
  by_cases e : m = 0
  · rw [if_pos e, if_pos e]; exact ⟨Int.le_refl _, by show n - 1 ≤ n' - 1; omega⟩
  · rw [if_neg e, if_neg e]; exact ⟨Int.le_refl _, Int.le_refl _⟩
theorem g26 : ∀ (n k : Nat) (v : Mv), k ≤ 7 → 7 - k < n → (∀ b, b ≠ rf G a8 1 → K_X8_begin_0_26 G w a8 n v 0 (nI k) b = v b) ∧ ∀ j, K_X8_begin_0_26 G w a8 n v 0 (nI k) (rf G a8 1) j = if 43 + k ≤ j ∧ j < 50 then -1 else v (rf G a8 1) j := by
  intro n
  induction n with
  | zero => intro k v _ h; omega
  | succ n ih =>
    intro k v hk hf
    rw [K_X8_begin_0_26]
    by_cases c : (7 : Int32) ≤ nI k
    · have := (le_nI 7 (by decide) (by omega)).mp c
      rw [if_pos c]
      exact ⟨fun _ _ => rfl, fun j => (if_neg (by omega)).symm⟩
    · have hlt : k < 7 := Nat.not_le.mp fun z => c ((le_nI 7 (by decide) (by omega)).mpr z)
      rw [if_neg c, nI_1, ixw (A := 0 + 34 + 9) 43 k (by decide) (by omega) (by omega)]
      obtain ⟨r1, r2⟩ := ih (k + 1) (stv v (rf G a8 1) (43 + k) (-1)) (by omega) (by omega)
      refine ⟨fun b hb => (r1 b hb).trans (stv_row hb), fun j => ?_⟩
      rw [r2 j]
      by_cases e : j = 43 + k
      · subst e
        rw [if_neg (by omega), stv_s, if_pos (by omega)]
      · by_cases e2 : 43 + k ≤ j ∧ j < 50
        · rw [if_pos (by omega), if_pos e2]
        · rw [if_neg (by omega), if_neg e2, stv_k e]
theorem g2 : ∀ (n k : Nat) (v : Mv), k ≤ 246 → 246 - k < n → (∀ b, b ≠ rf G a8 1 → K_X8_begin_0_2 G w a8 n v 0 (nI k) b = v b) ∧ ∀ j, K_X8_begin_0_2 G w a8 n v 0 (nI k) (rf G a8 1) j = if 43 ≤ j ∧ j < 50 then -1 else if 0 + k ≤ j ∧ j < 246 then 0 else v (rf G a8 1) j := by
  intro n
  induction n with
  | zero => intro k v _ h; omega
  | succ n ih =>
    intro k v hk hf
    rw [K_X8_begin_0_2]
    by_cases c : (246 : Int32) ≤ nI k
    · have := (le_nI 246 (by decide) (by omega)).mp c
      rw [if_pos c]
      obtain ⟨r1, r2⟩ := g26 (G := G) (w := w) (a8 := a8) 8 0 v (by omega) (by omega)
      refine ⟨r1, fun j => (r2 j).trans ?_⟩
      by_cases e : 43 ≤ j ∧ j < 50
      · rw [if_pos e, if_pos e]
      · rw [if_neg e, if_neg e, if_neg (by omega)]
    · have hlt : k < 246 := Nat.not_le.mp fun z => c ((le_nI 246 (by decide) (by omega)).mpr z)
      rw [if_neg c, nI_1, ixw (A := 0) 0 k (by decide) (by omega) (by omega)]
      obtain ⟨r1, r2⟩ := ih (k + 1) (stv v (rf G a8 1) (0 + k) 0) (by omega) (by omega)
      refine ⟨fun b hb => (r1 b hb).trans (stv_row hb), fun j => ?_⟩
      rw [r2 j]
      by_cases e0 : 43 ≤ j ∧ j < 50
      · rw [if_pos e0, if_pos e0]
      · rw [if_neg e0, if_neg e0]
        by_cases e : j = 0 + k
        · subst e
          rw [if_neg (by omega), stv_s, if_pos (by omega)]
        · by_cases e2 : 0 + k ≤ j ∧ j < 246
          · rw [if_pos (by omega), if_pos e2]
          · rw [if_neg (by omega), if_neg e2, stv_k e]
theorem bg0_ok {v : Mv} : (∀ b, b ≠ rf G a8 1 → F_X8_begin_0 G w v a8 b = v b) ∧ (∀ j, 246 ≤ j → F_X8_begin_0 G w v a8 (rf G a8 1) j = v (rf G a8 1) j) ∧ ∀ j, j < 43 → F_X8_begin_0 G w v a8 (rf G a8 1) j = 0 := by
  obtain ⟨r1, r2⟩ := g2 (G := G) (w := w) (a8 := a8) 247 0 v (by omega) (by omega)
  refine ⟨r1, fun j hj => ?_, fun j h1 => ?_⟩
  · have := r2 j
    rw [if_neg (by omega), if_neg (by omega)] at this
    exact this
  · have := r2 j
    rw [if_neg (by omega), if_pos (by omega)] at this
    exact this
theorem RW.zero {A o : Nat} (h0 : c a 0 = 0 ∧ c a 3 = 0) (h9 : c (rf G a 9) 2 = 0) (h10 : c (rf G a 10) 2 = 0) (h11 : c (rf G a 11) 2 = 0) (hu : ∀ k, k < 5 → u A (o + k) = 0) : RW G A c u a o := by
  have n0 : nn (c a 0) = 0 := by rw [h0.1]; rfl
  have n3 : nn (c a 3) = 0 := by rw [h0.2]; rfl
  exact ⟨⟨⟨h0.1.trans (hu 0 (by omega)).symm, h0.2.trans (hu 1 (by omega)).symm⟩, ⟨by rw [h0.1]; exact bd0 (by omega) (by omega), by rw [h0.2]; exact bd0 (by omega) (by omega)⟩, fun t ht => by rw [n0] at ht; omega, fun t ht => by rw [n0] at ht; omega, fun t ht => by rw [n3] at ht; omega, fun t ht => by rw [n3] at ht; omega⟩, RR.zero h9 (hu 2 (by omega)), RR.zero h10 (hu 3 (by omega)), RR.zero h11 (hu 4 (by omega))⟩
/-- a thing more -/
theorem addT (C : Ch6 G a ha) (hR : RW G (rf G a8 1) c u a 0) (hn : Bd (c a 0) 0 6) (hx : Bd x 0 5) (hy : Bd y 1 30) : (F_X6_addThing G w c a x y).1 = (F_X8_add_0 G w' u a8 x y).1 ∧ RW G (rf G a8 1) (F_X6_addThing G w c a x y).2 (F_X8_add_0 G w' u a8 x y).2 a 0 ∧ (∀ f, (f < a ∨ ha ≤ f) → (F_X6_addThing G w c a x y).2 f = c f) ∧ (∀ j, 246 ≤ j → (F_X8_add_0 G w' u a8 x y).2 (rf G a8 1) j = u (rf G a8 1) j) ∧ ∀ b, b ≠ rf G a8 1 → (F_X8_add_0 G w' u a8 x y).2 b = u b := by
  obtain ⟨⟨⟨b1, b2⟩, ⟨b3, b4⟩, b5, b6, b7, b8⟩, p9, p10, p11⟩ := hR
  obtain ⟨k1, k2, k3, k4, k5, ⟨k6, k7⟩, k8, k9, k10, k11, k12, k13, k14, k15, -⟩ := C
  unfold Ch4 at k10 k12 k14
  have eU : F_X8_add_0 G w' u a8 x y = (c a 0, stv (stv (stv (stv u (rf G a8 1) (6 + nn (c a 0)) x) (rf G a8 1) (13 + nn (c a 0)) y) (rf G a8 1) 0 (c a 0 + 1)) (rf G a8 1) 5 0) := by
    rw [b1] at hn ⊢
    have h : 0 ≤ (u (rf G a8 1) 0).toInt ∧ (u (rf G a8 1) 0).toInt ≤ 200 := ⟨hn.1, by have := hn.2; omega⟩
    unfold F_X8_add_0 K_X8_add_0_e
    rw [ixl 6 (by decide) (by decide) h, ixl 13 (by decide) (by decide) h, show Int32.toNatClampNeg (0 + 0) = 0 from by decide, show Int32.toNatClampNeg (0 + 5) = 5 from by decide]
  have eC : F_X6_addThing G w c a x y = (c a 0, stv (stv (stv (stv c (rf G a 1) (nn (c a 0)) x) (rf G a 2) (nn (c a 0)) y) a 0 (c a 0 + 1)) a 8 0) := rfl
  rw [eU, eC]
  obtain ⟨n1, n2⟩ := nn1 hn
  have hN : nn (c a 0) ≤ 6 := nn_le hn
  have hO : nn (c a 3) ≤ 7 := nn_le b4
  have ec : (c a 0 + 1).toInt = (c a 0).toInt + 1 := i_add1 hn (by decide) (by decide)
  generalize hN0 : nn (c a 0) = N at *
  have e0 : (stv (stv (stv (stv c (rf G a 1) N x) (rf G a 2) N y) a 0 (c a 0 + 1)) a 8 0) a 0 = c a 0 + 1 := by rw [stv_k (by decide), stv_s]
  have e3 : (stv (stv (stv (stv c (rf G a 1) N x) (rf G a 2) N y) a 0 (c a 0 + 1)) a 8 0) a 3 = c a 3 := by rw [stv_k (by decide), stv_k (by decide), stv_a (by omega), stv_a (by omega)]
  have f1 : ∀ t, t ≠ N → (stv (stv (stv (stv c (rf G a 1) N x) (rf G a 2) N y) a 0 (c a 0 + 1)) a 8 0) (rf G a 1) t = c (rf G a 1) t := fun t ht => by rw [stv_a (by omega), stv_a (by omega), stv_a (by omega), stv_k ht]
  have f1n : (stv (stv (stv (stv c (rf G a 1) N x) (rf G a 2) N y) a 0 (c a 0 + 1)) a 8 0) (rf G a 1) N = x := by rw [stv_a (by omega), stv_a (by omega), stv_a (by omega), stv_s]
  have f2 : ∀ t, t ≠ N → (stv (stv (stv (stv c (rf G a 1) N x) (rf G a 2) N y) a 0 (c a 0 + 1)) a 8 0) (rf G a 2) t = c (rf G a 2) t := fun t ht => by rw [stv_a (by omega), stv_a (by omega), stv_k ht, stv_a (by omega)]
  have f2n : (stv (stv (stv (stv c (rf G a 1) N x) (rf G a 2) N y) a 0 (c a 0 + 1)) a 8 0) (rf G a 2) N = y := by rw [stv_a (by omega), stv_a (by omega), stv_s]
  have fo : ∀ f, f ≠ rf G a 1 → f ≠ rf G a 2 → f ≠ a → (stv (stv (stv (stv c (rf G a 1) N x) (rf G a 2) N y) a 0 (c a 0 + 1)) a 8 0) f = c f := fun f h1 h2 h3 => by rw [stv_row h3, stv_row h3, stv_row h2, stv_row h1]
  have g : ∀ j, j ≠ 6 + N → j ≠ 13 + N → j ≠ 0 → j ≠ 5 → (stv (stv (stv (stv u (rf G a8 1) (6 + N) x) (rf G a8 1) (13 + N) y) (rf G a8 1) 0 (c a 0 + 1)) (rf G a8 1) 5 0) (rf G a8 1) j = u (rf G a8 1) j := fun j h1 h2 h3 h4 => by rw [stv_k h4, stv_k h3, stv_k h2, stv_k h1]
  have g0 : (stv (stv (stv (stv u (rf G a8 1) (6 + N) x) (rf G a8 1) (13 + N) y) (rf G a8 1) 0 (c a 0 + 1)) (rf G a8 1) 5 0) (rf G a8 1) 0 = c a 0 + 1 := by rw [stv_k (by decide), stv_s]
  have gx : (stv (stv (stv (stv u (rf G a8 1) (6 + N) x) (rf G a8 1) (13 + N) y) (rf G a8 1) 0 (c a 0 + 1)) (rf G a8 1) 5 0) (rf G a8 1) (6 + N) = x := by rw [stv_k (by omega), stv_k (by omega), stv_k (by omega), stv_s]
  have gy : (stv (stv (stv (stv u (rf G a8 1) (6 + N) x) (rf G a8 1) (13 + N) y) (rf G a8 1) 0 (c a 0 + 1)) (rf G a8 1) 5 0) (rf G a8 1) (13 + N) = y := by rw [stv_k (by omega), stv_k (by omega), stv_s]
  have gr : ∀ b, b ≠ rf G a8 1 → (stv (stv (stv (stv u (rf G a8 1) (6 + N) x) (rf G a8 1) (13 + N) y) (rf G a8 1) 0 (c a 0 + 1)) (rf G a8 1) 5 0) b = u b := fun b hb => by rw [stv_row hb, stv_row hb, stv_row hb, stv_row hb]
  show c a 0 = c a 0 ∧ RW G (rf G a8 1) (stv (stv (stv (stv c (rf G a 1) N x) (rf G a 2) N y) a 0 (c a 0 + 1)) a 8 0) (stv (stv (stv (stv u (rf G a8 1) (6 + N) x) (rf G a8 1) (13 + N) y) (rf G a8 1) 0 (c a 0 + 1)) (rf G a8 1) 5 0) a 0 ∧ (∀ f, (f < a ∨ ha ≤ f) → (stv (stv (stv (stv c (rf G a 1) N x) (rf G a 2) N y) a 0 (c a 0 + 1)) a 8 0) f = c f) ∧ (∀ j, 246 ≤ j → (stv (stv (stv (stv u (rf G a8 1) (6 + N) x) (rf G a8 1) (13 + N) y) (rf G a8 1) 0 (c a 0 + 1)) (rf G a8 1) 5 0) (rf G a8 1) j = u (rf G a8 1) j) ∧ ∀ b, b ≠ rf G a8 1 → (stv (stv (stv (stv u (rf G a8 1) (6 + N) x) (rf G a8 1) (13 + N) y) (rf G a8 1) 0 (c a 0 + 1)) (rf G a8 1) 5 0) b = u b
  generalize (stv (stv (stv (stv c (rf G a 1) N x) (rf G a 2) N y) a 0 (c a 0 + 1)) a 8 0) = c' at *
  generalize (stv (stv (stv (stv u (rf G a8 1) (6 + N) x) (rf G a8 1) (13 + N) y) (rf G a8 1) 0 (c a 0 + 1)) (rf G a8 1) 5 0) = u' at *
  have r4 := fo (rf G a 4) (by omega) (by omega) (by omega)
  have r5 := fo (rf G a 5) (by omega) (by omega) (by omega)
  have r9 := fo (rf G a 9) (by omega) (by omega) (by omega)
  have r91 := fo (rf G (rf G a 9) 1) (by omega) (by omega) (by omega)
  have r10 := fo (rf G a 10) (by omega) (by omega) (by omega)
  have r101 := fo (rf G (rf G a 10) 1) (by omega) (by omega) (by omega)
  have r11 := fo (rf G a 11) (by omega) (by omega) (by omega)
  have r111 := fo (rf G (rf G a 11) 1) (by omega) (by omega) (by omega)
  refine ⟨rfl, ?_, fun f hf => fo f (by omega) (by omega) (by omega), fun j hj => g j (by omega) (by omega) (by omega) (by omega), gr⟩
  unfold RW RB
  rw [e0, e3, n1, r4, r5]
  refine ⟨⟨⟨g0.symm, b2.trans (g (0 + 1) (by omega) (by omega) (by omega) (by omega)).symm⟩, ⟨n2, b4⟩, ?_, ?_, ?_, ?_⟩, ?_, ?_, ?_⟩
  · exact b5.push (fun t ht => f1 t (by omega)) (fun t ht => g _ (by omega) (by omega) (by omega) (by omega)) f1n gx hx
  · exact b6.push (fun t ht => f2 t (by omega)) (fun t ht => g _ (by omega) (by omega) (by omega) (by omega)) f2n gy hy
  · exact b7.congr (fun t ht => rfl) (fun t ht => g _ (by omega) (by omega) (by omega) (by omega))
  · exact b8.congr (fun t ht => rfl) (fun t ht => g _ (by omega) (by omega) (by omega) (by omega))
  · exact p9.tr (by rw [r9]) (fun t _ => by rw [r91]) (g _ (by omega) (by omega) (by omega) (by omega)) (fun t ht => g _ (by omega) (by omega) (by omega) (by omega))
  · refine (p10.tr (by rw [r10]) (fun t _ => by rw [r101]) (g _ (by omega) (by omega) (by omega) (by omega)) (fun t ht => g _ (by omega) (by omega) (by omega) (by omega))).wk (fun m hm => b10_w (by rw [ec]; omega) m)
  · exact p11.tr (by rw [r11]) (fun t _ => by rw [r111]) (g _ (by omega) (by omega) (by omega) (by omega)) (fun t ht => g _ (by omega) (by omega) (by omega) (by omega))
/-- one more -/
theorem addO (C : Ch6 G a ha) (hR : RW G (rf G a8 1) c u a 0) (hn : Bd (c a 3) 0 6) (hx : Bd x 0 5) (hy : Bd y 1 9) : (F_X6_addOne G w c a x y z).1 = (F_X8_join_0 G w' u a8 x y z).1 ∧ RW G (rf G a8 1) (F_X6_addOne G w c a x y z).2 (F_X8_join_0 G w' u a8 x y z).2 a 0 ∧ (∀ f, (f < a ∨ ha ≤ f) → (F_X6_addOne G w c a x y z).2 f = c f) ∧ (∀ j, 246 ≤ j → (F_X8_join_0 G w' u a8 x y z).2 (rf G a8 1) j = u (rf G a8 1) j) ∧ ∀ b, b ≠ rf G a8 1 → (F_X8_join_0 G w' u a8 x y z).2 b = u b := by
  obtain ⟨⟨⟨b1, b2⟩, ⟨b3, b4⟩, b5, b6, b7, b8⟩, p9, p10, p11⟩ := hR
  have b2 : c a 3 = u (rf G a8 1) 1 := b2
  obtain ⟨k1, k2, k3, k4, k5, ⟨k6, k7⟩, k8, k9, k10, k11, k12, k13, k14, k15, -⟩ := C
  unfold Ch4 at k10 k12 k14
  have eU : F_X8_join_0 G w' u a8 x y z = (c a 3, stv (stv (stv (stv (stv (stv u (rf G a8 1) (20 + nn (c a 3)) x) (rf G a8 1) (27 + nn (c a 3)) y) (rf G a8 1) (36 + nn (c a 3)) z) (rf G a8 1) (43 + nn (c a 3)) (-1)) (rf G a8 1) 1 (c a 3 + 1)) (rf G a8 1) 5 0) := by
    rw [b2] at hn ⊢
    have h : 0 ≤ (u (rf G a8 1) 1).toInt ∧ (u (rf G a8 1) 1).toInt ≤ 200 := ⟨hn.1, by have := hn.2; omega⟩
    unfold F_X8_join_0 K_X8_join_0_e
    rw [ixl 20 (by decide) (by decide) h, ixl 27 (by decide) (by decide) h, ixl 36 (by decide) (by decide) h, ixl 43 (by decide) (by decide) h, show Int32.toNatClampNeg (0 + 1) = 1 from by decide, show Int32.toNatClampNeg (0 + 5) = 5 from by decide]
  obtain ⟨H, eC⟩ : ∃ H, F_X6_addOne G w c a x y z = (c a 3, stv (stv (stv (stv (stv (stv (stv c (rf G a 4) (nn (c a 3)) x) (rf G a 5) (nn (c a 3)) y) (rf G (rf G a 6) 0) (nn (c a 3)) z) (rf G (rf G a 6) 1) (nn (c a 3)) (-1)) (rf G a 6) 2 H) a 3 (c a 3 + 1)) a 8 0) := ⟨_, rfl⟩
  rw [eU, eC]
  obtain ⟨n1, n2⟩ := nn1 hn
  have hN : nn (c a 3) ≤ 6 := nn_le hn
  have hT : nn (c a 0) ≤ 7 := nn_le b3
  have ec : (c a 3 + 1).toInt = (c a 3).toInt + 1 := i_add1 hn (by decide) (by decide)
  generalize hN0 : nn (c a 3) = N at *
  have e0 : (stv (stv (stv (stv (stv (stv (stv c (rf G a 4) N x) (rf G a 5) N y) (rf G (rf G a 6) 0) N z) (rf G (rf G a 6) 1) N (-1)) (rf G a 6) 2 H) a 3 (c a 3 + 1)) a 8 0) a 0 = c a 0 := by rw [stv_k (by decide), stv_k (by decide), stv_a (by omega), stv_a (by omega), stv_a (by omega), stv_a (by omega), stv_a (by omega)]
  have e3 : (stv (stv (stv (stv (stv (stv (stv c (rf G a 4) N x) (rf G a 5) N y) (rf G (rf G a 6) 0) N z) (rf G (rf G a 6) 1) N (-1)) (rf G a 6) 2 H) a 3 (c a 3 + 1)) a 8 0) a 3 = c a 3 + 1 := by rw [stv_k (by decide), stv_s]
  have f4 : ∀ t, t ≠ N → (stv (stv (stv (stv (stv (stv (stv c (rf G a 4) N x) (rf G a 5) N y) (rf G (rf G a 6) 0) N z) (rf G (rf G a 6) 1) N (-1)) (rf G a 6) 2 H) a 3 (c a 3 + 1)) a 8 0) (rf G a 4) t = c (rf G a 4) t := fun t ht => by rw [stv_a (by omega), stv_a (by omega), stv_a (by omega), stv_a (by omega), stv_a (by omega), stv_a (by omega), stv_k ht]
  have f4n : (stv (stv (stv (stv (stv (stv (stv c (rf G a 4) N x) (rf G a 5) N y) (rf G (rf G a 6) 0) N z) (rf G (rf G a 6) 1) N (-1)) (rf G a 6) 2 H) a 3 (c a 3 + 1)) a 8 0) (rf G a 4) N = x := by rw [stv_a (by omega), stv_a (by omega), stv_a (by omega), stv_a (by omega), stv_a (by omega), stv_a (by omega), stv_s]
  have f5 : ∀ t, t ≠ N → (stv (stv (stv (stv (stv (stv (stv c (rf G a 4) N x) (rf G a 5) N y) (rf G (rf G a 6) 0) N z) (rf G (rf G a 6) 1) N (-1)) (rf G a 6) 2 H) a 3 (c a 3 + 1)) a 8 0) (rf G a 5) t = c (rf G a 5) t := fun t ht => by rw [stv_a (by omega), stv_a (by omega), stv_a (by omega), stv_a (by omega), stv_a (by omega), stv_k ht, stv_a (by omega)]
  have f5n : (stv (stv (stv (stv (stv (stv (stv c (rf G a 4) N x) (rf G a 5) N y) (rf G (rf G a 6) 0) N z) (rf G (rf G a 6) 1) N (-1)) (rf G a 6) 2 H) a 3 (c a 3 + 1)) a 8 0) (rf G a 5) N = y := by rw [stv_a (by omega), stv_a (by omega), stv_a (by omega), stv_a (by omega), stv_a (by omega), stv_s]
  have fo : ∀ f, f ≠ rf G a 4 → f ≠ rf G a 5 → f ≠ rf G (rf G a 6) 0 → f ≠ rf G (rf G a 6) 1 → f ≠ rf G a 6 → f ≠ a → (stv (stv (stv (stv (stv (stv (stv c (rf G a 4) N x) (rf G a 5) N y) (rf G (rf G a 6) 0) N z) (rf G (rf G a 6) 1) N (-1)) (rf G a 6) 2 H) a 3 (c a 3 + 1)) a 8 0) f = c f := fun f h1 h2 h3 h4 h5 h6 => by rw [stv_row h6, stv_row h6, stv_row h5, stv_row h4, stv_row h3, stv_row h2, stv_row h1]
  have g : ∀ j, j ≠ 20 + N → j ≠ 27 + N → j ≠ 36 + N → j ≠ 43 + N → j ≠ 1 → j ≠ 5 → (stv (stv (stv (stv (stv (stv u (rf G a8 1) (20 + N) x) (rf G a8 1) (27 + N) y) (rf G a8 1) (36 + N) z) (rf G a8 1) (43 + N) (-1)) (rf G a8 1) 1 (c a 3 + 1)) (rf G a8 1) 5 0) (rf G a8 1) j = u (rf G a8 1) j := fun j h1 h2 h3 h4 h5 h6 => by rw [stv_k h6, stv_k h5, stv_k h4, stv_k h3, stv_k h2, stv_k h1]
  have g1 : (stv (stv (stv (stv (stv (stv u (rf G a8 1) (20 + N) x) (rf G a8 1) (27 + N) y) (rf G a8 1) (36 + N) z) (rf G a8 1) (43 + N) (-1)) (rf G a8 1) 1 (c a 3 + 1)) (rf G a8 1) 5 0) (rf G a8 1) 1 = c a 3 + 1 := by rw [stv_k (by decide), stv_s]
  have gx : (stv (stv (stv (stv (stv (stv u (rf G a8 1) (20 + N) x) (rf G a8 1) (27 + N) y) (rf G a8 1) (36 + N) z) (rf G a8 1) (43 + N) (-1)) (rf G a8 1) 1 (c a 3 + 1)) (rf G a8 1) 5 0) (rf G a8 1) (20 + N) = x := by rw [stv_k (by omega), stv_k (by omega), stv_k (by omega), stv_k (by omega), stv_k (by omega), stv_s]
  have gy : (stv (stv (stv (stv (stv (stv u (rf G a8 1) (20 + N) x) (rf G a8 1) (27 + N) y) (rf G a8 1) (36 + N) z) (rf G a8 1) (43 + N) (-1)) (rf G a8 1) 1 (c a 3 + 1)) (rf G a8 1) 5 0) (rf G a8 1) (27 + N) = y := by rw [stv_k (by omega), stv_k (by omega), stv_k (by omega), stv_k (by omega), stv_s]
  have gr : ∀ b, b ≠ rf G a8 1 → (stv (stv (stv (stv (stv (stv u (rf G a8 1) (20 + N) x) (rf G a8 1) (27 + N) y) (rf G a8 1) (36 + N) z) (rf G a8 1) (43 + N) (-1)) (rf G a8 1) 1 (c a 3 + 1)) (rf G a8 1) 5 0) b = u b := fun b hb => by rw [stv_row hb, stv_row hb, stv_row hb, stv_row hb, stv_row hb, stv_row hb]
  show c a 3 = c a 3 ∧ RW G (rf G a8 1) (stv (stv (stv (stv (stv (stv (stv c (rf G a 4) N x) (rf G a 5) N y) (rf G (rf G a 6) 0) N z) (rf G (rf G a 6) 1) N (-1)) (rf G a 6) 2 H) a 3 (c a 3 + 1)) a 8 0) (stv (stv (stv (stv (stv (stv u (rf G a8 1) (20 + N) x) (rf G a8 1) (27 + N) y) (rf G a8 1) (36 + N) z) (rf G a8 1) (43 + N) (-1)) (rf G a8 1) 1 (c a 3 + 1)) (rf G a8 1) 5 0) a 0 ∧ (∀ f, (f < a ∨ ha ≤ f) → (stv (stv (stv (stv (stv (stv (stv c (rf G a 4) N x) (rf G a 5) N y) (rf G (rf G a 6) 0) N z) (rf G (rf G a 6) 1) N (-1)) (rf G a 6) 2 H) a 3 (c a 3 + 1)) a 8 0) f = c f) ∧ (∀ j, 246 ≤ j → (stv (stv (stv (stv (stv (stv u (rf G a8 1) (20 + N) x) (rf G a8 1) (27 + N) y) (rf G a8 1) (36 + N) z) (rf G a8 1) (43 + N) (-1)) (rf G a8 1) 1 (c a 3 + 1)) (rf G a8 1) 5 0) (rf G a8 1) j = u (rf G a8 1) j) ∧ ∀ b, b ≠ rf G a8 1 → (stv (stv (stv (stv (stv (stv u (rf G a8 1) (20 + N) x) (rf G a8 1) (27 + N) y) (rf G a8 1) (36 + N) z) (rf G a8 1) (43 + N) (-1)) (rf G a8 1) 1 (c a 3 + 1)) (rf G a8 1) 5 0) b = u b
  generalize (stv (stv (stv (stv (stv (stv (stv c (rf G a 4) N x) (rf G a 5) N y) (rf G (rf G a 6) 0) N z) (rf G (rf G a 6) 1) N (-1)) (rf G a 6) 2 H) a 3 (c a 3 + 1)) a 8 0) = c' at *
  generalize (stv (stv (stv (stv (stv (stv u (rf G a8 1) (20 + N) x) (rf G a8 1) (27 + N) y) (rf G a8 1) (36 + N) z) (rf G a8 1) (43 + N) (-1)) (rf G a8 1) 1 (c a 3 + 1)) (rf G a8 1) 5 0) = u' at *
  have r1 := fo (rf G a 1) (by omega) (by omega) (by omega) (by omega) (by omega) (by omega)
  have r2 := fo (rf G a 2) (by omega) (by omega) (by omega) (by omega) (by omega) (by omega)
  have r9 := fo (rf G a 9) (by omega) (by omega) (by omega) (by omega) (by omega) (by omega)
  have r91 := fo (rf G (rf G a 9) 1) (by omega) (by omega) (by omega) (by omega) (by omega) (by omega)
  have r10 := fo (rf G a 10) (by omega) (by omega) (by omega) (by omega) (by omega) (by omega)
  have r101 := fo (rf G (rf G a 10) 1) (by omega) (by omega) (by omega) (by omega) (by omega) (by omega)
  have r11 := fo (rf G a 11) (by omega) (by omega) (by omega) (by omega) (by omega) (by omega)
  have r111 := fo (rf G (rf G a 11) 1) (by omega) (by omega) (by omega) (by omega) (by omega) (by omega)
  refine ⟨rfl, ?_, fun f hf => fo f (by omega) (by omega) (by omega) (by omega) (by omega) (by omega), fun j hj => g j (by omega) (by omega) (by omega) (by omega) (by omega) (by omega), gr⟩
  unfold RW RB
  rw [e0, e3, n1, r1, r2]
  refine ⟨⟨⟨b1.trans (g 0 (by omega) (by omega) (by omega) (by omega) (by omega) (by omega)).symm, g1.symm⟩, ⟨b3, n2⟩, ?_, ?_, ?_, ?_⟩, ?_, ?_, ?_⟩
  · exact b5.congr (fun t ht => rfl) (fun t ht => g _ (by omega) (by omega) (by omega) (by omega) (by omega) (by omega))
  · exact b6.congr (fun t ht => rfl) (fun t ht => g _ (by omega) (by omega) (by omega) (by omega) (by omega) (by omega))
  · exact b7.push (fun t ht => f4 t (by omega)) (fun t ht => g _ (by omega) (by omega) (by omega) (by omega) (by omega) (by omega)) f4n gx hx
  · exact b8.push (fun t ht => f5 t (by omega)) (fun t ht => g _ (by omega) (by omega) (by omega) (by omega) (by omega) (by omega)) f5n gy hy
  · exact (p9.tr (by rw [r9]) (fun t _ => by rw [r91]) (g _ (by omega) (by omega) (by omega) (by omega) (by omega) (by omega)) (fun t ht => g _ (by omega) (by omega) (by omega) (by omega) (by omega) (by omega))).wk (fun m hm => b9_w (by rw [ec]; omega) m)
  · exact p10.tr (by rw [r10]) (fun t _ => by rw [r101]) (g _ (by omega) (by omega) (by omega) (by omega) (by omega) (by omega)) (fun t ht => g _ (by omega) (by omega) (by omega) (by omega) (by omega) (by omega))
  · exact (p11.tr (by rw [r11]) (fun t _ => by rw [r111]) (g _ (by omega) (by omega) (by omega) (by omega) (by omega) (by omega)) (fun t ht => g _ (by omega) (by omega) (by omega) (by omega) (by omega) (by omega))).wk (fun m hm => b11_w (by rw [ec]; omega) m)
theorem ix4 (hn : Bd x 0 20) (k : Nat) (hk : k ≤ 3) : Int32.toNatClampNeg (4 * x) = 4 * nn x ∧ (4 * x).toInt = (4 * nn x : Nat) := by
  obtain ⟨h1, h2⟩ := hn
  have e4 : (4 : Int32).toInt = 4 := by decide
  have e : (4 * x).toInt = 4 * x.toInt := by rw [fb_mulI (by rw [e4]; omega) (by rw [e4]; omega), e4]
  have e' : (4 * x).toInt = (4 * nn x : Nat) := by
    rw [e]
    show 4 * x.toInt = ((4 * x.toInt.toNat : Nat) : Int)
    omega
  refine ⟨?_, e'⟩
  show (4 * x).toInt.toNat = _
  rw [e']
  omega
theorem ixa {X K : Int32} (p k : Nat) (hX : X.toInt = p) (hK : K.toInt = k) (hp : p ≤ 1000) (hk : k ≤ 1000) : Int32.toNatClampNeg (X + K) = p + k ∧ (X + K).toInt = (p + k : Nat) := by
  have e : (X + K).toInt = (p + k : Nat) := by
    rw [fb_addI (by omega) (by omega), hX, hK]
    omega
  refine ⟨?_, e⟩
  show (X + K).toInt.toNat = _
  rw [e]
  omega
theorem tellC_seen {h : Nat} {x0 x1 x2 x3 : Int32} (hn : Bd (c h 2) 0 4) : F_X4_add_5 G w c h x0 x1 x2 x3 = (c h 2 + 1, stv (stv (stv (stv (stv c (rf G h 1) (4 * nn (c h 2)) x0) (rf G h 1) (4 * nn (c h 2) + 1) x1) (rf G h 1) (4 * nn (c h 2) + 2) x2) (rf G h 1) (4 * nn (c h 2) + 3) x3) h 2 (c h 2 + 1)) := by
  have hN : nn (c h 2) ≤ 4 := nn_le hn
  obtain ⟨i0, i1⟩ := ix4 (hn.w 0 20 (by omega)) 0 (by omega)
  unfold F_X4_add_5 K_X4_add_5_e
  rw [i0, (ixa _ 1 i1 (by decide) (by omega) (by omega)).1, (ixa _ 2 i1 (by decide) (by omega) (by omega)).1, (ixa _ 3 i1 (by decide) (by omega) (by omega)).1]
theorem tellU_seen {x0 x1 x2 x3 n : Int32} (hn : Bd n 0 4) (e : u (rf G a8 1) 2 = n) : F_X8_tell4_50_2 G w u a8 x0 x1 x2 x3 = (n + 1, stv (stv (stv (stv (stv u (rf G a8 1) (50 + 4 * nn n) x0) (rf G a8 1) (50 + 4 * nn n + 1) x1) (rf G a8 1) (50 + 4 * nn n + 2) x2) (rf G a8 1) (50 + 4 * nn n + 3) x3) (rf G a8 1) 2 (n + 1)) := by
  have hN : nn n ≤ 4 := nn_le hn
  obtain ⟨-, i1⟩ := ix4 (hn.w 0 20 (by omega)) 0 (by omega)
  obtain ⟨j0, j1⟩ := ixa (X := 50) 50 _ (by decide) i1 (by omega) (by omega)
  unfold F_X8_tell4_50_2 K_X8_tell4_50_2_e
  rw [e, j0, (ixa _ 1 j1 (by decide) (by omega) (by omega)).1, (ixa _ 2 j1 (by decide) (by omega) (by omega)).1, (ixa _ 3 j1 (by decide) (by omega) (by omega)).1, show Int32.toNatClampNeg 2 = 2 from by decide]
theorem tell_seen {x0 x1 x2 x3 : Int32} (C : Ch6 G a ha) (hR : RW G (rf G a8 1) c u a 0) (hn : Bd (c (rf G a 9) 2) 0 4) (h0 : Bd x0 (b9 (c a 3).toInt 0).1 (b9 (c a 3).toInt 0).2) (h1 : Bd x1 (b9 (c a 3).toInt 1).1 (b9 (c a 3).toInt 1).2) (h2 : Bd x2 (b9 (c a 3).toInt 2).1 (b9 (c a 3).toInt 2).2) (h3 : Bd x3 (b9 (c a 3).toInt 3).1 (b9 (c a 3).toInt 3).2) : (F_X4_add_5 G w c (rf G a 9) x0 x1 x2 x3).1 = (F_X8_tell4_50_2 G w' u a8 x0 x1 x2 x3).1 ∧ RW G (rf G a8 1) (F_X4_add_5 G w c (rf G a 9) x0 x1 x2 x3).2 (F_X8_tell4_50_2 G w' u a8 x0 x1 x2 x3).2 a 0 ∧ (∀ f, (f < a ∨ ha ≤ f) → (F_X4_add_5 G w c (rf G a 9) x0 x1 x2 x3).2 f = c f) ∧ (∀ j, 246 ≤ j → (F_X8_tell4_50_2 G w' u a8 x0 x1 x2 x3).2 (rf G a8 1) j = u (rf G a8 1) j) ∧ ∀ b, b ≠ rf G a8 1 → (F_X8_tell4_50_2 G w' u a8 x0 x1 x2 x3).2 b = u b := by
  obtain ⟨⟨⟨b1, b2⟩, ⟨b3, b4⟩, b5, b6, b7, b8⟩, p9, p10, p11⟩ := hR
  obtain ⟨k1, k2, k3, k4, k5, ⟨k6, k7⟩, k8, k9, k10, k11, k12, k13, k14, k15, -⟩ := C
  unfold Ch4 at k10 k12 k14
  have pI : c (rf G a 9) 2 = u (rf G a8 1) 2 := p9.1.1
  rw [tellC_seen hn, tellU_seen hn pI.symm]
  have hN : nn (c (rf G a 9) 2) ≤ 4 := nn_le hn
  have hT : nn (c a 0) ≤ 7 := nn_le b3
  have hO : nn (c a 3) ≤ 7 := nn_le b4
  generalize hN0 : nn (c (rf G a 9) 2) = N at *
  have e2 : (stv (stv (stv (stv (stv c (rf G (rf G a 9) 1) (4 * N) x0) (rf G (rf G a 9) 1) (4 * N + 1) x1) (rf G (rf G a 9) 1) (4 * N + 2) x2) (rf G (rf G a 9) 1) (4 * N + 3) x3) (rf G a 9) 2 (c (rf G a 9) 2 + 1)) (rf G a 9) 2 = c (rf G a 9) 2 + 1 := stv_s
  have fr : ∀ t, t < 4 * N → (stv (stv (stv (stv (stv c (rf G (rf G a 9) 1) (4 * N) x0) (rf G (rf G a 9) 1) (4 * N + 1) x1) (rf G (rf G a 9) 1) (4 * N + 2) x2) (rf G (rf G a 9) 1) (4 * N + 3) x3) (rf G a 9) 2 (c (rf G a 9) 2 + 1)) (rf G (rf G a 9) 1) t = c (rf G (rf G a 9) 1) t := fun t ht => by rw [stv_a (by omega), stv_k (by omega), stv_k (by omega), stv_k (by omega), stv_k (by omega)]
  have fn : ∀ k, k < 4 → (stv (stv (stv (stv (stv c (rf G (rf G a 9) 1) (4 * N) x0) (rf G (rf G a 9) 1) (4 * N + 1) x1) (rf G (rf G a 9) 1) (4 * N + 2) x2) (rf G (rf G a 9) 1) (4 * N + 3) x3) (rf G a 9) 2 (c (rf G a 9) 2 + 1)) (rf G (rf G a 9) 1) (4 * N + k) = (fun m => if m = 0 then x0 else if m = 1 then x1 else if m = 2 then x2 else x3) k := fun k hk => by
    rw [stv_a (by omega)]
    match k, hk with
    | 0, _ => rw [stv_k (by omega), stv_k (by omega), stv_k (by omega)]; exact stv_s
    | 1, _ => rw [stv_k (by omega), stv_k (by omega)]; exact stv_s
    | 2, _ => rw [stv_k (by omega)]; exact stv_s
    | 3, _ => exact stv_s
  have fo : ∀ f, f ≠ rf G a 9 → f ≠ rf G (rf G a 9) 1 → (stv (stv (stv (stv (stv c (rf G (rf G a 9) 1) (4 * N) x0) (rf G (rf G a 9) 1) (4 * N + 1) x1) (rf G (rf G a 9) 1) (4 * N + 2) x2) (rf G (rf G a 9) 1) (4 * N + 3) x3) (rf G a 9) 2 (c (rf G a 9) 2 + 1)) f = c f := fun f q1 q2 => by rw [stv_row q1, stv_row q2, stv_row q2, stv_row q2, stv_row q2]
  have g : ∀ j, j ≠ 2 → (j < 50 + 4 * N ∨ 50 + 4 * N + 4 ≤ j) → (stv (stv (stv (stv (stv u (rf G a8 1) (50 + 4 * N) x0) (rf G a8 1) (50 + 4 * N + 1) x1) (rf G a8 1) (50 + 4 * N + 2) x2) (rf G a8 1) (50 + 4 * N + 3) x3) (rf G a8 1) 2 (c (rf G a 9) 2 + 1)) (rf G a8 1) j = u (rf G a8 1) j := fun j q1 q2 => by rw [stv_k q1, stv_k (by omega), stv_k (by omega), stv_k (by omega), stv_k (by omega)]
  have gi : (stv (stv (stv (stv (stv u (rf G a8 1) (50 + 4 * N) x0) (rf G a8 1) (50 + 4 * N + 1) x1) (rf G a8 1) (50 + 4 * N + 2) x2) (rf G a8 1) (50 + 4 * N + 3) x3) (rf G a8 1) 2 (c (rf G a 9) 2 + 1)) (rf G a8 1) 2 = c (rf G a 9) 2 + 1 := stv_s
  have gn : ∀ k, k < 4 → (stv (stv (stv (stv (stv u (rf G a8 1) (50 + 4 * N) x0) (rf G a8 1) (50 + 4 * N + 1) x1) (rf G a8 1) (50 + 4 * N + 2) x2) (rf G a8 1) (50 + 4 * N + 3) x3) (rf G a8 1) 2 (c (rf G a 9) 2 + 1)) (rf G a8 1) (50 + 4 * N + k) = (fun m => if m = 0 then x0 else if m = 1 then x1 else if m = 2 then x2 else x3) k := fun k hk => by
    rw [stv_k (by omega)]
    match k, hk with
    | 0, _ => rw [stv_k (by omega), stv_k (by omega), stv_k (by omega)]; exact stv_s
    | 1, _ => rw [stv_k (by omega), stv_k (by omega)]; exact stv_s
    | 2, _ => rw [stv_k (by omega)]; exact stv_s
    | 3, _ => exact stv_s
  have gr : ∀ b, b ≠ rf G a8 1 → (stv (stv (stv (stv (stv u (rf G a8 1) (50 + 4 * N) x0) (rf G a8 1) (50 + 4 * N + 1) x1) (rf G a8 1) (50 + 4 * N + 2) x2) (rf G a8 1) (50 + 4 * N + 3) x3) (rf G a8 1) 2 (c (rf G a 9) 2 + 1)) b = u b := fun b hb => by rw [stv_row hb, stv_row hb, stv_row hb, stv_row hb, stv_row hb]
  show c (rf G a 9) 2 + 1 = c (rf G a 9) 2 + 1 ∧ RW G (rf G a8 1) (stv (stv (stv (stv (stv c (rf G (rf G a 9) 1) (4 * N) x0) (rf G (rf G a 9) 1) (4 * N + 1) x1) (rf G (rf G a 9) 1) (4 * N + 2) x2) (rf G (rf G a 9) 1) (4 * N + 3) x3) (rf G a 9) 2 (c (rf G a 9) 2 + 1)) (stv (stv (stv (stv (stv u (rf G a8 1) (50 + 4 * N) x0) (rf G a8 1) (50 + 4 * N + 1) x1) (rf G a8 1) (50 + 4 * N + 2) x2) (rf G a8 1) (50 + 4 * N + 3) x3) (rf G a8 1) 2 (c (rf G a 9) 2 + 1)) a 0 ∧ (∀ f, (f < a ∨ ha ≤ f) → (stv (stv (stv (stv (stv c (rf G (rf G a 9) 1) (4 * N) x0) (rf G (rf G a 9) 1) (4 * N + 1) x1) (rf G (rf G a 9) 1) (4 * N + 2) x2) (rf G (rf G a 9) 1) (4 * N + 3) x3) (rf G a 9) 2 (c (rf G a 9) 2 + 1)) f = c f) ∧ (∀ j, 246 ≤ j → (stv (stv (stv (stv (stv u (rf G a8 1) (50 + 4 * N) x0) (rf G a8 1) (50 + 4 * N + 1) x1) (rf G a8 1) (50 + 4 * N + 2) x2) (rf G a8 1) (50 + 4 * N + 3) x3) (rf G a8 1) 2 (c (rf G a 9) 2 + 1)) (rf G a8 1) j = u (rf G a8 1) j) ∧ ∀ b, b ≠ rf G a8 1 → (stv (stv (stv (stv (stv u (rf G a8 1) (50 + 4 * N) x0) (rf G a8 1) (50 + 4 * N + 1) x1) (rf G a8 1) (50 + 4 * N + 2) x2) (rf G a8 1) (50 + 4 * N + 3) x3) (rf G a8 1) 2 (c (rf G a 9) 2 + 1)) b = u b
  generalize (stv (stv (stv (stv (stv c (rf G (rf G a 9) 1) (4 * N) x0) (rf G (rf G a 9) 1) (4 * N + 1) x1) (rf G (rf G a 9) 1) (4 * N + 2) x2) (rf G (rf G a 9) 1) (4 * N + 3) x3) (rf G a 9) 2 (c (rf G a 9) 2 + 1)) = c' at *
  generalize (stv (stv (stv (stv (stv u (rf G a8 1) (50 + 4 * N) x0) (rf G a8 1) (50 + 4 * N + 1) x1) (rf G a8 1) (50 + 4 * N + 2) x2) (rf G a8 1) (50 + 4 * N + 3) x3) (rf G a8 1) 2 (c (rf G a 9) 2 + 1)) = u' at *
  have ra := fo a (by omega) (by omega)
  have rr1 := fo (rf G a 1) (by omega) (by omega)
  have rr2 := fo (rf G a 2) (by omega) (by omega)
  have rr4 := fo (rf G a 4) (by omega) (by omega)
  have rr5 := fo (rf G a 5) (by omega) (by omega)
  refine ⟨rfl, ?_, fun f hf => fo f (by omega) (by omega), fun j hj => g j (by omega) (by omega), gr⟩
  unfold RW RB
  rw [ra, rr1, rr2, rr4, rr5]
  refine ⟨⟨⟨b1.trans (g 0 (by omega) (by omega)).symm, b2.trans (g (0 + 1) (by omega) (by omega)).symm⟩, ⟨b3, b4⟩, b5.congr (fun t ht => rfl) (fun t ht => g _ (by omega) (by omega)), b6.congr (fun t ht => rfl) (fun t ht => g _ (by omega) (by omega)), b7.congr (fun t ht => rfl) (fun t ht => g _ (by omega) (by omega)), b8.congr (fun t ht => rfl) (fun t ht => g _ (by omega) (by omega))⟩, ?_, ?_, ?_⟩
  · refine RR.push (x := fun m => if m = 0 then x0 else if m = 1 then x1 else if m = 2 then x2 else x3) (m := 4) p9 (by omega) hn (fun k hk => ?_) e2 gi (fun t ht => fr t (by omega)) (fun k hk => by rw [hN0]; exact fn k hk) (fun t ht => g _ (by omega) (by omega)) (fun k hk => ?_)
    · match k, hk with
      | 0, _ => exact h0
      | 1, _ => exact h1
      | 2, _ => exact h2
      | 3, _ => exact h3
    · rw [hN0, show 0 + 50 + (4 * N + k) = 50 + 4 * N + k by omega]
      exact gn k hk
  · exact p10.tr (by rw [fo (rf G a 10) (by omega) (by omega)]) (fun t _ => by rw [fo (rf G (rf G a 10) 1) (by omega) (by omega)]) (g _ (by omega) (by omega)) (fun t ht => g _ (by omega) (by omega))
  · exact p11.tr (by rw [fo (rf G a 11) (by omega) (by omega)]) (fun t _ => by rw [fo (rf G (rf G a 11) 1) (by omega) (by omega)]) (g _ (by omega) (by omega)) (fun t ht => g _ (by omega) (by omega))
theorem tellC_note {h : Nat} {x0 x1 x2 x3 : Int32} (hn : Bd (c h 2) 0 5) : F_X4_add_6 G w c h x0 x1 x2 x3 = (c h 2 + 1, stv (stv (stv (stv (stv c (rf G h 1) (4 * nn (c h 2)) x0) (rf G h 1) (4 * nn (c h 2) + 1) x1) (rf G h 1) (4 * nn (c h 2) + 2) x2) (rf G h 1) (4 * nn (c h 2) + 3) x3) h 2 (c h 2 + 1)) := by
  have hN : nn (c h 2) ≤ 5 := nn_le hn
  obtain ⟨i0, i1⟩ := ix4 (hn.w 0 20 (by omega)) 0 (by omega)
  unfold F_X4_add_6 K_X4_add_6_e
  rw [i0, (ixa _ 1 i1 (by decide) (by omega) (by omega)).1, (ixa _ 2 i1 (by decide) (by omega) (by omega)).1, (ixa _ 3 i1 (by decide) (by omega) (by omega)).1]
theorem tellU_note {x0 x1 x2 x3 n : Int32} (hn : Bd n 0 5) (e : u (rf G a8 1) 3 = n) : F_X8_tell4_70_3 G w u a8 x0 x1 x2 x3 = (n + 1, stv (stv (stv (stv (stv u (rf G a8 1) (70 + 4 * nn n) x0) (rf G a8 1) (70 + 4 * nn n + 1) x1) (rf G a8 1) (70 + 4 * nn n + 2) x2) (rf G a8 1) (70 + 4 * nn n + 3) x3) (rf G a8 1) 3 (n + 1)) := by
  have hN : nn n ≤ 5 := nn_le hn
  obtain ⟨-, i1⟩ := ix4 (hn.w 0 20 (by omega)) 0 (by omega)
  obtain ⟨j0, j1⟩ := ixa (X := 70) 70 _ (by decide) i1 (by omega) (by omega)
  unfold F_X8_tell4_70_3 K_X8_tell4_70_3_e
  rw [e, j0, (ixa _ 1 j1 (by decide) (by omega) (by omega)).1, (ixa _ 2 j1 (by decide) (by omega) (by omega)).1, (ixa _ 3 j1 (by decide) (by omega) (by omega)).1, show Int32.toNatClampNeg 3 = 3 from by decide]
theorem tell_note {x0 x1 x2 x3 : Int32} (C : Ch6 G a ha) (hR : RW G (rf G a8 1) c u a 0) (hn : Bd (c (rf G a 10) 2) 0 5) (h0 : Bd x0 (b10 (c a 0).toInt 0).1 (b10 (c a 0).toInt 0).2) (h1 : Bd x1 (b10 (c a 0).toInt 1).1 (b10 (c a 0).toInt 1).2) (h2 : Bd x2 (b10 (c a 0).toInt 2).1 (b10 (c a 0).toInt 2).2) (h3 : Bd x3 (b10 (c a 0).toInt 3).1 (b10 (c a 0).toInt 3).2) : (F_X4_add_6 G w c (rf G a 10) x0 x1 x2 x3).1 = (F_X8_tell4_70_3 G w' u a8 x0 x1 x2 x3).1 ∧ RW G (rf G a8 1) (F_X4_add_6 G w c (rf G a 10) x0 x1 x2 x3).2 (F_X8_tell4_70_3 G w' u a8 x0 x1 x2 x3).2 a 0 ∧ (∀ f, (f < a ∨ ha ≤ f) → (F_X4_add_6 G w c (rf G a 10) x0 x1 x2 x3).2 f = c f) ∧ (∀ j, 246 ≤ j → (F_X8_tell4_70_3 G w' u a8 x0 x1 x2 x3).2 (rf G a8 1) j = u (rf G a8 1) j) ∧ ∀ b, b ≠ rf G a8 1 → (F_X8_tell4_70_3 G w' u a8 x0 x1 x2 x3).2 b = u b := by
  obtain ⟨⟨⟨b1, b2⟩, ⟨b3, b4⟩, b5, b6, b7, b8⟩, p9, p10, p11⟩ := hR
  obtain ⟨k1, k2, k3, k4, k5, ⟨k6, k7⟩, k8, k9, k10, k11, k12, k13, k14, k15, -⟩ := C
  unfold Ch4 at k10 k12 k14
  have pI : c (rf G a 10) 2 = u (rf G a8 1) 3 := p10.1.1
  rw [tellC_note hn, tellU_note hn pI.symm]
  have hN : nn (c (rf G a 10) 2) ≤ 5 := nn_le hn
  have hT : nn (c a 0) ≤ 7 := nn_le b3
  have hO : nn (c a 3) ≤ 7 := nn_le b4
  generalize hN0 : nn (c (rf G a 10) 2) = N at *
  have e2 : (stv (stv (stv (stv (stv c (rf G (rf G a 10) 1) (4 * N) x0) (rf G (rf G a 10) 1) (4 * N + 1) x1) (rf G (rf G a 10) 1) (4 * N + 2) x2) (rf G (rf G a 10) 1) (4 * N + 3) x3) (rf G a 10) 2 (c (rf G a 10) 2 + 1)) (rf G a 10) 2 = c (rf G a 10) 2 + 1 := stv_s
  have fr : ∀ t, t < 4 * N → (stv (stv (stv (stv (stv c (rf G (rf G a 10) 1) (4 * N) x0) (rf G (rf G a 10) 1) (4 * N + 1) x1) (rf G (rf G a 10) 1) (4 * N + 2) x2) (rf G (rf G a 10) 1) (4 * N + 3) x3) (rf G a 10) 2 (c (rf G a 10) 2 + 1)) (rf G (rf G a 10) 1) t = c (rf G (rf G a 10) 1) t := fun t ht => by rw [stv_a (by omega), stv_k (by omega), stv_k (by omega), stv_k (by omega), stv_k (by omega)]
  have fn : ∀ k, k < 4 → (stv (stv (stv (stv (stv c (rf G (rf G a 10) 1) (4 * N) x0) (rf G (rf G a 10) 1) (4 * N + 1) x1) (rf G (rf G a 10) 1) (4 * N + 2) x2) (rf G (rf G a 10) 1) (4 * N + 3) x3) (rf G a 10) 2 (c (rf G a 10) 2 + 1)) (rf G (rf G a 10) 1) (4 * N + k) = (fun m => if m = 0 then x0 else if m = 1 then x1 else if m = 2 then x2 else x3) k := fun k hk => by
    rw [stv_a (by omega)]
    match k, hk with
    | 0, _ => rw [stv_k (by omega), stv_k (by omega), stv_k (by omega)]; exact stv_s
    | 1, _ => rw [stv_k (by omega), stv_k (by omega)]; exact stv_s
    | 2, _ => rw [stv_k (by omega)]; exact stv_s
    | 3, _ => exact stv_s
  have fo : ∀ f, f ≠ rf G a 10 → f ≠ rf G (rf G a 10) 1 → (stv (stv (stv (stv (stv c (rf G (rf G a 10) 1) (4 * N) x0) (rf G (rf G a 10) 1) (4 * N + 1) x1) (rf G (rf G a 10) 1) (4 * N + 2) x2) (rf G (rf G a 10) 1) (4 * N + 3) x3) (rf G a 10) 2 (c (rf G a 10) 2 + 1)) f = c f := fun f q1 q2 => by rw [stv_row q1, stv_row q2, stv_row q2, stv_row q2, stv_row q2]
  have g : ∀ j, j ≠ 3 → (j < 70 + 4 * N ∨ 70 + 4 * N + 4 ≤ j) → (stv (stv (stv (stv (stv u (rf G a8 1) (70 + 4 * N) x0) (rf G a8 1) (70 + 4 * N + 1) x1) (rf G a8 1) (70 + 4 * N + 2) x2) (rf G a8 1) (70 + 4 * N + 3) x3) (rf G a8 1) 3 (c (rf G a 10) 2 + 1)) (rf G a8 1) j = u (rf G a8 1) j := fun j q1 q2 => by rw [stv_k q1, stv_k (by omega), stv_k (by omega), stv_k (by omega), stv_k (by omega)]
  have gi : (stv (stv (stv (stv (stv u (rf G a8 1) (70 + 4 * N) x0) (rf G a8 1) (70 + 4 * N + 1) x1) (rf G a8 1) (70 + 4 * N + 2) x2) (rf G a8 1) (70 + 4 * N + 3) x3) (rf G a8 1) 3 (c (rf G a 10) 2 + 1)) (rf G a8 1) 3 = c (rf G a 10) 2 + 1 := stv_s
  have gn : ∀ k, k < 4 → (stv (stv (stv (stv (stv u (rf G a8 1) (70 + 4 * N) x0) (rf G a8 1) (70 + 4 * N + 1) x1) (rf G a8 1) (70 + 4 * N + 2) x2) (rf G a8 1) (70 + 4 * N + 3) x3) (rf G a8 1) 3 (c (rf G a 10) 2 + 1)) (rf G a8 1) (70 + 4 * N + k) = (fun m => if m = 0 then x0 else if m = 1 then x1 else if m = 2 then x2 else x3) k := fun k hk => by
    rw [stv_k (by omega)]
    match k, hk with
    | 0, _ => rw [stv_k (by omega), stv_k (by omega), stv_k (by omega)]; exact stv_s
    | 1, _ => rw [stv_k (by omega), stv_k (by omega)]; exact stv_s
    | 2, _ => rw [stv_k (by omega)]; exact stv_s
    | 3, _ => exact stv_s
  have gr : ∀ b, b ≠ rf G a8 1 → (stv (stv (stv (stv (stv u (rf G a8 1) (70 + 4 * N) x0) (rf G a8 1) (70 + 4 * N + 1) x1) (rf G a8 1) (70 + 4 * N + 2) x2) (rf G a8 1) (70 + 4 * N + 3) x3) (rf G a8 1) 3 (c (rf G a 10) 2 + 1)) b = u b := fun b hb => by rw [stv_row hb, stv_row hb, stv_row hb, stv_row hb, stv_row hb]
  show c (rf G a 10) 2 + 1 = c (rf G a 10) 2 + 1 ∧ RW G (rf G a8 1) (stv (stv (stv (stv (stv c (rf G (rf G a 10) 1) (4 * N) x0) (rf G (rf G a 10) 1) (4 * N + 1) x1) (rf G (rf G a 10) 1) (4 * N + 2) x2) (rf G (rf G a 10) 1) (4 * N + 3) x3) (rf G a 10) 2 (c (rf G a 10) 2 + 1)) (stv (stv (stv (stv (stv u (rf G a8 1) (70 + 4 * N) x0) (rf G a8 1) (70 + 4 * N + 1) x1) (rf G a8 1) (70 + 4 * N + 2) x2) (rf G a8 1) (70 + 4 * N + 3) x3) (rf G a8 1) 3 (c (rf G a 10) 2 + 1)) a 0 ∧ (∀ f, (f < a ∨ ha ≤ f) → (stv (stv (stv (stv (stv c (rf G (rf G a 10) 1) (4 * N) x0) (rf G (rf G a 10) 1) (4 * N + 1) x1) (rf G (rf G a 10) 1) (4 * N + 2) x2) (rf G (rf G a 10) 1) (4 * N + 3) x3) (rf G a 10) 2 (c (rf G a 10) 2 + 1)) f = c f) ∧ (∀ j, 246 ≤ j → (stv (stv (stv (stv (stv u (rf G a8 1) (70 + 4 * N) x0) (rf G a8 1) (70 + 4 * N + 1) x1) (rf G a8 1) (70 + 4 * N + 2) x2) (rf G a8 1) (70 + 4 * N + 3) x3) (rf G a8 1) 3 (c (rf G a 10) 2 + 1)) (rf G a8 1) j = u (rf G a8 1) j) ∧ ∀ b, b ≠ rf G a8 1 → (stv (stv (stv (stv (stv u (rf G a8 1) (70 + 4 * N) x0) (rf G a8 1) (70 + 4 * N + 1) x1) (rf G a8 1) (70 + 4 * N + 2) x2) (rf G a8 1) (70 + 4 * N + 3) x3) (rf G a8 1) 3 (c (rf G a 10) 2 + 1)) b = u b
  generalize (stv (stv (stv (stv (stv c (rf G (rf G a 10) 1) (4 * N) x0) (rf G (rf G a 10) 1) (4 * N + 1) x1) (rf G (rf G a 10) 1) (4 * N + 2) x2) (rf G (rf G a 10) 1) (4 * N + 3) x3) (rf G a 10) 2 (c (rf G a 10) 2 + 1)) = c' at *
  generalize (stv (stv (stv (stv (stv u (rf G a8 1) (70 + 4 * N) x0) (rf G a8 1) (70 + 4 * N + 1) x1) (rf G a8 1) (70 + 4 * N + 2) x2) (rf G a8 1) (70 + 4 * N + 3) x3) (rf G a8 1) 3 (c (rf G a 10) 2 + 1)) = u' at *
  have ra := fo a (by omega) (by omega)
  have rr1 := fo (rf G a 1) (by omega) (by omega)
  have rr2 := fo (rf G a 2) (by omega) (by omega)
  have rr4 := fo (rf G a 4) (by omega) (by omega)
  have rr5 := fo (rf G a 5) (by omega) (by omega)
  refine ⟨rfl, ?_, fun f hf => fo f (by omega) (by omega), fun j hj => g j (by omega) (by omega), gr⟩
  unfold RW RB
  rw [ra, rr1, rr2, rr4, rr5]
  refine ⟨⟨⟨b1.trans (g 0 (by omega) (by omega)).symm, b2.trans (g (0 + 1) (by omega) (by omega)).symm⟩, ⟨b3, b4⟩, b5.congr (fun t ht => rfl) (fun t ht => g _ (by omega) (by omega)), b6.congr (fun t ht => rfl) (fun t ht => g _ (by omega) (by omega)), b7.congr (fun t ht => rfl) (fun t ht => g _ (by omega) (by omega)), b8.congr (fun t ht => rfl) (fun t ht => g _ (by omega) (by omega))⟩, ?_, ?_, ?_⟩
  · exact p9.tr (by rw [fo (rf G a 9) (by omega) (by omega)]) (fun t _ => by rw [fo (rf G (rf G a 9) 1) (by omega) (by omega)]) (g _ (by omega) (by omega)) (fun t ht => g _ (by omega) (by omega))
  · refine RR.push (x := fun m => if m = 0 then x0 else if m = 1 then x1 else if m = 2 then x2 else x3) (m := 5) p10 (by omega) hn (fun k hk => ?_) e2 gi (fun t ht => fr t (by omega)) (fun k hk => by rw [hN0]; exact fn k hk) (fun t ht => g _ (by omega) (by omega)) (fun k hk => ?_)
    · match k, hk with
      | 0, _ => exact h0
      | 1, _ => exact h1
      | 2, _ => exact h2
      | 3, _ => exact h3
    · rw [hN0, show 0 + 70 + (4 * N + k) = 70 + 4 * N + k by omega]
      exact gn k hk
  · exact p11.tr (by rw [fo (rf G a 11) (by omega) (by omega)]) (fun t _ => by rw [fo (rf G (rf G a 11) 1) (by omega) (by omega)]) (g _ (by omega) (by omega)) (fun t ht => g _ (by omega) (by omega))
theorem tellC_mark {h : Nat} {x0 x1 x2 x3 : Int32} (hn : Bd (c h 2) 0 5) : F_X4_add_6 G w c h x0 x1 x2 x3 = (c h 2 + 1, stv (stv (stv (stv (stv c (rf G h 1) (4 * nn (c h 2)) x0) (rf G h 1) (4 * nn (c h 2) + 1) x1) (rf G h 1) (4 * nn (c h 2) + 2) x2) (rf G h 1) (4 * nn (c h 2) + 3) x3) h 2 (c h 2 + 1)) := by
  have hN : nn (c h 2) ≤ 5 := nn_le hn
  obtain ⟨i0, i1⟩ := ix4 (hn.w 0 20 (by omega)) 0 (by omega)
  unfold F_X4_add_6 K_X4_add_6_e
  rw [i0, (ixa _ 1 i1 (by decide) (by omega) (by omega)).1, (ixa _ 2 i1 (by decide) (by omega) (by omega)).1, (ixa _ 3 i1 (by decide) (by omega) (by omega)).1]
theorem tellU_mark {x0 x1 x2 x3 n : Int32} (hn : Bd n 0 5) (e : u (rf G a8 1) 4 = n) : F_X8_tell4_94_4 G w u a8 x0 x1 x2 x3 = (n + 1, stv (stv (stv (stv (stv u (rf G a8 1) (94 + 4 * nn n) x0) (rf G a8 1) (94 + 4 * nn n + 1) x1) (rf G a8 1) (94 + 4 * nn n + 2) x2) (rf G a8 1) (94 + 4 * nn n + 3) x3) (rf G a8 1) 4 (n + 1)) := by
  have hN : nn n ≤ 5 := nn_le hn
  obtain ⟨-, i1⟩ := ix4 (hn.w 0 20 (by omega)) 0 (by omega)
  obtain ⟨j0, j1⟩ := ixa (X := 94) 94 _ (by decide) i1 (by omega) (by omega)
  unfold F_X8_tell4_94_4 K_X8_tell4_94_4_e
  rw [e, j0, (ixa _ 1 j1 (by decide) (by omega) (by omega)).1, (ixa _ 2 j1 (by decide) (by omega) (by omega)).1, (ixa _ 3 j1 (by decide) (by omega) (by omega)).1, show Int32.toNatClampNeg 4 = 4 from by decide]
theorem tell_mark {x0 x1 x2 x3 : Int32} (C : Ch6 G a ha) (hR : RW G (rf G a8 1) c u a 0) (hn : Bd (c (rf G a 11) 2) 0 5) (h0 : Bd x0 (b11 (c a 3).toInt 0).1 (b11 (c a 3).toInt 0).2) (h1 : Bd x1 (b11 (c a 3).toInt 1).1 (b11 (c a 3).toInt 1).2) (h2 : Bd x2 (b11 (c a 3).toInt 2).1 (b11 (c a 3).toInt 2).2) (h3 : Bd x3 (b11 (c a 3).toInt 3).1 (b11 (c a 3).toInt 3).2) : (F_X4_add_6 G w c (rf G a 11) x0 x1 x2 x3).1 = (F_X8_tell4_94_4 G w' u a8 x0 x1 x2 x3).1 ∧ RW G (rf G a8 1) (F_X4_add_6 G w c (rf G a 11) x0 x1 x2 x3).2 (F_X8_tell4_94_4 G w' u a8 x0 x1 x2 x3).2 a 0 ∧ (∀ f, (f < a ∨ ha ≤ f) → (F_X4_add_6 G w c (rf G a 11) x0 x1 x2 x3).2 f = c f) ∧ (∀ j, 246 ≤ j → (F_X8_tell4_94_4 G w' u a8 x0 x1 x2 x3).2 (rf G a8 1) j = u (rf G a8 1) j) ∧ ∀ b, b ≠ rf G a8 1 → (F_X8_tell4_94_4 G w' u a8 x0 x1 x2 x3).2 b = u b := by
  obtain ⟨⟨⟨b1, b2⟩, ⟨b3, b4⟩, b5, b6, b7, b8⟩, p9, p10, p11⟩ := hR
  obtain ⟨k1, k2, k3, k4, k5, ⟨k6, k7⟩, k8, k9, k10, k11, k12, k13, k14, k15, -⟩ := C
  unfold Ch4 at k10 k12 k14
  have pI : c (rf G a 11) 2 = u (rf G a8 1) 4 := p11.1.1
  rw [tellC_mark hn, tellU_mark hn pI.symm]
  have hN : nn (c (rf G a 11) 2) ≤ 5 := nn_le hn
  have hT : nn (c a 0) ≤ 7 := nn_le b3
  have hO : nn (c a 3) ≤ 7 := nn_le b4
  generalize hN0 : nn (c (rf G a 11) 2) = N at *
  have e2 : (stv (stv (stv (stv (stv c (rf G (rf G a 11) 1) (4 * N) x0) (rf G (rf G a 11) 1) (4 * N + 1) x1) (rf G (rf G a 11) 1) (4 * N + 2) x2) (rf G (rf G a 11) 1) (4 * N + 3) x3) (rf G a 11) 2 (c (rf G a 11) 2 + 1)) (rf G a 11) 2 = c (rf G a 11) 2 + 1 := stv_s
  have fr : ∀ t, t < 4 * N → (stv (stv (stv (stv (stv c (rf G (rf G a 11) 1) (4 * N) x0) (rf G (rf G a 11) 1) (4 * N + 1) x1) (rf G (rf G a 11) 1) (4 * N + 2) x2) (rf G (rf G a 11) 1) (4 * N + 3) x3) (rf G a 11) 2 (c (rf G a 11) 2 + 1)) (rf G (rf G a 11) 1) t = c (rf G (rf G a 11) 1) t := fun t ht => by rw [stv_a (by omega), stv_k (by omega), stv_k (by omega), stv_k (by omega), stv_k (by omega)]
  have fn : ∀ k, k < 4 → (stv (stv (stv (stv (stv c (rf G (rf G a 11) 1) (4 * N) x0) (rf G (rf G a 11) 1) (4 * N + 1) x1) (rf G (rf G a 11) 1) (4 * N + 2) x2) (rf G (rf G a 11) 1) (4 * N + 3) x3) (rf G a 11) 2 (c (rf G a 11) 2 + 1)) (rf G (rf G a 11) 1) (4 * N + k) = (fun m => if m = 0 then x0 else if m = 1 then x1 else if m = 2 then x2 else x3) k := fun k hk => by
    rw [stv_a (by omega)]
    match k, hk with
    | 0, _ => rw [stv_k (by omega), stv_k (by omega), stv_k (by omega)]; exact stv_s
    | 1, _ => rw [stv_k (by omega), stv_k (by omega)]; exact stv_s
    | 2, _ => rw [stv_k (by omega)]; exact stv_s
    | 3, _ => exact stv_s
  have fo : ∀ f, f ≠ rf G a 11 → f ≠ rf G (rf G a 11) 1 → (stv (stv (stv (stv (stv c (rf G (rf G a 11) 1) (4 * N) x0) (rf G (rf G a 11) 1) (4 * N + 1) x1) (rf G (rf G a 11) 1) (4 * N + 2) x2) (rf G (rf G a 11) 1) (4 * N + 3) x3) (rf G a 11) 2 (c (rf G a 11) 2 + 1)) f = c f := fun f q1 q2 => by rw [stv_row q1, stv_row q2, stv_row q2, stv_row q2, stv_row q2]
  have g : ∀ j, j ≠ 4 → (j < 94 + 4 * N ∨ 94 + 4 * N + 4 ≤ j) → (stv (stv (stv (stv (stv u (rf G a8 1) (94 + 4 * N) x0) (rf G a8 1) (94 + 4 * N + 1) x1) (rf G a8 1) (94 + 4 * N + 2) x2) (rf G a8 1) (94 + 4 * N + 3) x3) (rf G a8 1) 4 (c (rf G a 11) 2 + 1)) (rf G a8 1) j = u (rf G a8 1) j := fun j q1 q2 => by rw [stv_k q1, stv_k (by omega), stv_k (by omega), stv_k (by omega), stv_k (by omega)]
  have gi : (stv (stv (stv (stv (stv u (rf G a8 1) (94 + 4 * N) x0) (rf G a8 1) (94 + 4 * N + 1) x1) (rf G a8 1) (94 + 4 * N + 2) x2) (rf G a8 1) (94 + 4 * N + 3) x3) (rf G a8 1) 4 (c (rf G a 11) 2 + 1)) (rf G a8 1) 4 = c (rf G a 11) 2 + 1 := stv_s
  have gn : ∀ k, k < 4 → (stv (stv (stv (stv (stv u (rf G a8 1) (94 + 4 * N) x0) (rf G a8 1) (94 + 4 * N + 1) x1) (rf G a8 1) (94 + 4 * N + 2) x2) (rf G a8 1) (94 + 4 * N + 3) x3) (rf G a8 1) 4 (c (rf G a 11) 2 + 1)) (rf G a8 1) (94 + 4 * N + k) = (fun m => if m = 0 then x0 else if m = 1 then x1 else if m = 2 then x2 else x3) k := fun k hk => by
    rw [stv_k (by omega)]
    match k, hk with
    | 0, _ => rw [stv_k (by omega), stv_k (by omega), stv_k (by omega)]; exact stv_s
    | 1, _ => rw [stv_k (by omega), stv_k (by omega)]; exact stv_s
    | 2, _ => rw [stv_k (by omega)]; exact stv_s
    | 3, _ => exact stv_s
  have gr : ∀ b, b ≠ rf G a8 1 → (stv (stv (stv (stv (stv u (rf G a8 1) (94 + 4 * N) x0) (rf G a8 1) (94 + 4 * N + 1) x1) (rf G a8 1) (94 + 4 * N + 2) x2) (rf G a8 1) (94 + 4 * N + 3) x3) (rf G a8 1) 4 (c (rf G a 11) 2 + 1)) b = u b := fun b hb => by rw [stv_row hb, stv_row hb, stv_row hb, stv_row hb, stv_row hb]
  show c (rf G a 11) 2 + 1 = c (rf G a 11) 2 + 1 ∧ RW G (rf G a8 1) (stv (stv (stv (stv (stv c (rf G (rf G a 11) 1) (4 * N) x0) (rf G (rf G a 11) 1) (4 * N + 1) x1) (rf G (rf G a 11) 1) (4 * N + 2) x2) (rf G (rf G a 11) 1) (4 * N + 3) x3) (rf G a 11) 2 (c (rf G a 11) 2 + 1)) (stv (stv (stv (stv (stv u (rf G a8 1) (94 + 4 * N) x0) (rf G a8 1) (94 + 4 * N + 1) x1) (rf G a8 1) (94 + 4 * N + 2) x2) (rf G a8 1) (94 + 4 * N + 3) x3) (rf G a8 1) 4 (c (rf G a 11) 2 + 1)) a 0 ∧ (∀ f, (f < a ∨ ha ≤ f) → (stv (stv (stv (stv (stv c (rf G (rf G a 11) 1) (4 * N) x0) (rf G (rf G a 11) 1) (4 * N + 1) x1) (rf G (rf G a 11) 1) (4 * N + 2) x2) (rf G (rf G a 11) 1) (4 * N + 3) x3) (rf G a 11) 2 (c (rf G a 11) 2 + 1)) f = c f) ∧ (∀ j, 246 ≤ j → (stv (stv (stv (stv (stv u (rf G a8 1) (94 + 4 * N) x0) (rf G a8 1) (94 + 4 * N + 1) x1) (rf G a8 1) (94 + 4 * N + 2) x2) (rf G a8 1) (94 + 4 * N + 3) x3) (rf G a8 1) 4 (c (rf G a 11) 2 + 1)) (rf G a8 1) j = u (rf G a8 1) j) ∧ ∀ b, b ≠ rf G a8 1 → (stv (stv (stv (stv (stv u (rf G a8 1) (94 + 4 * N) x0) (rf G a8 1) (94 + 4 * N + 1) x1) (rf G a8 1) (94 + 4 * N + 2) x2) (rf G a8 1) (94 + 4 * N + 3) x3) (rf G a8 1) 4 (c (rf G a 11) 2 + 1)) b = u b
  generalize (stv (stv (stv (stv (stv c (rf G (rf G a 11) 1) (4 * N) x0) (rf G (rf G a 11) 1) (4 * N + 1) x1) (rf G (rf G a 11) 1) (4 * N + 2) x2) (rf G (rf G a 11) 1) (4 * N + 3) x3) (rf G a 11) 2 (c (rf G a 11) 2 + 1)) = c' at *
  generalize (stv (stv (stv (stv (stv u (rf G a8 1) (94 + 4 * N) x0) (rf G a8 1) (94 + 4 * N + 1) x1) (rf G a8 1) (94 + 4 * N + 2) x2) (rf G a8 1) (94 + 4 * N + 3) x3) (rf G a8 1) 4 (c (rf G a 11) 2 + 1)) = u' at *
  have ra := fo a (by omega) (by omega)
  have rr1 := fo (rf G a 1) (by omega) (by omega)
  have rr2 := fo (rf G a 2) (by omega) (by omega)
  have rr4 := fo (rf G a 4) (by omega) (by omega)
  have rr5 := fo (rf G a 5) (by omega) (by omega)
  refine ⟨rfl, ?_, fun f hf => fo f (by omega) (by omega), fun j hj => g j (by omega) (by omega), gr⟩
  unfold RW RB
  rw [ra, rr1, rr2, rr4, rr5]
  refine ⟨⟨⟨b1.trans (g 0 (by omega) (by omega)).symm, b2.trans (g (0 + 1) (by omega) (by omega)).symm⟩, ⟨b3, b4⟩, b5.congr (fun t ht => rfl) (fun t ht => g _ (by omega) (by omega)), b6.congr (fun t ht => rfl) (fun t ht => g _ (by omega) (by omega)), b7.congr (fun t ht => rfl) (fun t ht => g _ (by omega) (by omega)), b8.congr (fun t ht => rfl) (fun t ht => g _ (by omega) (by omega))⟩, ?_, ?_, ?_⟩
  · exact p9.tr (by rw [fo (rf G a 9) (by omega) (by omega)]) (fun t _ => by rw [fo (rf G (rf G a 9) 1) (by omega) (by omega)]) (g _ (by omega) (by omega)) (fun t ht => g _ (by omega) (by omega))
  · exact p10.tr (by rw [fo (rf G a 10) (by omega) (by omega)]) (fun t _ => by rw [fo (rf G (rf G a 10) 1) (by omega) (by omega)]) (g _ (by omega) (by omega)) (fun t ht => g _ (by omega) (by omega))
  · refine RR.push (x := fun m => if m = 0 then x0 else if m = 1 then x1 else if m = 2 then x2 else x3) (m := 5) p11 (by omega) hn (fun k hk => ?_) e2 gi (fun t ht => fr t (by omega)) (fun k hk => by rw [hN0]; exact fn k hk) (fun t ht => g _ (by omega) (by omega)) (fun k hk => ?_)
    · match k, hk with
      | 0, _ => exact h0
      | 1, _ => exact h1
      | 2, _ => exact h2
      | 3, _ => exact h3
    · rw [hN0, show 0 + 94 + (4 * N + k) = 94 + 4 * N + k by omega]
      exact gn k hk
end EFF
