/-! PURE THEORY 9: whole rows of the reference, and where both begin to read -/
section RO
variable {G : Gm} {w : Mw} {a8 : Nat}
theorem ixw {A : Int32} (a k : Nat) (hA : A.toInt = a) (ha : a ≤ 1000) (hk : k ≤ 1000) : Int32.toNatClampNeg (A + nI k) = a + k := by
  show (A + nI k).toInt.toNat = _
  have e := nI_toInt (n := k) (by omega)
  rw [fb_addI (by rw [hA, e]; omega) (by rw [hA, e]; omega), hA, e]
  omega
theorem le_nI {k : Nat} {N : Int32} (n : Nat) (hN : N.toInt = n) (hk : k < 2147483648) : N ≤ nI k ↔ n ≤ k := by
  rw [i_le, hN, nI_toInt hk]
  omega
/-- a row copied to another -/
theorem cr_loop {x y : Int32} {p q : Nat} (hx : x.toInt = p) (hy : y.toInt = q) (hp : p ≤ 738) (hq : q ≤ 738) (hd : p + 246 ≤ q ∨ q + 246 ≤ p) : ∀ (n k : Nat) (v : Mv), k ≤ 246 → 246 - k < n → (∀ b, b ≠ rf G a8 1 → K_X8_copyRow_2 G w a8 n v x y (nI k) b = v b) ∧ ∀ j, K_X8_copyRow_2 G w a8 n v x y (nI k) (rf G a8 1) j = if q + k ≤ j ∧ j < q + 246 then v (rf G a8 1) (p + (j - q)) else v (rf G a8 1) j := by
  intro n
  induction n with
  | zero => intro k v _ h; omega
  | succ n ih =>
    intro k v hk hf
    rw [K_X8_copyRow_2]
    by_cases c : (246 : Int32) ≤ nI k
    · have := (le_nI 246 (by decide) (by omega)).mp c
      rw [if_pos c]
      exact ⟨fun _ _ => rfl, fun j => (if_neg (by omega)).symm⟩
    · have hlt : k < 246 := Nat.not_le.mp fun z => c ((le_nI 246 (by decide) (by omega)).mpr z)
      rw [if_neg c, nI_1, ixw q k hy (by omega) (by omega), ixw p k hx (by omega) (by omega)]
      obtain ⟨r1, r2⟩ := ih (k + 1) (stv v (rf G a8 1) (q + k) (v (rf G a8 1) (p + k))) (by omega) (by omega)
      refine ⟨fun b hb => (r1 b hb).trans (stv_row hb), fun j => ?_⟩
      rw [r2 j]
      by_cases e : j = q + k
      · subst e
        rw [if_neg (by omega), stv_s, if_pos (by omega), Nat.add_sub_cancel_left]
      · by_cases e2 : q + k ≤ j ∧ j < q + 246
        · rw [if_pos (by omega), if_pos e2, stv_k (by omega)]
        · rw [if_neg (by omega), if_neg e2, stv_k e]
theorem cr_ok {v : Mv} {x y : Int32} {p q : Nat} (hx : x.toInt = p) (hy : y.toInt = q) (hp : p ≤ 738) (hq : q ≤ 738) (hd : p + 246 ≤ q ∨ q + 246 ≤ p) : (∀ b, b ≠ rf G a8 1 → F_X8_copyRow G w v a8 x y b = v b) ∧ (∀ t, t < 246 → F_X8_copyRow G w v a8 x y (rf G a8 1) (q + t) = v (rf G a8 1) (p + t)) ∧ ∀ j, (j < q ∨ q + 246 ≤ j) → F_X8_copyRow G w v a8 x y (rf G a8 1) j = v (rf G a8 1) j := by
  obtain ⟨r1, r2⟩ := cr_loop (G := G) (w := w) (a8 := a8) hx hy hp hq hd 247 0 v (by omega) (by omega)
  refine ⟨r1, fun t ht => ?_, fun j hj => ?_⟩
  · have := r2 (q + t)
    rw [if_pos (by omega), Nat.add_sub_cancel_left] at this
    exact this
  · have := r2 j
    rw [if_neg (by omega)] at this
    exact this
theorem b26 : ∀ (n k : Nat) (v : Mv), k ≤ 7 → 7 - k < n → (∀ b, b ≠ rf G a8 1 → K_X8_begin_738_26 G w a8 n v 738 (nI k) b = v b) ∧ ∀ j, K_X8_begin_738_26 G w a8 n v 738 (nI k) (rf G a8 1) j = if 781 + k ≤ j ∧ j < 788 then -1 else v (rf G a8 1) j := by
  intro n
  induction n with
  | zero => intro k v _ h; omega
  | succ n ih =>
    intro k v hk hf
    rw [K_X8_begin_738_26]
    by_cases c : (7 : Int32) ≤ nI k
    · have := (le_nI 7 (by decide) (by omega)).mp c
      rw [if_pos c]
      exact ⟨fun _ _ => rfl, fun j => (if_neg (by omega)).symm⟩
    · have hlt : k < 7 := Nat.not_le.mp fun z => c ((le_nI 7 (by decide) (by omega)).mpr z)
      rw [if_neg c, nI_1, ixw (A := 738 + 34 + 9) 781 k (by decide) (by omega) (by omega)]
      obtain ⟨r1, r2⟩ := ih (k + 1) (stv v (rf G a8 1) (781 + k) (-1)) (by omega) (by omega)
      refine ⟨fun b hb => (r1 b hb).trans (stv_row hb), fun j => ?_⟩
      rw [r2 j]
      by_cases e : j = 781 + k
      · subst e
        rw [if_neg (by omega), stv_s, if_pos (by omega)]
      · by_cases e2 : 781 + k ≤ j ∧ j < 788
        · rw [if_pos (by omega), if_pos e2]
        · rw [if_neg (by omega), if_neg e2, stv_k e]
theorem b2 : ∀ (n k : Nat) (v : Mv), k ≤ 246 → 246 - k < n → (∀ b, b ≠ rf G a8 1 → K_X8_begin_738_2 G w a8 n v 738 (nI k) b = v b) ∧ ∀ j, K_X8_begin_738_2 G w a8 n v 738 (nI k) (rf G a8 1) j = if 781 ≤ j ∧ j < 788 then -1 else if 738 + k ≤ j ∧ j < 984 then 0 else v (rf G a8 1) j := by
  intro n
  induction n with
  | zero => intro k v _ h; omega
  | succ n ih =>
    intro k v hk hf
    rw [K_X8_begin_738_2]
    by_cases c : (246 : Int32) ≤ nI k
    · have := (le_nI 246 (by decide) (by omega)).mp c
      rw [if_pos c]
      obtain ⟨r1, r2⟩ := b26 (G := G) (w := w) (a8 := a8) 8 0 v (by omega) (by omega)
      refine ⟨r1, fun j => (r2 j).trans ?_⟩
      by_cases e : 781 ≤ j ∧ j < 788
      · rw [if_pos e, if_pos e]
      · rw [if_neg e, if_neg e, if_neg (by omega)]
    · have hlt : k < 246 := Nat.not_le.mp fun z => c ((le_nI 246 (by decide) (by omega)).mpr z)
      rw [if_neg c, nI_1, ixw (A := 738) 738 k (by decide) (by omega) (by omega)]
      obtain ⟨r1, r2⟩ := ih (k + 1) (stv v (rf G a8 1) (738 + k) 0) (by omega) (by omega)
      refine ⟨fun b hb => (r1 b hb).trans (stv_row hb), fun j => ?_⟩
      rw [r2 j]
      by_cases e0 : 781 ≤ j ∧ j < 788
      · rw [if_pos e0, if_pos e0]
      · rw [if_neg e0, if_neg e0]
        by_cases e : j = 738 + k
        · subst e
          rw [if_neg (by omega), stv_s, if_pos (by omega)]
        · by_cases e2 : 738 + k ≤ j ∧ j < 984
          · rw [if_pos (by omega), if_pos e2]
          · rw [if_neg (by omega), if_neg e2, stv_k e]
theorem bg_ok {v : Mv} : (∀ b, b ≠ rf G a8 1 → F_X8_begin_738 G w v a8 b = v b) ∧ (∀ j, j < 738 → F_X8_begin_738 G w v a8 (rf G a8 1) j = v (rf G a8 1) j) ∧ ∀ j, 738 ≤ j → j < 781 → F_X8_begin_738 G w v a8 (rf G a8 1) j = 0 := by
  obtain ⟨r1, r2⟩ := b2 (G := G) (w := w) (a8 := a8) 247 0 v (by omega) (by omega)
  refine ⟨r1, fun j hj => ?_, fun j h1 h2 => ?_⟩
  · have := r2 j
    rw [if_neg (by omega), if_neg (by omega)] at this
    exact this
  · have := r2 j
    rw [if_neg (by omega), if_pos (by omega)] at this
    exact this
end RO
section ST
variable {G : Gm} {w : Mw} {a hi : Nat} {c : Mv}
theorem start_eq : F_X6_startAnew G w c a = stv (stv (stv (stv (stv (stv (stv (stv c a 0 0) a 3 0) (rf G a 6) 2 0) (rf G a 6) 3 0) a 8 0) (rf G a 9) 2 0) (rf G a 10) 2 0) (rf G a 11) 2 0 := rfl
theorem start_ok (C : Ch6 G a hi) : (∀ x, x ≠ a → x ≠ rf G a 6 → x ≠ rf G a 9 → x ≠ rf G a 10 → x ≠ rf G a 11 → F_X6_startAnew G w c a x = c x) ∧ ((F_X6_startAnew G w c a) a 0 = 0 ∧ (F_X6_startAnew G w c a) a 3 = 0 ∧ (F_X6_startAnew G w c a) a 8 = 0) ∧ (F_X6_startAnew G w c a) (rf G a 6) 3 = 0 ∧ (F_X6_startAnew G w c a) (rf G a 9) 2 = 0 ∧ (F_X6_startAnew G w c a) (rf G a 10) 2 = 0 ∧ (F_X6_startAnew G w c a) (rf G a 11) 2 = 0 := by
  obtain ⟨k1, k2, k3, k4, k5, ⟨k6, k7⟩, k8, k9, k10, k11, k12, k13, k14, -⟩ := C
  unfold Ch4 at k10 k12 k14
  rw [start_eq]
  have n6 : a ≠ rf G a 6 := by omega
  have n9 : a ≠ rf G a 9 := by omega
  have n10 : a ≠ rf G a 10 := by omega
  have n11 : a ≠ rf G a 11 := by omega
  have m9 : rf G a 6 ≠ rf G a 9 := by omega
  have m10 : rf G a 6 ≠ rf G a 10 := by omega
  have m11 : rf G a 6 ≠ rf G a 11 := by omega
  have l10 : rf G a 9 ≠ rf G a 10 := by omega
  have l11 : rf G a 9 ≠ rf G a 11 := by omega
  have j11 : rf G a 10 ≠ rf G a 11 := by omega
  refine ⟨fun x q1 q2 q3 q4 q5 => ?_, ⟨?_, ?_, ?_⟩, ?_, ?_, ?_, ?_⟩
  · rw [stv_row q5, stv_row q4, stv_row q3, stv_row q1, stv_row q2, stv_row q2, stv_row q1, stv_row q1]
  · rw [stv_a n11, stv_a n10, stv_a n9, stv_k (by decide), stv_a n6, stv_a n6, stv_k (by decide), stv_s]
  · rw [stv_a n11, stv_a n10, stv_a n9, stv_k (by decide), stv_a n6, stv_a n6, stv_s]
  · rw [stv_a n11, stv_a n10, stv_a n9, stv_s]
  · rw [stv_a m11, stv_a m10, stv_a m9, stv_a n6.symm, stv_s]
  · rw [stv_a l11, stv_a l10, stv_s]
  · rw [stv_a j11, stv_s]
  · rw [stv_s]
end ST
