/-! PURE THEORY 3: rows of the class beside places of the reference's row -/
def bt (x : Int32) (i : Nat) : Bool := x.toBitVec.getLsbD i
theorem b_or (x y : Int32) (i : Nat) : bt (x ||| y) i = (bt x i || bt y i) := by unfold bt; rw [Int32.toBitVec_or, BitVec.getLsbD_or]
theorem b_and (x y : Int32) (i : Nat) : bt (x &&& y) i = (bt x i && bt y i) := by unfold bt; rw [Int32.toBitVec_and, BitVec.getLsbD_and]
theorem b_xor (x y : Int32) (i : Nat) : bt (x ^^^ y) i = (bt x i ^^ bt y i) := by unfold bt; rw [Int32.toBitVec_xor, BitVec.getLsbD_xor]
theorem b_big {x : Int32} {i : Nat} (h : 32 ≤ i) : bt x i = false := BitVec.getLsbD_of_ge _ _ h
theorem b_m1 : ∀ i, i < 32 → bt (-1) i = true := by decide +kernel
theorem b_0 (i : Nat) : bt 0 i = false := BitVec.getLsbD_zero
theorem b_ext {x y : Int32} (h : ∀ i, i < 32 → bt x i = bt y i) : x = y := Int32.toBitVec_inj.mp (BitVec.eq_of_getLsbD_eq (fun i hi => h i hi))
theorem s_l : ∀ n, n < 32 → ((nI n &&& 31).toBitVec.smod 32).toNat = n := by decide +kernel
theorem b_shl (n : Nat) (hn : n < 32) (x : Int32) {i : Nat} (hi : i < 32) : bt (x <<< (nI n &&& 31)) i = (decide (n ≤ i) && bt x (i - n)) := by
  unfold bt
  rw [Int32.toBitVec_shiftLeft]
  show (x.toBitVec <<< ((nI n &&& 31).toBitVec.smod 32).toNat).getLsbD i = _
  rw [s_l n hn, BitVec.getLsbD_shiftLeft]
  rcases Nat.lt_or_ge i n with h | h
  · simp [h, Nat.not_le.mpr h]
  · simp [hi, h, Nat.not_lt.mpr h]
theorem b_sshr (n : Nat) (hn : n < 32) (x : Int32) {i : Nat} (hi : i < 32) : bt (x >>> (nI n &&& 31)) i = if n + i < 32 then bt x (n + i) else bt x 31 := by
  unfold bt
  rw [Int32.toBitVec_shiftRight]
  show (x.toBitVec.sshiftRight ((nI n &&& 31).toBitVec.smod 32).toNat).getLsbD i = _
  rw [s_l n hn, BitVec.getLsbD_sshiftRight, BitVec.msb_eq_getLsbD_last]
  simp [hi]
theorem b_1 : ∀ i, i < 32 → bt 1 i = decide (i = 0) := by decide +kernel
theorem b_one (n : Nat) (hn : n < 32) {i : Nat} (hi : i < 32) : bt (1 <<< (nI n &&& 31)) i = decide (i = n) := by
  rw [b_shl n hn 1 hi, b_1 (i - n) (by omega)]
  rcases Nat.lt_trichotomy i n with h | h | h
  · rw [decide_eq_false (show ¬ n ≤ i by omega), decide_eq_false (show ¬ i = n by omega), Bool.false_and]
  · rw [decide_eq_true (show n ≤ i by omega), decide_eq_true (show i - n = 0 by omega), decide_eq_true h]; rfl
  · rw [decide_eq_true (show n ≤ i by omega), decide_eq_false (show ¬ i - n = 0 by omega), decide_eq_false (show ¬ i = n by omega)]; rfl
/-- the bit that the programs look at -/
theorem hb_eq (n : Nat) (hn : n < 32) (x : Int32) : ((x >>> (nI n &&& 31)) &&& 1 = 1) ↔ bt x n = true := by
  have h0 : ∀ i, i < 32 → bt ((x >>> (nI n &&& 31)) &&& 1) i = (decide (i = 0) && bt x n) := by
    intro i hi
    rw [b_and, b_1 i hi, b_sshr n hn x hi]
    by_cases h : i = 0
    · rw [h, Nat.add_zero, if_pos hn, decide_eq_true rfl, Bool.and_true, Bool.true_and]
    · rw [decide_eq_false h, Bool.and_false, Bool.false_and]
  constructor
  · intro h
    have := h0 0 (by omega)
    rw [h, b_1 0 (by omega)] at this
    simpa using this.symm
  · intro h
    refine b_ext (fun i hi => ?_)
    rw [h0 i hi, h, Bool.and_true, b_1 i hi]
theorem has_eq {G : Gm} {w : Mw} {v : Mv} (n : Nat) (hn : n < 32) (x : Int32) : F_X8_has G w v x (nI n) = if bt x n = true then 1 else 0 := by
  unfold F_X8_has K_X8_has_e
  by_cases h : bt x n = true
  · rw [if_pos h, if_pos ((hb_eq n hn x).mpr h)]
  · rw [if_neg h, if_neg (fun q => h ((hb_eq n hn x).mp q))]
theorem isHere_eq {G : Gm} {w : Mw} {v : Mv} {a : Nat} (n : Nat) (hn : n < 32) : F_X2_isHere G w v a (nI n) = if bt (v a 2) n = true then 1 else 0 := by
  unfold F_X2_isHere K_X2_isHere_e
  by_cases h : bt (v a 2) n = true
  · rw [if_pos h, if_pos ((hb_eq n hn _).mpr h)]
  · rw [if_neg h, if_neg (fun q => h ((hb_eq n hn _).mp q))]
theorem b_set (n : Nat) (hn : n < 32) (x : Int32) {i : Nat} (hi : i < 32) : bt (x ||| (1 <<< (nI n &&& 31))) i = (bt x i || decide (i = n)) := by rw [b_or, b_one n hn hi]
theorem b_clr (n : Nat) (hn : n < 32) (x : Int32) {i : Nat} (hi : i < 32) : bt (x &&& ((1 <<< (nI n &&& 31)) ^^^ (-1))) i = (bt x i && !decide (i = n)) := by
  rw [b_and, b_xor, b_one n hn hi, b_m1 i hi, Bool.xor_true]
abbrev nn (x : Int32) : Nat := x.toInt.toNat
theorem nn_le {x : Int32} {n : Nat} (h : Bd x 0 n) : nn x ≤ n := by
  obtain ⟨h1, h2⟩ := h
  show x.toInt.toNat ≤ n
  omega
/-- n places of a row, as the reference has them from B on, each within bounds -/
def AR (n : Nat) (f g : Nat → Int32) (B : Nat) (lo hi : Int) : Prop := ∀ t, t < n → f t = g (B + t) ∧ Bd (f t) lo hi
theorem AR.congr {n : Nat} {f g f' g' : Nat → Int32} {B : Nat} {lo hi : Int} (h : AR n f g B lo hi) (hf : ∀ t, t < n → f' t = f t) (hg : ∀ t, t < n → g' (B + t) = g (B + t)) : AR n f' g' B lo hi := fun t ht => by
  rw [hf t ht, hg t ht]
  exact h t ht
theorem AR.push {n : Nat} {f g f' g' : Nat → Int32} {B : Nat} {lo hi : Int} {x : Int32} (h : AR n f g B lo hi) (hf : ∀ t, t < n → f' t = f t) (hg : ∀ t, t < n → g' (B + t) = g (B + t)) (hf1 : f' n = x) (hg1 : g' (B + n) = x) (hx : Bd x lo hi) : AR (n + 1) f' g' B lo hi := fun t ht => by
  rcases Nat.lt_or_ge t n with q | q
  · rw [hf t q, hg t q]
    exact h t q
  · have e : t = n := by omega
    rw [e, hf1, hg1]
    exact ⟨rfl, hx⟩
theorem AR.w {n : Nat} {f g : Nat → Int32} {B : Nat} {lo hi lo' hi' : Int} (h : AR n f g B lo hi) (h1 : lo' ≤ lo) (h2 : hi ≤ hi') : AR n f g B lo' hi' := fun t ht => ⟨(h t ht).1, (h t ht).2.w _ _ ⟨h1, h2⟩⟩
theorem AR.set {n k : Nat} {f g f' g' : Nat → Int32} {B : Nat} {lo hi : Int} {x : Int32} (h : AR n f g B lo hi) (hf : ∀ t, t < n → t ≠ k → f' t = f t) (hg : ∀ t, t < n → t ≠ k → g' (B + t) = g (B + t)) (hf1 : f' k = x) (hg1 : g' (B + k) = x) (hx : Bd x lo hi) : AR n f' g' B lo hi := fun t ht => by
  by_cases q : t = k
  · rw [q, hf1, hg1]
    exact ⟨rfl, hx⟩
  · rw [hf t ht q, hg t ht q]
    exact h t ht
/-- things and people of a world, as a row of the reference has them -/
def RB (G : Gm) (A : Nat) (c u : Mv) (a o : Nat) : Prop := (c a 0 = u A o ∧ c a 3 = u A (o + 1)) ∧ (Bd (c a 0) 0 7 ∧ Bd (c a 3) 0 7) ∧ AR (nn (c a 0)) (c (rf G a 1)) (u A) (o + 6) 0 5 ∧ AR (nn (c a 0)) (c (rf G a 2)) (u A) (o + 13) 1 30 ∧ AR (nn (c a 3)) (c (rf G a 4)) (u A) (o + 20) 0 5 ∧ AR (nn (c a 3)) (c (rf G a 5)) (u A) (o + 27) 1 9
/-- who is here is not lost; nobody is lost who has not come -/
def HB (n : Nat) (h l : Int32) : Prop := ∀ i, i < 7 → (i < n → bt h i = !bt l i) ∧ (n ≤ i → bt l i = false)
/-- the moment of a world -/
def RM (G : Gm) (A : Nat) (c u : Mv) (a o : Nat) : Prop := (c (rf G a 6) 3 = u A (o + 34) ∧ Bd (c (rf G a 6) 3) 0 999) ∧ HB (nn (c a 3)) (c (rf G a 6) 2) (u A (o + 35)) ∧ AR (nn (c a 3)) (c (rf G (rf G a 6) 0)) (u A) (o + 36) 0 99 ∧ AR (nn (c a 3)) (c (rf G (rf G a 6) 1)) (u A) (o + 43) (-1) ((c a 0).toInt - 1)
theorem ixl {A x : Int32} (a : Nat) (hA : A.toInt = a) (ha : a ≤ 1000) (hx : 0 ≤ x.toInt ∧ x.toInt ≤ 200) : Int32.toNatClampNeg (A + x) = a + x.toInt.toNat := by
  show (A + x).toInt.toNat = _
  rw [fb_addI (by omega) (by omega), hA]
  omega
section DR
variable {G : Gm} {w : Mw} {a a8 hi : Nat} {c u : Mv} {x y z : Int32}
theorem add738 (hn : Bd (u (rf G a8 1) 738) 0 6) : F_X8_add_738 G w u a8 x y = (u (rf G a8 1) 738, stv (stv (stv (stv u (rf G a8 1) (744 + nn (u (rf G a8 1) 738)) x) (rf G a8 1) (751 + nn (u (rf G a8 1) 738)) y) (rf G a8 1) 738 (u (rf G a8 1) 738 + 1)) (rf G a8 1) 743 0) := by
  have h : 0 ≤ (u (rf G a8 1) 738).toInt ∧ (u (rf G a8 1) 738).toInt ≤ 200 := ⟨hn.1, by have := hn.2; omega⟩
  unfold F_X8_add_738 K_X8_add_738_e
  rw [ixl 744 (by decide) (by decide) h, ixl 751 (by decide) (by decide) h, show Int32.toNatClampNeg (738 + 0) = 738 from by decide, show Int32.toNatClampNeg (738 + 5) = 743 from by decide]
theorem join738 (hn : Bd (u (rf G a8 1) 739) 0 6) : F_X8_join_738 G w u a8 x y z = (u (rf G a8 1) 739, stv (stv (stv (stv (stv (stv u (rf G a8 1) (758 + nn (u (rf G a8 1) 739)) x) (rf G a8 1) (765 + nn (u (rf G a8 1) 739)) y) (rf G a8 1) (774 + nn (u (rf G a8 1) 739)) z) (rf G a8 1) (781 + nn (u (rf G a8 1) 739)) (-1)) (rf G a8 1) 739 (u (rf G a8 1) 739 + 1)) (rf G a8 1) 743 0) := by
  have h : 0 ≤ (u (rf G a8 1) 739).toInt ∧ (u (rf G a8 1) 739).toInt ≤ 200 := ⟨hn.1, by have := hn.2; omega⟩
  unfold F_X8_join_738 K_X8_join_738_e
  rw [ixl 758 (by decide) (by decide) h, ixl 765 (by decide) (by decide) h, ixl 774 (by decide) (by decide) h, ixl 781 (by decide) (by decide) h, show Int32.toNatClampNeg (738 + 1) = 739 from by decide, show Int32.toNatClampNeg (738 + 5) = 743 from by decide]
theorem nn1 {x : Int32} (h : Bd x 0 6) : nn (x + 1) = nn x + 1 ∧ Bd (x + 1) 0 7 := by
  have e := i_add1 h (by decide) (by decide)
  obtain ⟨h1, h2⟩ := h
  exact ⟨by show (x + 1).toInt.toNat = _; rw [e]; show (x.toInt + 1).toNat = x.toInt.toNat + 1; omega, ⟨by rw [e]; omega, by rw [e]; omega⟩⟩
/-- a thing more -/
theorem thing_ok (C : Ch6 G a hi) (hB : RB G (rf G a8 1) c u a 738) (hM : RM G (rf G a8 1) c u a 738) (hn : Bd (c a 0) 0 6) (hx : Bd x 0 5) (hy : Bd y 1 30) : RB G (rf G a8 1) (F_X6_addThing G w c a x y).2 (F_X8_add_738 G w u a8 x y).2 a 738 ∧ RM G (rf G a8 1) (F_X6_addThing G w c a x y).2 (F_X8_add_738 G w u a8 x y).2 a 738 := by
  obtain ⟨⟨b1, b2⟩, ⟨b3, b4⟩, b5, b6, b7, b8⟩ := hB
  obtain ⟨⟨m1, m2⟩, m3, m4, m5⟩ := hM
  obtain ⟨k1, k2, k3, k4, k5, ⟨k6, k7⟩, -⟩ := C
  rw [add738 (by rw [← b1]; exact hn)]
  rw [← b1]
  unfold F_X6_addThing K_X6_addThing_e
  show RB G (rf G a8 1) (stv (stv (stv (stv c (rf G a 1) (nn (c a 0)) x) (rf G a 2) (nn (c a 0)) y) a 0 (c a 0 + 1)) a 8 0) (stv (stv (stv (stv u (rf G a8 1) (744 + nn (c a 0)) x) (rf G a8 1) (751 + nn (c a 0)) y) (rf G a8 1) 738 (c a 0 + 1)) (rf G a8 1) 743 0) a 738 ∧ RM G (rf G a8 1) (stv (stv (stv (stv c (rf G a 1) (nn (c a 0)) x) (rf G a 2) (nn (c a 0)) y) a 0 (c a 0 + 1)) a 8 0) (stv (stv (stv (stv u (rf G a8 1) (744 + nn (c a 0)) x) (rf G a8 1) (751 + nn (c a 0)) y) (rf G a8 1) 738 (c a 0 + 1)) (rf G a8 1) 743 0) a 738
  obtain ⟨n1, n2⟩ := nn1 hn
  have hN : nn (c a 0) ≤ 6 := nn_le hn
  have hO : nn (c a 3) ≤ 7 := nn_le b4
  generalize hN0 : nn (c a 0) = N at *
  have e0 : (stv (stv (stv (stv c (rf G a 1) N x) (rf G a 2) N y) a 0 (c a 0 + 1)) a 8 0) a 0 = c a 0 + 1 := by rw [stv_k (by decide), stv_s]
  have e3 : (stv (stv (stv (stv c (rf G a 1) N x) (rf G a 2) N y) a 0 (c a 0 + 1)) a 8 0) a 3 = c a 3 := by rw [stv_k (by decide), stv_k (by decide), stv_a (by omega), stv_a (by omega)]
  have f1 : ∀ t, t ≠ N → (stv (stv (stv (stv c (rf G a 1) N x) (rf G a 2) N y) a 0 (c a 0 + 1)) a 8 0) (rf G a 1) t = c (rf G a 1) t := fun t ht => by rw [stv_a (by omega), stv_a (by omega), stv_a (by omega), stv_k ht]
  have f1n : (stv (stv (stv (stv c (rf G a 1) N x) (rf G a 2) N y) a 0 (c a 0 + 1)) a 8 0) (rf G a 1) N = x := by rw [stv_a (by omega), stv_a (by omega), stv_a (by omega), stv_s]
  have f2 : ∀ t, t ≠ N → (stv (stv (stv (stv c (rf G a 1) N x) (rf G a 2) N y) a 0 (c a 0 + 1)) a 8 0) (rf G a 2) t = c (rf G a 2) t := fun t ht => by rw [stv_a (by omega), stv_a (by omega), stv_k ht, stv_a (by omega)]
  have f2n : (stv (stv (stv (stv c (rf G a 1) N x) (rf G a 2) N y) a 0 (c a 0 + 1)) a 8 0) (rf G a 2) N = y := by rw [stv_a (by omega), stv_a (by omega), stv_s]
  have fo : ∀ f, f ≠ rf G a 1 → f ≠ rf G a 2 → f ≠ a → (stv (stv (stv (stv c (rf G a 1) N x) (rf G a 2) N y) a 0 (c a 0 + 1)) a 8 0) f = c f := fun f h1 h2 h3 => by rw [stv_row h3, stv_row h3, stv_row h2, stv_row h1]
  have g : ∀ j, j ≠ 744 + N → j ≠ 751 + N → j ≠ 738 → j ≠ 743 → (stv (stv (stv (stv u (rf G a8 1) (744 + N) x) (rf G a8 1) (751 + N) y) (rf G a8 1) 738 (c a 0 + 1)) (rf G a8 1) 743 0) (rf G a8 1) j = u (rf G a8 1) j := fun j h1 h2 h3 h4 => by rw [stv_k h4, stv_k h3, stv_k h2, stv_k h1]
  have g8 : (stv (stv (stv (stv u (rf G a8 1) (744 + N) x) (rf G a8 1) (751 + N) y) (rf G a8 1) 738 (c a 0 + 1)) (rf G a8 1) 743 0) (rf G a8 1) 738 = c a 0 + 1 := by rw [stv_k (by decide), stv_s]
  have gx : (stv (stv (stv (stv u (rf G a8 1) (744 + N) x) (rf G a8 1) (751 + N) y) (rf G a8 1) 738 (c a 0 + 1)) (rf G a8 1) 743 0) (rf G a8 1) (744 + N) = x := by rw [stv_k (by omega), stv_k (by omega), stv_k (by omega), stv_s]
  have gy : (stv (stv (stv (stv u (rf G a8 1) (744 + N) x) (rf G a8 1) (751 + N) y) (rf G a8 1) 738 (c a 0 + 1)) (rf G a8 1) 743 0) (rf G a8 1) (751 + N) = y := by rw [stv_k (by omega), stv_k (by omega), stv_s]
  generalize (stv (stv (stv (stv c (rf G a 1) N x) (rf G a 2) N y) a 0 (c a 0 + 1)) a 8 0) = c' at *
  generalize (stv (stv (stv (stv u (rf G a8 1) (744 + N) x) (rf G a8 1) (751 + N) y) (rf G a8 1) 738 (c a 0 + 1)) (rf G a8 1) 743 0) = u' at *
  have r4 := fo (rf G a 4) (by omega) (by omega) (by omega)
  have r5 := fo (rf G a 5) (by omega) (by omega) (by omega)
  have r6 := fo (rf G a 6) (by omega) (by omega) (by omega)
  have r60 := fo (rf G (rf G a 6) 0) (by omega) (by omega) (by omega)
  have r61 := fo (rf G (rf G a 6) 1) (by omega) (by omega) (by omega)
  have ec : (c a 0 + 1).toInt = (c a 0).toInt + 1 := i_add1 hn (by decide) (by decide)
  unfold RB RM
  rw [e0, e3, n1, r4, r5, r6, r60, r61]
  refine ⟨⟨⟨g8.symm, by rw [b2, g 739 (by omega) (by omega) (by omega) (by omega)]⟩, ⟨n2, b4⟩, ?_, ?_, ?_, ?_⟩, ⟨⟨by rw [m1, g (738 + 34) (by omega) (by omega) (by omega) (by omega)], m2⟩, by rw [g (738 + 35) (by omega) (by omega) (by omega) (by omega)]; exact m3, ?_, ?_⟩⟩
  · exact b5.push (fun t ht => f1 t (by omega)) (fun t ht => g _ (by omega) (by omega) (by omega) (by omega)) f1n gx hx
  · exact b6.push (fun t ht => f2 t (by omega)) (fun t ht => g _ (by omega) (by omega) (by omega) (by omega)) f2n gy hy
  · exact b7.congr (fun t ht => rfl) (fun t ht => g _ (by omega) (by omega) (by omega) (by omega))
  · exact b8.congr (fun t ht => rfl) (fun t ht => g _ (by omega) (by omega) (by omega) (by omega))
  · exact m4.congr (fun t ht => rfl) (fun t ht => g _ (by omega) (by omega) (by omega) (by omega))
  · exact (m5.congr (fun t ht => rfl) (fun t ht => g _ (by omega) (by omega) (by omega) (by omega))).w (Int.le_refl _) (by rw [ec]; omega)
end DR
