/-! WHICH STRENGTHS FIT: class and reference alike (strong). A draft until NOTES.md says clean -/
section STR
variable {G : Gm} {w w' : Mw} {a a7 a8 ha h4 : Nat} {c u c1 u1 : Mv} {x y z r1 r2 : Int32}
theorem no_Seen (rec : Mv → Int32 → Int32 → Int32 → Int32) {x0 q k : Int32} {S : Nat} (hS : S ≤ 5) (e : u (rf G a8 1) 2 = nI S) : ∀ (n s : Nat), s ≤ S → S - s < n → K_X8_strengthsOf_16 G w' a8 rec n u x0 q k 0 (nI s) = K_X8_strengthsOf_142 G w' a8 rec u x0 k 0 q := by
  intro n
  induction n with
  | zero => intro s _ h; omega
  | succ n ih =>
    intro s hs hf
    rw [K_X8_strengthsOf_16, show Int32.toNatClampNeg 2 = 2 from by decide, e]
    by_cases q1 : nI S ≤ nI s
    · rw [if_pos q1, if_pos rfl]
    · have hlt : s < S := Nat.not_le.mp fun z => q1 ((nI_leI (by omega) (by omega)).mpr z)
      rw [if_neg q1]
      unfold K_X8_strengthsOf_75 K_X8_strengthsOf_120 K_X8_strengthsOf_121
      rw [if_pos rfl, if_pos rfl, nI_1]
      split <;> exact ih (s + 1) (by omega) (by omega)
theorem fit_Seen (rec : Mv → Int32 → Int32 → Int32 → Int32) {x0 q k : Int32} {S : Nat} (hk : Bd k 0 9) (hS : S ≤ 5) (e : u (rf G a8 1) 2 = nI S) (ec : c (rf G a 9) 2 = nI S) (hR : RR G (rf G a8 1) c u (rf G a 9) 2 50 5 (b9 (c a 3).toInt)) (hx : Bd (c (rf G a 4) (Int32.toNatClampNeg x0)) 0 5) (ex : u (rf G a8 1) (Int32.toNatClampNeg (20 + x0)) = c (rf G a 4) (Int32.toNatClampNeg x0)) : ∀ (n m s : Nat), s ≤ S → S - s < n → S - s < m → K_X8_strengthsOf_16 G w' a8 rec n u x0 q k 1 (nI s) = K_X8_strengthsOf_142 G w' a8 rec u x0 k (if K_X6_fitsSeen_2 G w a m c x0 k (nI s) = 0 then 0 else (1 : Int32) <<< (k &&& 31)) q := by
  intro n
  induction n with
  | zero => intro m s _ h; omega
  | succ n ih =>
    intro m s hs hf hf2
    match m, hf2 with
    | 0, hf2 => exact absurd hf2 (by omega)
    | m + 1, hf2 =>
      rw [K_X8_strengthsOf_16, K_X6_fitsSeen_2, ec, show Int32.toNatClampNeg 2 = 2 from by decide, e]
      by_cases q1 : nI S ≤ nI s
      · rw [if_pos q1, if_pos q1, if_neg (show ¬ (1 : Int32) = 0 by decide), if_neg (show ¬ (1 : Int32) = 0 by decide)]
      · have hlt : s < S := Nat.not_le.mp fun z => q1 ((nI_leI (by omega) (by omega)).mpr z)
        rw [if_neg q1, if_neg q1]
        have nS : nn (c (rf G a 9) 2) = S := by rw [ec]; exact nn_nI (by omega)
        obtain ⟨j0, j1⟩ := ixa (X := 50) 50 _ (by decide) (i4s (s := s) (by omega)) (by omega) (by omega)
        have t0 := hR.2 (4 * s) (by omega)
        have t1 := hR.2 (4 * s + 1) (by omega)
        have t2 := hR.2 (4 * s + 2) (by omega)
        have t3 := hR.2 (4 * s + 3) (by omega)
        rw [show (4 * s + 1) % 4 = 1 by omega] at t1
        rw [show (4 * s + 3) % 4 = 3 by omega] at t3
        have b1 := t1.2
        have b3 : Bd (c (rf G (rf G a 9) 1) (4 * s + 3)) 0 1 := t3.2
        unfold K_X8_strengthsOf_75 K_X8_strengthsOf_113 K_X8_strengthsOf_116 K_X8_strengthsOf_120 K_X8_strengthsOf_121 K_X6_fitsSeen_66 K_X6_fitsSeen_84
        rw [j0, (ixa (K := 1) _ 1 j1 (by decide) (by omega) (by omega)).1, (ixa (K := 2) _ 2 j1 (by decide) (by omega) (by omega)).1, (ixa (K := 3) _ 3 j1 (by decide) (by omega) (by omega)).1, cell5 (M := 0) 0 (by decide) (by omega) (by omega), cell5 (M := 1) 1 (by decide) (by omega) (by omega), cell5 (M := 2) 2 (by decide) (by omega) (by omega), cell5 (M := 3) 3 (by decide) (by omega) (by omega), Nat.add_assoc, Nat.add_assoc, Nat.add_assoc, Nat.add_zero (4 * s), ← t0.1, ← t1.1, ← t2.1, ← t3.1, nI_1, ex, ← leq (G := G) (w := w) (v := c) hx hk b1]
        have yes := ih m (s + 1) (by omega) (by omega) (by omega)
        have non := no_Seen (G := G) (w' := w') (a8 := a8) (u := u) rec (x0 := x0) (q := q) (k := k) hS e n (s + 1) (by omega) (by omega)
        have b01 : c (rf G (rf G a 9) 1) (4 * s + 3) = 0 ∨ c (rf G (rf G a 9) 1) (4 * s + 3) = 1 := by
          obtain ⟨l1, l2⟩ := b3
          rcases (show (c (rf G (rf G a 9) 1) (4 * s + 3)).toInt = 0 ∨ (c (rf G (rf G a 9) 1) (4 * s + 3)).toInt = 1 by omega) with z | z
          · exact Or.inl (i_eq (z.trans (by decide)))
          · exact Or.inr (i_eq (z.trans (by decide)))
        have n10 : ¬ (1 : Int32) = 0 := by decide
        have n01 : ¬ (0 : Int32) = 1 := by decide
        by_cases d2 : F_X5_oneLifts G w c (c (rf G a 4) (Int32.toNatClampNeg x0)) k (c (rf G (rf G a 9) 1) (4 * s + 1)) < c (rf G (rf G a 9) 1) (4 * s + 2)
        · rw [if_pos d2, if_neg n10]
          by_cases d1 : c (rf G (rf G a 9) 1) (4 * s) = x0
          · rw [if_pos d1, if_pos d1, if_pos d2]
            rcases b01 with z | z
            · rw [z, if_neg n01, if_pos rfl, if_pos rfl]; exact yes
            · rw [z, if_pos rfl, if_neg n01, if_neg n01, if_pos rfl]; exact non
          · rw [if_neg d1, if_neg d1]
            exact yes
        · rw [if_neg d2, if_neg n10]
          by_cases d1 : c (rf G (rf G a 9) 1) (4 * s) = x0
          · rw [if_pos d1, if_pos d1, if_neg d2]
            rcases b01 with z | z
            · rw [z, if_neg n01, if_neg n10, if_neg n10, if_pos rfl]; exact non
            · rw [z, if_pos rfl, if_pos rfl, if_pos rfl]; exact yes
          · rw [if_neg d1, if_neg d1]
            exact yes
theorem str_Seen {x0 : Int32} {S : Nat} (hS : S ≤ 5) (e : u (rf G a8 1) 2 = nI S) (ec : c (rf G a 9) 2 = nI S) (hR : RR G (rf G a8 1) c u (rf G a 9) 2 50 5 (b9 (c a 3).toInt)) (hx : Bd (c (rf G a 4) (Int32.toNatClampNeg x0)) 0 5) (ex : u (rf G a8 1) (Int32.toNatClampNeg (20 + x0)) = c (rf G a 4) (Int32.toNatClampNeg x0)) : ∀ (n k : Nat) (q : Int32), 1 ≤ k → k ≤ 10 → 10 - k < n → Bd q 0 1023 → bt q 0 = false → K_X6_fittingStrengths_4 G w a n c x0 q (nI k) = K_X8_strengthsOf_4 G w' a8 n u x0 q (nI k) ∧ Bd (K_X6_fittingStrengths_4 G w a n c x0 q (nI k)) 0 1023 ∧ bt (K_X6_fittingStrengths_4 G w a n c x0 q (nI k)) 0 = false := by
  intro n
  induction n with
  | zero => intro k q _ _ h; omega
  | succ n ih =>
    intro k q hk1 hk hf hq hq0
    rw [K_X6_fittingStrengths_4, K_X8_strengthsOf_4]
    have e9 : (9 : Int32).toInt = 9 := by decide
    by_cases c9 : (9 : Int32) < nI k
    · rw [if_pos c9, if_pos c9]
      exact ⟨rfl, hq, hq0⟩
    · have hlt : k ≤ 9 := Nat.not_lt.mp fun z => c9 (i_lt.mpr (by rw [nI_toInt (by omega), e9]; omega))
      have hb : Bd (nI k) 0 9 := ⟨by rw [nI_toInt (by omega)]; omega, by rw [nI_toInt (by omega)]; omega⟩
      rw [if_neg c9, if_neg c9]
      have ff := fit_Seen (w := w) (w' := w') (K_X8_strengthsOf_4 G w' a8 n) (x0 := x0) (q := q) hb hS e ec hR hx ex 6 6 0 (by omega) (by omega) (by omega)
      have ff : K_X8_strengthsOf_16 G w' a8 (K_X8_strengthsOf_4 G w' a8 n) 6 u x0 q (nI k) 1 0 = _ := ff
      rw [ff]
      have ef : F_X6_fitsSeen G w c a x0 (nI k) = K_X6_fitsSeen_2 G w a 6 c x0 (nI k) (nI 0) := rfl
      rw [ef]
      unfold K_X6_fittingStrengths_25 K_X8_strengthsOf_142
      rw [nI_1]
      by_cases d : K_X6_fitsSeen_2 G w a 6 c x0 (nI k) (nI 0) = 0
      · rw [if_pos d, if_pos d, or0]
        exact ih (k + 1) q (by omega) (by omega) (by omega) hq hq0
      · rw [if_neg d, if_neg d]
        have g1 : Bd (q ||| ((1 : Int32) <<< (nI k &&& 31))) 0 1023 := Bd.or rfl hq (Bd.shl1 rfl hb 9 (by omega)) 10 (by omega)
        have g2 : bt (q ||| ((1 : Int32) <<< (nI k &&& 31))) 0 = false := by rw [b_set k (by omega) q (by omega), hq0, Bool.false_or, decide_eq_false (by omega)]
        exact ih (k + 1) _ (by omega) (by omega) (by omega) g1 g2
theorem cell_of {n X : Int32} {f g : Nat → Int32} {B : Nat} {lo hi : Int} (q : AR (nn n) f g B lo hi) (hn : Bd n 0 7) (hx : Bd x 0 (n.toInt - 1)) (hX : X.toInt = B) (hB : B ≤ 900) : g (Int32.toNatClampNeg (X + x)) = f (Int32.toNatClampNeg x) ∧ Bd (f (Int32.toNatClampNeg x)) lo hi := by
  obtain ⟨x1, x2⟩ := hx
  obtain ⟨n1, n2⟩ := hn
  have k : nn x < nn n := by show x.toInt.toNat < n.toInt.toNat; omega
  obtain ⟨t1, t2⟩ := q (nn x) k
  have i := (ixa (X := X) (K := x) B (nn x) hX (by show x.toInt = ((x.toInt.toNat : Nat) : Int); omega) (by omega) (by show x.toInt.toNat ≤ 1000; omega)).1
  rw [i]
  exact ⟨t1.symm, t2⟩
/-- the strengths that fit are the same, 1 to 9 -/
theorem set_strong (h : RX G a7 a8 c u) (hx : Bd x 0 ((c (rf G a7 0) 3).toInt - 1)) : F_X6_fittingStrengths G w c (rf G a7 0) x = F_X8_strengthsOf G w' u a8 x ∧ Bd (F_X6_fittingStrengths G w c (rf G a7 0) x) 0 1023 ∧ bt (F_X6_fittingStrengths G w c (rf G a7 0) x) 0 = false := by
  have hr := h.1.2.1
  obtain ⟨S, hS, eS⟩ := bd_nI (n := 5) hr.1.2
  have eU : u (rf G a8 1) 2 = nI S := hr.1.1.symm.trans eS
  obtain ⟨k1, k2⟩ := cell_of (X := 20) h.1.1.2.2.2.2.1 h.1.1.2.1.2 hx (by decide) (by omega)
  exact str_Seen (w := w) (w' := w') (x0 := x) hS eU eS hr k2 k1 10 1 0 (by omega) (by omega) (by omega) ⟨by decide, by decide⟩ (b_0 0)
section ANY
variable {G' : Gm} {v v' : Mv} {h0 h0' : Nat}
theorem lb_any : ∀ (n : Nat) (s k : Int32), K_X7_leastBit_2 G w n v s k = K_X7_leastBit_2 G' w' n v' s k := by
  intro n
  induction n with
  | zero => intro s k; rfl
  | succ n ih => intro s k; rw [K_X7_leastBit_2, K_X7_leastBit_2, ih]
theorem gb_any : ∀ (n : Nat) (s k : Int32), K_X7_greatestBit_3 G w n v s k = K_X7_greatestBit_3 G' w' n v' s k := by
  intro n
  induction n with
  | zero => intro s k; rfl
  | succ n ih => intro s k; rw [K_X7_greatestBit_3, K_X7_greatestBit_3, ih]
theorem bo_any : ∀ (n : Nat) (s m k : Int32), K_X8_bitsOf_4 G w n v s m k = K_X8_bitsOf_4 G' w' n v' s m k := by
  intro n
  induction n with
  | zero => intro s m k; rfl
  | succ n ih => intro s m k; rw [K_X8_bitsOf_4, K_X8_bitsOf_4, ih]
theorem lbF {s : Int32} : F_X7_leastBit G w v s = F_X7_leastBit G' w' v' s := by
  unfold F_X7_leastBit K_X7_leastBit_e
  exact lb_any 11 s 0
theorem gbF {s : Int32} : F_X7_greatestBit G w v s = F_X7_greatestBit G' w' v' s := by
  unfold F_X7_greatestBit K_X7_greatestBit_e
  exact gb_any 11 s 9
theorem boF {s : Int32} : F_X8_bitsOf G w v s = F_X8_bitsOf G' w' v' s := by
  unfold F_X8_bitsOf K_X8_bitsOf_e
  exact bo_any 11 s 0 0
theorem st_any : ∀ (n : Nat) (t s m q k : Int32), (K_X8_strong_37 G w h0 n v t s m q k).1 = (K_X8_strong_37 G' w' h0' n v' t s m q k).1 := by
  intro n
  induction n with
  | zero => intro t s m q k; rfl
  | succ n ih =>
    intro t s m q k
    rw [K_X8_strong_37, K_X8_strong_37]
    unfold K_X8_strong_64 K_X8_strong_66 K_X8_strong_84
    have hh : F_X8_has G w v s k = F_X8_has G' w' v' s k := rfl
    have hb : F_X8_bitsOf G w v s = F_X8_bitsOf G' w' v' s := boF
    rw [hh, hb]
    by_cases c1 : (9 : Int32) < k
    · rw [if_pos c1, if_pos c1]
      by_cases c2 : t = 0
      · rw [if_pos c2, if_pos c2]
      · rw [if_neg c2, if_neg c2]
        by_cases c3 : t = 1
        · rw [if_pos c3, if_pos c3]
        · rw [if_neg c3, if_neg c3]
    · rw [if_neg c1, if_neg c1]
      by_cases c2 : F_X8_has G' w' v' s k = 0
      · simp only [if_pos c2]
        exact ih _ _ _ _ _
      · simp only [if_neg c2]
        by_cases c3 : m = -1
        · simp only [if_pos c3]
          exact ih _ _ _ _ _
        · simp only [if_neg c3]
          exact ih _ _ _ _ _
end ANY
def strT : Bool := (List.range 512).all fun m => decide (F_J6_bitCount_0f7a4 (fun _ => none) wz vz (nI (2 * m)) = (K_X8_strong_37 (fun _ => none) wz 0 10 vz 0 (nI (2 * m)) (-1) (-1) 1).1) && (decide (F_X7_leastBit (fun _ => none) wz vz (nI (2 * m)) = (K_X8_strong_37 (fun _ => none) wz 0 10 vz 1 (nI (2 * m)) (-1) (-1) 1).1) && decide (F_X7_greatestBit (fun _ => none) wz vz (nI (2 * m)) = (K_X8_strong_37 (fun _ => none) wz 0 10 vz 2 (nI (2 * m)) (-1) (-1) 1).1))
set_option maxRecDepth 100000 in
theorem strT_ok : strT = true := by decide +kernel
def evT : Bool := (List.range 512).all fun m => decide (bt (nI (2 * m + 1)) 0 = true)
set_option maxRecDepth 100000 in
theorem evT_ok : evT = true := by decide +kernel
theorem even_of {s : Int32} (hb : Bd s 0 1023) (h0 : bt s 0 = false) : ∃ m : Nat, m < 512 ∧ s = nI (2 * m) := by
  obtain ⟨k, k1, rfl⟩ := bd_nI (n := 1023) hb
  rcases Nat.mod_two_eq_zero_or_one k with z | z
  · exact ⟨k / 2, by omega, by rw [show 2 * (k / 2) = k by omega]⟩
  · have h := evT_ok
    unfold evT at h
    have h1 := of_decide_eq_true (List.all_eq_true.mp h (k / 2) (List.mem_range.mpr (by omega)))
    rw [show 2 * (k / 2) + 1 = k by omega, h0] at h1
    exact absurd h1 (by decide)
theorem strT_of {s : Int32} (hb : Bd s 0 1023) (h0 : bt s 0 = false) : F_J6_bitCount_0f7a4 G w c s = (K_X8_strong_37 G w' a8 10 u 0 s (-1) (-1) 1).1 ∧ F_X7_leastBit G w c s = (K_X8_strong_37 G w' a8 10 u 1 s (-1) (-1) 1).1 ∧ F_X7_greatestBit G w c s = (K_X8_strong_37 G w' a8 10 u 2 s (-1) (-1) 1).1 := by
  obtain ⟨m, m1, rfl⟩ := even_of hb h0
  have h := strT_ok
  unfold strT at h
  have h1 := List.all_eq_true.mp h m (List.mem_range.mpr m1)
  obtain ⟨h2, h3⟩ := Bool.and_eq_true_iff.mp h1
  obtain ⟨h4, h5⟩ := Bool.and_eq_true_iff.mp h3
  refine ⟨?_, ?_, ?_⟩
  · exact (of_decide_eq_true h2).trans (st_any 10 _ _ _ _ _)
  · exact lbF.trans ((of_decide_eq_true h4).trans (st_any 10 _ _ _ _ _))
  · exact gbF.trans ((of_decide_eq_true h5).trans (st_any 10 _ _ _ _ _))
theorem m_strong (S7 : S_X7 G a7) (S8 : S_X8 G a8) (h : RX G a7 a8 c u) (e1 : (r1, c1) = F_X7_strong G w c a7 x y) (e2 : (r2, u1) = F_X8_strong G w' u a8 x y) : r1 = r2 := by
  unfold F_X7_strong K_X7_strong_e K_X7_strong_20 K_X7_strong_c1 F_X7_bad K_X7_bad_e F_X6_hasOne K_X6_hasOne_e at e1
  unfold F_X8_strong K_X8_strong_e K_X8_strong_17 K_X8_strong_c1 F_X8_bad K_X8_bad_e F_X8_isOne K_X8_isOne_e at e2
  have t0 : c (rf G a7 0) 3 = u (rf G a8 1) (Int32.toNatClampNeg 1) := h.1.1.1.2
  have tb := h.1.1.2.1.2
  rw [← t0] at e2
  have d1 : (F_X8_in G w' u x 0 (c (rf G a7 0) 3 - 1) = 0) ↔ ((if x < 0 then (0 : Int32) else if c (rf G a7 0) 3 ≤ x then 0 else 1) = 0) := by
    rw [in8 (G' := G) (w' := w) (v' := c), isW0, hs_in tb]
  by_cases q : (if x < 0 then (0 : Int32) else if c (rf G a7 0) 3 ≤ x then 0 else 1) = 0
  · rw [if_pos q] at e1
    rw [if_pos (d1.mpr q)] at e2
    exact (Prod.mk.inj e1).1.trans (Prod.mk.inj e2).1.symm
  rw [if_neg q] at e1
  rw [if_neg (fun z => q (d1.mp z))] at e2
  have i1 : F_X8_in G w' u y 0 2 = F_X7_isWithin G w c y 0 2 := in8
  rw [i1] at e2
  by_cases d2 : F_X7_isWithin G w c y 0 2 = 0
  · rw [if_pos d2] at e1 e2
    exact (Prod.mk.inj e1).1.trans (Prod.mk.inj e2).1.symm
  rw [if_neg d2] at e1 e2
  have hy : Bd y 0 2 := inW (lo := 0) (hi := 2) d2 (by decide) (by decide)
  obtain ⟨s1, s2, s3⟩ := set_strong (w := w) (w' := w') h (hs_bd tb q)
  rw [← s1] at e2
  obtain ⟨g1, g2, g3⟩ := strT_of (G := G) (w := w) (w' := w') (c := c) (u := u) (a8 := a8) s2 s3
  have e2' := congrArg Prod.fst e2
  have n10 : ¬ (1 : Int32) = 0 := by decide
  have n20 : ¬ (2 : Int32) = 0 := by decide
  have n21 : ¬ (2 : Int32) = 1 := by decide
  obtain ⟨y1, y2⟩ := hy
  rcases (show y.toInt = 0 ∨ y.toInt = 1 ∨ y.toInt = 2 by omega) with z | z | z
  · have ey : y = 0 := i_eq (z.trans (by decide))
    subst ey
    rw [if_pos rfl] at e1
    exact (Prod.mk.inj e1).1.trans (g1.trans e2'.symm)
  · have ey : y = 1 := i_eq (z.trans (by decide))
    subst ey
    rw [if_neg n10, if_pos rfl] at e1
    exact (Prod.mk.inj e1).1.trans (g2.trans e2'.symm)
  · have ey : y = 2 := i_eq (z.trans (by decide))
    subst ey
    rw [if_neg n20, if_neg n21] at e1
    exact (Prod.mk.inj e1).1.trans (g3.trans e2'.symm)
end STR
