section WD
variable {G : Gm} {w : Mw} {rd a8 : Nat} {c u : Mv}
def PQ0 (G : Gm) (rd : Nat) (c : Mv) : Prop := c rd 2 - c rd 4 = 6 ∧ c (rf G rd 0) (Int32.toNatClampNeg (c rd 4 + 0)) = 112 ∧ c (rf G rd 0) (Int32.toNatClampNeg (c rd 4 + 1)) = 101 ∧ c (rf G rd 0) (Int32.toNatClampNeg (c rd 4 + 2)) = 111 ∧ c (rf G rd 0) (Int32.toNatClampNeg (c rd 4 + 3)) = 112 ∧ c (rf G rd 0) (Int32.toNatClampNeg (c rd 4 + 4)) = 108 ∧ c (rf G rd 0) (Int32.toNatClampNeg (c rd 4 + 5)) = 101
def PE0 (G : Gm) (a8 : Nat) (u : Mv) : Prop := u a8 6 - u a8 7 = 6 ∧ u (rf G a8 4) (Int32.toNatClampNeg (u a8 7)) = 112 ∧ u (rf G a8 4) (Int32.toNatClampNeg (u a8 7 + 1)) = 101 ∧ u (rf G a8 4) (Int32.toNatClampNeg (u a8 7 + 2)) = 111 ∧ u (rf G a8 4) (Int32.toNatClampNeg (u a8 7 + 3)) = 112 ∧ u (rf G a8 4) (Int32.toNatClampNeg (u a8 7 + 4)) = 108 ∧ u (rf G a8 4) (Int32.toNatClampNeg (u a8 7 + 5)) = 101
theorem iwu_0 : K_X3_isWord_28 G w c rd 0 7 0 = (if c (rf G rd 0) (Int32.toNatClampNeg (c rd 4 + 0)) = 112 then (if c (rf G rd 0) (Int32.toNatClampNeg (c rd 4 + 1)) = 101 then (if c (rf G rd 0) (Int32.toNatClampNeg (c rd 4 + 2)) = 111 then (if c (rf G rd 0) (Int32.toNatClampNeg (c rd 4 + 3)) = 112 then (if c (rf G rd 0) (Int32.toNatClampNeg (c rd 4 + 4)) = 108 then (if c (rf G rd 0) (Int32.toNatClampNeg (c rd 4 + 5)) = 101 then 1 else 0) else 0) else 0) else 0) else 0) else 0) := by
  rw [K_X3_isWord_28, if_neg (show ¬ nI (sLen.getD 0 0) ≤ (0 : Int32) from by decide), show sCh 0 0 = 112 from by decide, show (0 + 1 : Int32) = 1 from by decide]
  rw [K_X3_isWord_28, if_neg (show ¬ nI (sLen.getD 0 0) ≤ (1 : Int32) from by decide), show sCh 0 1 = 101 from by decide, show (1 + 1 : Int32) = 2 from by decide]
  rw [K_X3_isWord_28, if_neg (show ¬ nI (sLen.getD 0 0) ≤ (2 : Int32) from by decide), show sCh 0 2 = 111 from by decide, show (2 + 1 : Int32) = 3 from by decide]
  rw [K_X3_isWord_28, if_neg (show ¬ nI (sLen.getD 0 0) ≤ (3 : Int32) from by decide), show sCh 0 3 = 112 from by decide, show (3 + 1 : Int32) = 4 from by decide]
  rw [K_X3_isWord_28, if_neg (show ¬ nI (sLen.getD 0 0) ≤ (4 : Int32) from by decide), show sCh 0 4 = 108 from by decide, show (4 + 1 : Int32) = 5 from by decide]
  rw [K_X3_isWord_28, if_neg (show ¬ nI (sLen.getD 0 0) ≤ (5 : Int32) from by decide), show sCh 0 5 = 101 from by decide, show (5 + 1 : Int32) = 6 from by decide]
  rw [K_X3_isWord_28, if_pos (show nI (sLen.getD 0 0) ≤ (6 : Int32) from by decide)]
theorem iw_0 (h1 : c rd 3 = 1) : (PQ0 G rd c → F_X3_isWord G w c rd 0 = 1) ∧ (¬ PQ0 G rd c → F_X3_isWord G w c rd 0 = 0) := by
  unfold F_X3_isWord PQ0
  rw [if_pos h1, iwu_0, show nI (sLen.getD 0 0) = 6 from by decide]
  constructor
  · rintro ⟨h2, k0, k1, k2, k3, k4, k5⟩
    rw [if_pos h2, if_pos k0, if_pos k1, if_pos k2, if_pos k3, if_pos k4, if_pos k5]
  · intro h
    by_cases h2 : c rd 2 - c rd 4 = 6
    · rw [if_pos h2]
      by_cases k0 : c (rf G rd 0) (Int32.toNatClampNeg (c rd 4 + 0)) = 112
      · rw [if_pos k0]
        by_cases k1 : c (rf G rd 0) (Int32.toNatClampNeg (c rd 4 + 1)) = 101
        · rw [if_pos k1]
          by_cases k2 : c (rf G rd 0) (Int32.toNatClampNeg (c rd 4 + 2)) = 111
          · rw [if_pos k2]
            by_cases k3 : c (rf G rd 0) (Int32.toNatClampNeg (c rd 4 + 3)) = 112
            · rw [if_pos k3]
              by_cases k4 : c (rf G rd 0) (Int32.toNatClampNeg (c rd 4 + 4)) = 108
              · rw [if_pos k4]
                by_cases k5 : c (rf G rd 0) (Int32.toNatClampNeg (c rd 4 + 5)) = 101
                · rw [if_pos k5]
                  exact absurd ⟨h2, k0, k1, k2, k3, k4, k5⟩ h
                · rw [if_neg k5]
              · rw [if_neg k4]
            · rw [if_neg k3]
          · rw [if_neg k2]
        · rw [if_neg k1]
      · rw [if_neg k0]
    · rw [if_neg h2]
def PQ1 (G : Gm) (rd : Nat) (c : Mv) : Prop := c rd 2 - c rd 4 = 5 ∧ c (rf G rd 0) (Int32.toNatClampNeg (c rd 4 + 0)) = 116 ∧ c (rf G rd 0) (Int32.toNatClampNeg (c rd 4 + 1)) = 104 ∧ c (rf G rd 0) (Int32.toNatClampNeg (c rd 4 + 2)) = 105 ∧ c (rf G rd 0) (Int32.toNatClampNeg (c rd 4 + 3)) = 110 ∧ c (rf G rd 0) (Int32.toNatClampNeg (c rd 4 + 4)) = 103
def PE1 (G : Gm) (a8 : Nat) (u : Mv) : Prop := u a8 6 - u a8 7 = 5 ∧ u (rf G a8 4) (Int32.toNatClampNeg (u a8 7)) = 116 ∧ u (rf G a8 4) (Int32.toNatClampNeg (u a8 7 + 1)) = 104 ∧ u (rf G a8 4) (Int32.toNatClampNeg (u a8 7 + 2)) = 105 ∧ u (rf G a8 4) (Int32.toNatClampNeg (u a8 7 + 3)) = 110 ∧ u (rf G a8 4) (Int32.toNatClampNeg (u a8 7 + 4)) = 103
theorem iwu_1 : K_X3_isWord_28 G w c rd 1 7 0 = (if c (rf G rd 0) (Int32.toNatClampNeg (c rd 4 + 0)) = 116 then (if c (rf G rd 0) (Int32.toNatClampNeg (c rd 4 + 1)) = 104 then (if c (rf G rd 0) (Int32.toNatClampNeg (c rd 4 + 2)) = 105 then (if c (rf G rd 0) (Int32.toNatClampNeg (c rd 4 + 3)) = 110 then (if c (rf G rd 0) (Int32.toNatClampNeg (c rd 4 + 4)) = 103 then 1 else 0) else 0) else 0) else 0) else 0) := by
  rw [K_X3_isWord_28, if_neg (show ¬ nI (sLen.getD 1 0) ≤ (0 : Int32) from by decide), show sCh 1 0 = 116 from by decide, show (0 + 1 : Int32) = 1 from by decide]
  rw [K_X3_isWord_28, if_neg (show ¬ nI (sLen.getD 1 0) ≤ (1 : Int32) from by decide), show sCh 1 1 = 104 from by decide, show (1 + 1 : Int32) = 2 from by decide]
  rw [K_X3_isWord_28, if_neg (show ¬ nI (sLen.getD 1 0) ≤ (2 : Int32) from by decide), show sCh 1 2 = 105 from by decide, show (2 + 1 : Int32) = 3 from by decide]
  rw [K_X3_isWord_28, if_neg (show ¬ nI (sLen.getD 1 0) ≤ (3 : Int32) from by decide), show sCh 1 3 = 110 from by decide, show (3 + 1 : Int32) = 4 from by decide]
  rw [K_X3_isWord_28, if_neg (show ¬ nI (sLen.getD 1 0) ≤ (4 : Int32) from by decide), show sCh 1 4 = 103 from by decide, show (4 + 1 : Int32) = 5 from by decide]
  rw [K_X3_isWord_28, if_pos (show nI (sLen.getD 1 0) ≤ (5 : Int32) from by decide)]
theorem iw_1 (h1 : c rd 3 = 1) : (PQ1 G rd c → F_X3_isWord G w c rd 1 = 1) ∧ (¬ PQ1 G rd c → F_X3_isWord G w c rd 1 = 0) := by
  unfold F_X3_isWord PQ1
  rw [if_pos h1, iwu_1, show nI (sLen.getD 1 0) = 5 from by decide]
  constructor
  · rintro ⟨h2, k0, k1, k2, k3, k4⟩
    rw [if_pos h2, if_pos k0, if_pos k1, if_pos k2, if_pos k3, if_pos k4]
  · intro h
    by_cases h2 : c rd 2 - c rd 4 = 5
    · rw [if_pos h2]
      by_cases k0 : c (rf G rd 0) (Int32.toNatClampNeg (c rd 4 + 0)) = 116
      · rw [if_pos k0]
        by_cases k1 : c (rf G rd 0) (Int32.toNatClampNeg (c rd 4 + 1)) = 104
        · rw [if_pos k1]
          by_cases k2 : c (rf G rd 0) (Int32.toNatClampNeg (c rd 4 + 2)) = 105
          · rw [if_pos k2]
            by_cases k3 : c (rf G rd 0) (Int32.toNatClampNeg (c rd 4 + 3)) = 110
            · rw [if_pos k3]
              by_cases k4 : c (rf G rd 0) (Int32.toNatClampNeg (c rd 4 + 4)) = 103
              · rw [if_pos k4]
                exact absurd ⟨h2, k0, k1, k2, k3, k4⟩ h
              · rw [if_neg k4]
            · rw [if_neg k3]
          · rw [if_neg k2]
        · rw [if_neg k1]
      · rw [if_neg k0]
    · rw [if_neg h2]
def PQ2 (G : Gm) (rd : Nat) (c : Mv) : Prop := c rd 2 - c rd 4 = 3 ∧ c (rf G rd 0) (Int32.toNatClampNeg (c rd 4 + 0)) = 111 ∧ c (rf G rd 0) (Int32.toNatClampNeg (c rd 4 + 1)) = 110 ∧ c (rf G rd 0) (Int32.toNatClampNeg (c rd 4 + 2)) = 101
def PE2 (G : Gm) (a8 : Nat) (u : Mv) : Prop := u a8 6 - u a8 7 = 3 ∧ u (rf G a8 4) (Int32.toNatClampNeg (u a8 7)) = 111 ∧ u (rf G a8 4) (Int32.toNatClampNeg (u a8 7 + 1)) = 110 ∧ u (rf G a8 4) (Int32.toNatClampNeg (u a8 7 + 2)) = 101
theorem iwu_2 : K_X3_isWord_28 G w c rd 2 7 0 = (if c (rf G rd 0) (Int32.toNatClampNeg (c rd 4 + 0)) = 111 then (if c (rf G rd 0) (Int32.toNatClampNeg (c rd 4 + 1)) = 110 then (if c (rf G rd 0) (Int32.toNatClampNeg (c rd 4 + 2)) = 101 then 1 else 0) else 0) else 0) := by
  rw [K_X3_isWord_28, if_neg (show ¬ nI (sLen.getD 2 0) ≤ (0 : Int32) from by decide), show sCh 2 0 = 111 from by decide, show (0 + 1 : Int32) = 1 from by decide]
  rw [K_X3_isWord_28, if_neg (show ¬ nI (sLen.getD 2 0) ≤ (1 : Int32) from by decide), show sCh 2 1 = 110 from by decide, show (1 + 1 : Int32) = 2 from by decide]
  rw [K_X3_isWord_28, if_neg (show ¬ nI (sLen.getD 2 0) ≤ (2 : Int32) from by decide), show sCh 2 2 = 101 from by decide, show (2 + 1 : Int32) = 3 from by decide]
  rw [K_X3_isWord_28, if_pos (show nI (sLen.getD 2 0) ≤ (3 : Int32) from by decide)]
theorem iw_2 (h1 : c rd 3 = 1) : (PQ2 G rd c → F_X3_isWord G w c rd 2 = 1) ∧ (¬ PQ2 G rd c → F_X3_isWord G w c rd 2 = 0) := by
  unfold F_X3_isWord PQ2
  rw [if_pos h1, iwu_2, show nI (sLen.getD 2 0) = 3 from by decide]
  constructor
  · rintro ⟨h2, k0, k1, k2⟩
    rw [if_pos h2, if_pos k0, if_pos k1, if_pos k2]
  · intro h
    by_cases h2 : c rd 2 - c rd 4 = 3
    · rw [if_pos h2]
      by_cases k0 : c (rf G rd 0) (Int32.toNatClampNeg (c rd 4 + 0)) = 111
      · rw [if_pos k0]
        by_cases k1 : c (rf G rd 0) (Int32.toNatClampNeg (c rd 4 + 1)) = 110
        · rw [if_pos k1]
          by_cases k2 : c (rf G rd 0) (Int32.toNatClampNeg (c rd 4 + 2)) = 101
          · rw [if_pos k2]
            exact absurd ⟨h2, k0, k1, k2⟩ h
          · rw [if_neg k2]
        · rw [if_neg k1]
      · rw [if_neg k0]
    · rw [if_neg h2]
def PQ3 (G : Gm) (rd : Nat) (c : Mv) : Prop := c rd 2 - c rd 4 = 3 ∧ c (rf G rd 0) (Int32.toNatClampNeg (c rd 4 + 0)) = 111 ∧ c (rf G rd 0) (Int32.toNatClampNeg (c rd 4 + 1)) = 119 ∧ c (rf G rd 0) (Int32.toNatClampNeg (c rd 4 + 2)) = 110
def PE3 (G : Gm) (a8 : Nat) (u : Mv) : Prop := u a8 6 - u a8 7 = 3 ∧ u (rf G a8 4) (Int32.toNatClampNeg (u a8 7)) = 111 ∧ u (rf G a8 4) (Int32.toNatClampNeg (u a8 7 + 1)) = 119 ∧ u (rf G a8 4) (Int32.toNatClampNeg (u a8 7 + 2)) = 110
theorem iwu_3 : K_X3_isWord_28 G w c rd 3 7 0 = (if c (rf G rd 0) (Int32.toNatClampNeg (c rd 4 + 0)) = 111 then (if c (rf G rd 0) (Int32.toNatClampNeg (c rd 4 + 1)) = 119 then (if c (rf G rd 0) (Int32.toNatClampNeg (c rd 4 + 2)) = 110 then 1 else 0) else 0) else 0) := by
  rw [K_X3_isWord_28, if_neg (show ¬ nI (sLen.getD 3 0) ≤ (0 : Int32) from by decide), show sCh 3 0 = 111 from by decide, show (0 + 1 : Int32) = 1 from by decide]
  rw [K_X3_isWord_28, if_neg (show ¬ nI (sLen.getD 3 0) ≤ (1 : Int32) from by decide), show sCh 3 1 = 119 from by decide, show (1 + 1 : Int32) = 2 from by decide]
  rw [K_X3_isWord_28, if_neg (show ¬ nI (sLen.getD 3 0) ≤ (2 : Int32) from by decide), show sCh 3 2 = 110 from by decide, show (2 + 1 : Int32) = 3 from by decide]
  rw [K_X3_isWord_28, if_pos (show nI (sLen.getD 3 0) ≤ (3 : Int32) from by decide)]
theorem iw_3 (h1 : c rd 3 = 1) : (PQ3 G rd c → F_X3_isWord G w c rd 3 = 1) ∧ (¬ PQ3 G rd c → F_X3_isWord G w c rd 3 = 0) := by
  unfold F_X3_isWord PQ3
  rw [if_pos h1, iwu_3, show nI (sLen.getD 3 0) = 3 from by decide]
  constructor
  · rintro ⟨h2, k0, k1, k2⟩
    rw [if_pos h2, if_pos k0, if_pos k1, if_pos k2]
  · intro h
    by_cases h2 : c rd 2 - c rd 4 = 3
    · rw [if_pos h2]
      by_cases k0 : c (rf G rd 0) (Int32.toNatClampNeg (c rd 4 + 0)) = 111
      · rw [if_pos k0]
        by_cases k1 : c (rf G rd 0) (Int32.toNatClampNeg (c rd 4 + 1)) = 119
        · rw [if_pos k1]
          by_cases k2 : c (rf G rd 0) (Int32.toNatClampNeg (c rd 4 + 2)) = 110
          · rw [if_pos k2]
            exact absurd ⟨h2, k0, k1, k2⟩ h
          · rw [if_neg k2]
        · rw [if_neg k1]
      · rw [if_neg k0]
    · rw [if_neg h2]
def PQ4 (G : Gm) (rd : Nat) (c : Mv) : Prop := c rd 2 - c rd 4 = 5 ∧ c (rf G rd 0) (Int32.toNatClampNeg (c rd 4 + 0)) = 108 ∧ c (rf G rd 0) (Int32.toNatClampNeg (c rd 4 + 1)) = 101 ∧ c (rf G rd 0) (Int32.toNatClampNeg (c rd 4 + 2)) = 97 ∧ c (rf G rd 0) (Int32.toNatClampNeg (c rd 4 + 3)) = 118 ∧ c (rf G rd 0) (Int32.toNatClampNeg (c rd 4 + 4)) = 101
def PE4 (G : Gm) (a8 : Nat) (u : Mv) : Prop := u a8 6 - u a8 7 = 5 ∧ u (rf G a8 4) (Int32.toNatClampNeg (u a8 7)) = 108 ∧ u (rf G a8 4) (Int32.toNatClampNeg (u a8 7 + 1)) = 101 ∧ u (rf G a8 4) (Int32.toNatClampNeg (u a8 7 + 2)) = 97 ∧ u (rf G a8 4) (Int32.toNatClampNeg (u a8 7 + 3)) = 118 ∧ u (rf G a8 4) (Int32.toNatClampNeg (u a8 7 + 4)) = 101
theorem iwu_4 : K_X3_isWord_28 G w c rd 4 7 0 = (if c (rf G rd 0) (Int32.toNatClampNeg (c rd 4 + 0)) = 108 then (if c (rf G rd 0) (Int32.toNatClampNeg (c rd 4 + 1)) = 101 then (if c (rf G rd 0) (Int32.toNatClampNeg (c rd 4 + 2)) = 97 then (if c (rf G rd 0) (Int32.toNatClampNeg (c rd 4 + 3)) = 118 then (if c (rf G rd 0) (Int32.toNatClampNeg (c rd 4 + 4)) = 101 then 1 else 0) else 0) else 0) else 0) else 0) := by
  rw [K_X3_isWord_28, if_neg (show ¬ nI (sLen.getD 4 0) ≤ (0 : Int32) from by decide), show sCh 4 0 = 108 from by decide, show (0 + 1 : Int32) = 1 from by decide]
  rw [K_X3_isWord_28, if_neg (show ¬ nI (sLen.getD 4 0) ≤ (1 : Int32) from by decide), show sCh 4 1 = 101 from by decide, show (1 + 1 : Int32) = 2 from by decide]
  rw [K_X3_isWord_28, if_neg (show ¬ nI (sLen.getD 4 0) ≤ (2 : Int32) from by decide), show sCh 4 2 = 97 from by decide, show (2 + 1 : Int32) = 3 from by decide]
  rw [K_X3_isWord_28, if_neg (show ¬ nI (sLen.getD 4 0) ≤ (3 : Int32) from by decide), show sCh 4 3 = 118 from by decide, show (3 + 1 : Int32) = 4 from by decide]
  rw [K_X3_isWord_28, if_neg (show ¬ nI (sLen.getD 4 0) ≤ (4 : Int32) from by decide), show sCh 4 4 = 101 from by decide, show (4 + 1 : Int32) = 5 from by decide]
  rw [K_X3_isWord_28, if_pos (show nI (sLen.getD 4 0) ≤ (5 : Int32) from by decide)]
theorem iw_4 (h1 : c rd 3 = 1) : (PQ4 G rd c → F_X3_isWord G w c rd 4 = 1) ∧ (¬ PQ4 G rd c → F_X3_isWord G w c rd 4 = 0) := by
  unfold F_X3_isWord PQ4
  rw [if_pos h1, iwu_4, show nI (sLen.getD 4 0) = 5 from by decide]
  constructor
  · rintro ⟨h2, k0, k1, k2, k3, k4⟩
    rw [if_pos h2, if_pos k0, if_pos k1, if_pos k2, if_pos k3, if_pos k4]
  · intro h
    by_cases h2 : c rd 2 - c rd 4 = 5
    · rw [if_pos h2]
      by_cases k0 : c (rf G rd 0) (Int32.toNatClampNeg (c rd 4 + 0)) = 108
      · rw [if_pos k0]
        by_cases k1 : c (rf G rd 0) (Int32.toNatClampNeg (c rd 4 + 1)) = 101
        · rw [if_pos k1]
          by_cases k2 : c (rf G rd 0) (Int32.toNatClampNeg (c rd 4 + 2)) = 97
          · rw [if_pos k2]
            by_cases k3 : c (rf G rd 0) (Int32.toNatClampNeg (c rd 4 + 3)) = 118
            · rw [if_pos k3]
              by_cases k4 : c (rf G rd 0) (Int32.toNatClampNeg (c rd 4 + 4)) = 101
              · rw [if_pos k4]
                exact absurd ⟨h2, k0, k1, k2, k3, k4⟩ h
              · rw [if_neg k4]
            · rw [if_neg k3]
          · rw [if_neg k2]
        · rw [if_neg k1]
      · rw [if_neg k0]
    · rw [if_neg h2]
def PQ5 (G : Gm) (rd : Nat) (c : Mv) : Prop := c rd 2 - c rd 4 = 5 ∧ c (rf G rd 0) (Int32.toNatClampNeg (c rd 4 + 0)) = 121 ∧ c (rf G rd 0) (Int32.toNatClampNeg (c rd 4 + 1)) = 101 ∧ c (rf G rd 0) (Int32.toNatClampNeg (c rd 4 + 2)) = 97 ∧ c (rf G rd 0) (Int32.toNatClampNeg (c rd 4 + 3)) = 114 ∧ c (rf G rd 0) (Int32.toNatClampNeg (c rd 4 + 4)) = 115
def PE5 (G : Gm) (a8 : Nat) (u : Mv) : Prop := u a8 6 - u a8 7 = 5 ∧ u (rf G a8 4) (Int32.toNatClampNeg (u a8 7)) = 121 ∧ u (rf G a8 4) (Int32.toNatClampNeg (u a8 7 + 1)) = 101 ∧ u (rf G a8 4) (Int32.toNatClampNeg (u a8 7 + 2)) = 97 ∧ u (rf G a8 4) (Int32.toNatClampNeg (u a8 7 + 3)) = 114 ∧ u (rf G a8 4) (Int32.toNatClampNeg (u a8 7 + 4)) = 115
theorem iwu_5 : K_X3_isWord_28 G w c rd 5 7 0 = (if c (rf G rd 0) (Int32.toNatClampNeg (c rd 4 + 0)) = 121 then (if c (rf G rd 0) (Int32.toNatClampNeg (c rd 4 + 1)) = 101 then (if c (rf G rd 0) (Int32.toNatClampNeg (c rd 4 + 2)) = 97 then (if c (rf G rd 0) (Int32.toNatClampNeg (c rd 4 + 3)) = 114 then (if c (rf G rd 0) (Int32.toNatClampNeg (c rd 4 + 4)) = 115 then 1 else 0) else 0) else 0) else 0) else 0) := by
  rw [K_X3_isWord_28, if_neg (show ¬ nI (sLen.getD 5 0) ≤ (0 : Int32) from by decide), show sCh 5 0 = 121 from by decide, show (0 + 1 : Int32) = 1 from by decide]
  rw [K_X3_isWord_28, if_neg (show ¬ nI (sLen.getD 5 0) ≤ (1 : Int32) from by decide), show sCh 5 1 = 101 from by decide, show (1 + 1 : Int32) = 2 from by decide]
  rw [K_X3_isWord_28, if_neg (show ¬ nI (sLen.getD 5 0) ≤ (2 : Int32) from by decide), show sCh 5 2 = 97 from by decide, show (2 + 1 : Int32) = 3 from by decide]
  rw [K_X3_isWord_28, if_neg (show ¬ nI (sLen.getD 5 0) ≤ (3 : Int32) from by decide), show sCh 5 3 = 114 from by decide, show (3 + 1 : Int32) = 4 from by decide]
  rw [K_X3_isWord_28, if_neg (show ¬ nI (sLen.getD 5 0) ≤ (4 : Int32) from by decide), show sCh 5 4 = 115 from by decide, show (4 + 1 : Int32) = 5 from by decide]
  rw [K_X3_isWord_28, if_pos (show nI (sLen.getD 5 0) ≤ (5 : Int32) from by decide)]
theorem iw_5 (h1 : c rd 3 = 1) : (PQ5 G rd c → F_X3_isWord G w c rd 5 = 1) ∧ (¬ PQ5 G rd c → F_X3_isWord G w c rd 5 = 0) := by
  unfold F_X3_isWord PQ5
  rw [if_pos h1, iwu_5, show nI (sLen.getD 5 0) = 5 from by decide]
  constructor
  · rintro ⟨h2, k0, k1, k2, k3, k4⟩
    rw [if_pos h2, if_pos k0, if_pos k1, if_pos k2, if_pos k3, if_pos k4]
  · intro h
    by_cases h2 : c rd 2 - c rd 4 = 5
    · rw [if_pos h2]
      by_cases k0 : c (rf G rd 0) (Int32.toNatClampNeg (c rd 4 + 0)) = 121
      · rw [if_pos k0]
        by_cases k1 : c (rf G rd 0) (Int32.toNatClampNeg (c rd 4 + 1)) = 101
        · rw [if_pos k1]
          by_cases k2 : c (rf G rd 0) (Int32.toNatClampNeg (c rd 4 + 2)) = 97
          · rw [if_pos k2]
            by_cases k3 : c (rf G rd 0) (Int32.toNatClampNeg (c rd 4 + 3)) = 114
            · rw [if_pos k3]
              by_cases k4 : c (rf G rd 0) (Int32.toNatClampNeg (c rd 4 + 4)) = 115
              · rw [if_pos k4]
                exact absurd ⟨h2, k0, k1, k2, k3, k4⟩ h
              · rw [if_neg k4]
            · rw [if_neg k3]
          · rw [if_neg k2]
        · rw [if_neg k1]
      · rw [if_neg k0]
    · rw [if_neg h2]
theorem iw_no (h1 : ¬ c rd 3 = 1) (i : Nat) : F_X3_isWord G w c rd i = 0 := by unfold F_X3_isWord; rw [if_neg h1]
theorem sp_6 {x0 x1 x2 x3 x4 x5 : Int32} : ((u a8 6 - u a8 7 = 6 ∧ u (rf G a8 4) (Int32.toNatClampNeg (u a8 7)) = x0 ∧ u (rf G a8 4) (Int32.toNatClampNeg (u a8 7 + 1)) = x1 ∧ u (rf G a8 4) (Int32.toNatClampNeg (u a8 7 + 2)) = x2 ∧ u (rf G a8 4) (Int32.toNatClampNeg (u a8 7 + 3)) = x3 ∧ u (rf G a8 4) (Int32.toNatClampNeg (u a8 7 + 4)) = x4 ∧ u (rf G a8 4) (Int32.toNatClampNeg (u a8 7 + 5)) = x5) → F_X8_spells_6 G w u a8 x0 x1 x2 x3 x4 x5 = 1) ∧ (¬ (u a8 6 - u a8 7 = 6 ∧ u (rf G a8 4) (Int32.toNatClampNeg (u a8 7)) = x0 ∧ u (rf G a8 4) (Int32.toNatClampNeg (u a8 7 + 1)) = x1 ∧ u (rf G a8 4) (Int32.toNatClampNeg (u a8 7 + 2)) = x2 ∧ u (rf G a8 4) (Int32.toNatClampNeg (u a8 7 + 3)) = x3 ∧ u (rf G a8 4) (Int32.toNatClampNeg (u a8 7 + 4)) = x4 ∧ u (rf G a8 4) (Int32.toNatClampNeg (u a8 7 + 5)) = x5) → F_X8_spells_6 G w u a8 x0 x1 x2 x3 x4 x5 = 0) := by
  unfold F_X8_spells_6
  constructor
  · rintro ⟨h2, k0, k1, k2, k3, k4, k5⟩
    simp [K_X8_spells_6_148, K_X8_spells_6_118, K_X8_spells_6_117, K_X8_spells_6_113, K_X8_spells_6_91, K_X8_spells_6_62, K_X8_spells_6_61, K_X8_spells_6_e, h2, k0, k1, k2, k3, k4, k5]
  · intro h
    by_cases h2 : u a8 6 - u a8 7 = 6
    · skip
      by_cases k0 : u (rf G a8 4) (Int32.toNatClampNeg (u a8 7)) = x0
      · skip
        by_cases k1 : u (rf G a8 4) (Int32.toNatClampNeg (u a8 7 + 1)) = x1
        · skip
          by_cases k2 : u (rf G a8 4) (Int32.toNatClampNeg (u a8 7 + 2)) = x2
          · skip
            by_cases k3 : u (rf G a8 4) (Int32.toNatClampNeg (u a8 7 + 3)) = x3
            · skip
              by_cases k4 : u (rf G a8 4) (Int32.toNatClampNeg (u a8 7 + 4)) = x4
              · skip
                by_cases k5 : u (rf G a8 4) (Int32.toNatClampNeg (u a8 7 + 5)) = x5
                · skip
                  exact absurd ⟨h2, k0, k1, k2, k3, k4, k5⟩ h
                · simp [K_X8_spells_6_148, K_X8_spells_6_118, K_X8_spells_6_117, K_X8_spells_6_113, K_X8_spells_6_91, K_X8_spells_6_62, K_X8_spells_6_61, K_X8_spells_6_e, h2, k0, k1, k2, k3, k4, k5]
              · simp [K_X8_spells_6_148, K_X8_spells_6_118, K_X8_spells_6_117, K_X8_spells_6_113, K_X8_spells_6_91, K_X8_spells_6_62, K_X8_spells_6_61, K_X8_spells_6_e, h2, k0, k1, k2, k3, k4]
            · simp [K_X8_spells_6_148, K_X8_spells_6_118, K_X8_spells_6_117, K_X8_spells_6_113, K_X8_spells_6_91, K_X8_spells_6_62, K_X8_spells_6_61, K_X8_spells_6_e, h2, k0, k1, k2, k3]
          · simp [K_X8_spells_6_148, K_X8_spells_6_118, K_X8_spells_6_117, K_X8_spells_6_113, K_X8_spells_6_91, K_X8_spells_6_62, K_X8_spells_6_61, K_X8_spells_6_e, h2, k0, k1, k2]
        · simp [K_X8_spells_6_148, K_X8_spells_6_118, K_X8_spells_6_117, K_X8_spells_6_113, K_X8_spells_6_91, K_X8_spells_6_62, K_X8_spells_6_61, K_X8_spells_6_e, h2, k0, k1]
      · simp [K_X8_spells_6_148, K_X8_spells_6_118, K_X8_spells_6_117, K_X8_spells_6_113, K_X8_spells_6_91, K_X8_spells_6_62, K_X8_spells_6_61, K_X8_spells_6_e, h2, k0]
    · simp [K_X8_spells_6_148, K_X8_spells_6_118, K_X8_spells_6_117, K_X8_spells_6_113, K_X8_spells_6_91, K_X8_spells_6_62, K_X8_spells_6_61, K_X8_spells_6_e, h2]
theorem sp_5 {x0 x1 x2 x3 x4 x5 : Int32} : ((u a8 6 - u a8 7 = 5 ∧ u (rf G a8 4) (Int32.toNatClampNeg (u a8 7)) = x0 ∧ u (rf G a8 4) (Int32.toNatClampNeg (u a8 7 + 1)) = x1 ∧ u (rf G a8 4) (Int32.toNatClampNeg (u a8 7 + 2)) = x2 ∧ u (rf G a8 4) (Int32.toNatClampNeg (u a8 7 + 3)) = x3 ∧ u (rf G a8 4) (Int32.toNatClampNeg (u a8 7 + 4)) = x4) → F_X8_spells_5 G w u a8 x0 x1 x2 x3 x4 x5 = 1) ∧ (¬ (u a8 6 - u a8 7 = 5 ∧ u (rf G a8 4) (Int32.toNatClampNeg (u a8 7)) = x0 ∧ u (rf G a8 4) (Int32.toNatClampNeg (u a8 7 + 1)) = x1 ∧ u (rf G a8 4) (Int32.toNatClampNeg (u a8 7 + 2)) = x2 ∧ u (rf G a8 4) (Int32.toNatClampNeg (u a8 7 + 3)) = x3 ∧ u (rf G a8 4) (Int32.toNatClampNeg (u a8 7 + 4)) = x4) → F_X8_spells_5 G w u a8 x0 x1 x2 x3 x4 x5 = 0) := by
  unfold F_X8_spells_5
  constructor
  · rintro ⟨h2, k0, k1, k2, k3, k4⟩
    simp [K_X8_spells_5_148, K_X8_spells_5_118, K_X8_spells_5_117, K_X8_spells_5_113, K_X8_spells_5_91, K_X8_spells_5_62, K_X8_spells_5_61, K_X8_spells_5_e, h2, k0, k1, k2, k3, k4]
  · intro h
    by_cases h2 : u a8 6 - u a8 7 = 5
    · skip
      by_cases k0 : u (rf G a8 4) (Int32.toNatClampNeg (u a8 7)) = x0
      · skip
        by_cases k1 : u (rf G a8 4) (Int32.toNatClampNeg (u a8 7 + 1)) = x1
        · skip
          by_cases k2 : u (rf G a8 4) (Int32.toNatClampNeg (u a8 7 + 2)) = x2
          · skip
            by_cases k3 : u (rf G a8 4) (Int32.toNatClampNeg (u a8 7 + 3)) = x3
            · skip
              by_cases k4 : u (rf G a8 4) (Int32.toNatClampNeg (u a8 7 + 4)) = x4
              · skip
                exact absurd ⟨h2, k0, k1, k2, k3, k4⟩ h
              · simp [K_X8_spells_5_148, K_X8_spells_5_118, K_X8_spells_5_117, K_X8_spells_5_113, K_X8_spells_5_91, K_X8_spells_5_62, K_X8_spells_5_61, K_X8_spells_5_e, h2, k0, k1, k2, k3, k4]
            · simp [K_X8_spells_5_148, K_X8_spells_5_118, K_X8_spells_5_117, K_X8_spells_5_113, K_X8_spells_5_91, K_X8_spells_5_62, K_X8_spells_5_61, K_X8_spells_5_e, h2, k0, k1, k2, k3]
          · simp [K_X8_spells_5_148, K_X8_spells_5_118, K_X8_spells_5_117, K_X8_spells_5_113, K_X8_spells_5_91, K_X8_spells_5_62, K_X8_spells_5_61, K_X8_spells_5_e, h2, k0, k1, k2]
        · simp [K_X8_spells_5_148, K_X8_spells_5_118, K_X8_spells_5_117, K_X8_spells_5_113, K_X8_spells_5_91, K_X8_spells_5_62, K_X8_spells_5_61, K_X8_spells_5_e, h2, k0, k1]
      · simp [K_X8_spells_5_148, K_X8_spells_5_118, K_X8_spells_5_117, K_X8_spells_5_113, K_X8_spells_5_91, K_X8_spells_5_62, K_X8_spells_5_61, K_X8_spells_5_e, h2, k0]
    · simp [K_X8_spells_5_148, K_X8_spells_5_118, K_X8_spells_5_117, K_X8_spells_5_113, K_X8_spells_5_91, K_X8_spells_5_62, K_X8_spells_5_61, K_X8_spells_5_e, h2]
theorem sp_3 {x0 x1 x2 x3 x4 x5 : Int32} : ((u a8 6 - u a8 7 = 3 ∧ u (rf G a8 4) (Int32.toNatClampNeg (u a8 7)) = x0 ∧ u (rf G a8 4) (Int32.toNatClampNeg (u a8 7 + 1)) = x1 ∧ u (rf G a8 4) (Int32.toNatClampNeg (u a8 7 + 2)) = x2) → F_X8_spells_3 G w u a8 x0 x1 x2 x3 x4 x5 = 1) ∧ (¬ (u a8 6 - u a8 7 = 3 ∧ u (rf G a8 4) (Int32.toNatClampNeg (u a8 7)) = x0 ∧ u (rf G a8 4) (Int32.toNatClampNeg (u a8 7 + 1)) = x1 ∧ u (rf G a8 4) (Int32.toNatClampNeg (u a8 7 + 2)) = x2) → F_X8_spells_3 G w u a8 x0 x1 x2 x3 x4 x5 = 0) := by
  unfold F_X8_spells_3
  constructor
  · rintro ⟨h2, k0, k1, k2⟩
    simp [K_X8_spells_3_148, K_X8_spells_3_118, K_X8_spells_3_117, K_X8_spells_3_113, K_X8_spells_3_91, K_X8_spells_3_62, K_X8_spells_3_61, K_X8_spells_3_e, h2, k0, k1, k2]
  · intro h
    by_cases h2 : u a8 6 - u a8 7 = 3
    · skip
      by_cases k0 : u (rf G a8 4) (Int32.toNatClampNeg (u a8 7)) = x0
      · skip
        by_cases k1 : u (rf G a8 4) (Int32.toNatClampNeg (u a8 7 + 1)) = x1
        · skip
          by_cases k2 : u (rf G a8 4) (Int32.toNatClampNeg (u a8 7 + 2)) = x2
          · skip
            exact absurd ⟨h2, k0, k1, k2⟩ h
          · simp [K_X8_spells_3_148, K_X8_spells_3_118, K_X8_spells_3_117, K_X8_spells_3_113, K_X8_spells_3_91, K_X8_spells_3_62, K_X8_spells_3_61, K_X8_spells_3_e, h2, k0, k1, k2]
        · simp [K_X8_spells_3_148, K_X8_spells_3_118, K_X8_spells_3_117, K_X8_spells_3_113, K_X8_spells_3_91, K_X8_spells_3_62, K_X8_spells_3_61, K_X8_spells_3_e, h2, k0, k1]
      · simp [K_X8_spells_3_148, K_X8_spells_3_118, K_X8_spells_3_117, K_X8_spells_3_113, K_X8_spells_3_91, K_X8_spells_3_62, K_X8_spells_3_61, K_X8_spells_3_e, h2, k0]
    · simp [K_X8_spells_3_148, K_X8_spells_3_118, K_X8_spells_3_117, K_X8_spells_3_113, K_X8_spells_3_91, K_X8_spells_3_62, K_X8_spells_3_61, K_X8_spells_3_e, h2]
theorem wo_i : F_X8_wordOf G w u a8 = (if F_X8_spells_6 G w u a8 112 101 111 112 108 101 = 0 then (if F_X8_spells_5 G w u a8 116 104 105 110 103 0 = 0 then (if F_X8_spells_3 G w u a8 111 110 101 0 0 0 = 0 then (if F_X8_spells_3 G w u a8 111 119 110 0 0 0 = 0 then (if F_X8_spells_5 G w u a8 108 101 97 118 101 0 = 0 then (if F_X8_spells_5 G w u a8 121 101 97 114 115 0 = 0 then 9 else 5) else 4) else 3) else 2) else 1) else 0) := rfl
/-- the word that stands there, by class and reference -/
theorem wd_rel (h1 : c rd 3 = 1) (hq : ∀ k : Int32, 0 ≤ k.toInt → k.toInt < (u a8 6 - u a8 7).toInt → c (rf G rd 0) (Int32.toNatClampNeg (c rd 4 + k)) = u (rf G a8 4) (Int32.toNatClampNeg (u a8 7 + k))) (hL : c rd 2 - c rd 4 = u a8 6 - u a8 7) : (∃ i, i < 6 ∧ F_X8_wordOf G w u a8 = Int32.ofNat i ∧ ∀ j, j < 6 → F_X3_isWord G w c rd j = if j = i then 1 else 0) ∨ (F_X8_wordOf G w u a8 = 9 ∧ ∀ j, j < 6 → F_X3_isWord G w c rd j = 0) := by
  have d0 : PQ0 G rd c ↔ PE0 G a8 u := by
    unfold PQ0 PE0
    rw [hL]
    constructor
    · rintro ⟨h2, k0, k1, k2, k3, k4, k5⟩
      have hn : (u a8 6 - u a8 7).toInt = 6 := by rw [h2]; decide
      have z0 := hq 0 (by decide) (by rw [hn]; decide)
      have z1 := hq 1 (by decide) (by rw [hn]; decide)
      have z2 := hq 2 (by decide) (by rw [hn]; decide)
      have z3 := hq 3 (by decide) (by rw [hn]; decide)
      have z4 := hq 4 (by decide) (by rw [hn]; decide)
      have z5 := hq 5 (by decide) (by rw [hn]; decide)
      rw [show u a8 7 + 0 = u a8 7 from Int32.add_zero _] at z0
      exact ⟨h2, z0.symm.trans k0, z1.symm.trans k1, z2.symm.trans k2, z3.symm.trans k3, z4.symm.trans k4, z5.symm.trans k5⟩
    · rintro ⟨h2, k0, k1, k2, k3, k4, k5⟩
      have hn : (u a8 6 - u a8 7).toInt = 6 := by rw [h2]; decide
      have z0 := hq 0 (by decide) (by rw [hn]; decide)
      have z1 := hq 1 (by decide) (by rw [hn]; decide)
      have z2 := hq 2 (by decide) (by rw [hn]; decide)
      have z3 := hq 3 (by decide) (by rw [hn]; decide)
      have z4 := hq 4 (by decide) (by rw [hn]; decide)
      have z5 := hq 5 (by decide) (by rw [hn]; decide)
      rw [show u a8 7 + 0 = u a8 7 from Int32.add_zero _] at z0
      exact ⟨h2, z0.trans k0, z1.trans k1, z2.trans k2, z3.trans k3, z4.trans k4, z5.trans k5⟩
  have d1 : PQ1 G rd c ↔ PE1 G a8 u := by
    unfold PQ1 PE1
    rw [hL]
    constructor
    · rintro ⟨h2, k0, k1, k2, k3, k4⟩
      have hn : (u a8 6 - u a8 7).toInt = 5 := by rw [h2]; decide
      have z0 := hq 0 (by decide) (by rw [hn]; decide)
      have z1 := hq 1 (by decide) (by rw [hn]; decide)
      have z2 := hq 2 (by decide) (by rw [hn]; decide)
      have z3 := hq 3 (by decide) (by rw [hn]; decide)
      have z4 := hq 4 (by decide) (by rw [hn]; decide)
      rw [show u a8 7 + 0 = u a8 7 from Int32.add_zero _] at z0
      exact ⟨h2, z0.symm.trans k0, z1.symm.trans k1, z2.symm.trans k2, z3.symm.trans k3, z4.symm.trans k4⟩
    · rintro ⟨h2, k0, k1, k2, k3, k4⟩
      have hn : (u a8 6 - u a8 7).toInt = 5 := by rw [h2]; decide
      have z0 := hq 0 (by decide) (by rw [hn]; decide)
      have z1 := hq 1 (by decide) (by rw [hn]; decide)
      have z2 := hq 2 (by decide) (by rw [hn]; decide)
      have z3 := hq 3 (by decide) (by rw [hn]; decide)
      have z4 := hq 4 (by decide) (by rw [hn]; decide)
      rw [show u a8 7 + 0 = u a8 7 from Int32.add_zero _] at z0
      exact ⟨h2, z0.trans k0, z1.trans k1, z2.trans k2, z3.trans k3, z4.trans k4⟩
  have d2 : PQ2 G rd c ↔ PE2 G a8 u := by
    unfold PQ2 PE2
    rw [hL]
    constructor
    · rintro ⟨h2, k0, k1, k2⟩
      have hn : (u a8 6 - u a8 7).toInt = 3 := by rw [h2]; decide
      have z0 := hq 0 (by decide) (by rw [hn]; decide)
      have z1 := hq 1 (by decide) (by rw [hn]; decide)
      have z2 := hq 2 (by decide) (by rw [hn]; decide)
      rw [show u a8 7 + 0 = u a8 7 from Int32.add_zero _] at z0
      exact ⟨h2, z0.symm.trans k0, z1.symm.trans k1, z2.symm.trans k2⟩
    · rintro ⟨h2, k0, k1, k2⟩
      have hn : (u a8 6 - u a8 7).toInt = 3 := by rw [h2]; decide
      have z0 := hq 0 (by decide) (by rw [hn]; decide)
      have z1 := hq 1 (by decide) (by rw [hn]; decide)
      have z2 := hq 2 (by decide) (by rw [hn]; decide)
      rw [show u a8 7 + 0 = u a8 7 from Int32.add_zero _] at z0
      exact ⟨h2, z0.trans k0, z1.trans k1, z2.trans k2⟩
  have d3 : PQ3 G rd c ↔ PE3 G a8 u := by
    unfold PQ3 PE3
    rw [hL]
    constructor
    · rintro ⟨h2, k0, k1, k2⟩
      have hn : (u a8 6 - u a8 7).toInt = 3 := by rw [h2]; decide
      have z0 := hq 0 (by decide) (by rw [hn]; decide)
      have z1 := hq 1 (by decide) (by rw [hn]; decide)
      have z2 := hq 2 (by decide) (by rw [hn]; decide)
      rw [show u a8 7 + 0 = u a8 7 from Int32.add_zero _] at z0
      exact ⟨h2, z0.symm.trans k0, z1.symm.trans k1, z2.symm.trans k2⟩
    · rintro ⟨h2, k0, k1, k2⟩
      have hn : (u a8 6 - u a8 7).toInt = 3 := by rw [h2]; decide
      have z0 := hq 0 (by decide) (by rw [hn]; decide)
      have z1 := hq 1 (by decide) (by rw [hn]; decide)
      have z2 := hq 2 (by decide) (by rw [hn]; decide)
      rw [show u a8 7 + 0 = u a8 7 from Int32.add_zero _] at z0
      exact ⟨h2, z0.trans k0, z1.trans k1, z2.trans k2⟩
  have d4 : PQ4 G rd c ↔ PE4 G a8 u := by
    unfold PQ4 PE4
    rw [hL]
    constructor
    · rintro ⟨h2, k0, k1, k2, k3, k4⟩
      have hn : (u a8 6 - u a8 7).toInt = 5 := by rw [h2]; decide
      have z0 := hq 0 (by decide) (by rw [hn]; decide)
      have z1 := hq 1 (by decide) (by rw [hn]; decide)
      have z2 := hq 2 (by decide) (by rw [hn]; decide)
      have z3 := hq 3 (by decide) (by rw [hn]; decide)
      have z4 := hq 4 (by decide) (by rw [hn]; decide)
      rw [show u a8 7 + 0 = u a8 7 from Int32.add_zero _] at z0
      exact ⟨h2, z0.symm.trans k0, z1.symm.trans k1, z2.symm.trans k2, z3.symm.trans k3, z4.symm.trans k4⟩
    · rintro ⟨h2, k0, k1, k2, k3, k4⟩
      have hn : (u a8 6 - u a8 7).toInt = 5 := by rw [h2]; decide
      have z0 := hq 0 (by decide) (by rw [hn]; decide)
      have z1 := hq 1 (by decide) (by rw [hn]; decide)
      have z2 := hq 2 (by decide) (by rw [hn]; decide)
      have z3 := hq 3 (by decide) (by rw [hn]; decide)
      have z4 := hq 4 (by decide) (by rw [hn]; decide)
      rw [show u a8 7 + 0 = u a8 7 from Int32.add_zero _] at z0
      exact ⟨h2, z0.trans k0, z1.trans k1, z2.trans k2, z3.trans k3, z4.trans k4⟩
  have d5 : PQ5 G rd c ↔ PE5 G a8 u := by
    unfold PQ5 PE5
    rw [hL]
    constructor
    · rintro ⟨h2, k0, k1, k2, k3, k4⟩
      have hn : (u a8 6 - u a8 7).toInt = 5 := by rw [h2]; decide
      have z0 := hq 0 (by decide) (by rw [hn]; decide)
      have z1 := hq 1 (by decide) (by rw [hn]; decide)
      have z2 := hq 2 (by decide) (by rw [hn]; decide)
      have z3 := hq 3 (by decide) (by rw [hn]; decide)
      have z4 := hq 4 (by decide) (by rw [hn]; decide)
      rw [show u a8 7 + 0 = u a8 7 from Int32.add_zero _] at z0
      exact ⟨h2, z0.symm.trans k0, z1.symm.trans k1, z2.symm.trans k2, z3.symm.trans k3, z4.symm.trans k4⟩
    · rintro ⟨h2, k0, k1, k2, k3, k4⟩
      have hn : (u a8 6 - u a8 7).toInt = 5 := by rw [h2]; decide
      have z0 := hq 0 (by decide) (by rw [hn]; decide)
      have z1 := hq 1 (by decide) (by rw [hn]; decide)
      have z2 := hq 2 (by decide) (by rw [hn]; decide)
      have z3 := hq 3 (by decide) (by rw [hn]; decide)
      have z4 := hq 4 (by decide) (by rw [hn]; decide)
      rw [show u a8 7 + 0 = u a8 7 from Int32.add_zero _] at z0
      exact ⟨h2, z0.trans k0, z1.trans k1, z2.trans k2, z3.trans k3, z4.trans k4⟩
  have s0 : (PE0 G a8 u → ¬ F_X8_spells_6 G w u a8 112 101 111 112 108 101 = 0) ∧ (¬ PE0 G a8 u → F_X8_spells_6 G w u a8 112 101 111 112 108 101 = 0) := ⟨fun q => by rw [sp_6.1 q]; decide, fun q => sp_6.2 q⟩
  have s1 : (PE1 G a8 u → ¬ F_X8_spells_5 G w u a8 116 104 105 110 103 0 = 0) ∧ (¬ PE1 G a8 u → F_X8_spells_5 G w u a8 116 104 105 110 103 0 = 0) := ⟨fun q => by rw [sp_5.1 q]; decide, fun q => sp_5.2 q⟩
  have s2 : (PE2 G a8 u → ¬ F_X8_spells_3 G w u a8 111 110 101 0 0 0 = 0) ∧ (¬ PE2 G a8 u → F_X8_spells_3 G w u a8 111 110 101 0 0 0 = 0) := ⟨fun q => by rw [sp_3.1 q]; decide, fun q => sp_3.2 q⟩
  have s3 : (PE3 G a8 u → ¬ F_X8_spells_3 G w u a8 111 119 110 0 0 0 = 0) ∧ (¬ PE3 G a8 u → F_X8_spells_3 G w u a8 111 119 110 0 0 0 = 0) := ⟨fun q => by rw [sp_3.1 q]; decide, fun q => sp_3.2 q⟩
  have s4 : (PE4 G a8 u → ¬ F_X8_spells_5 G w u a8 108 101 97 118 101 0 = 0) ∧ (¬ PE4 G a8 u → F_X8_spells_5 G w u a8 108 101 97 118 101 0 = 0) := ⟨fun q => by rw [sp_5.1 q]; decide, fun q => sp_5.2 q⟩
  have s5 : (PE5 G a8 u → ¬ F_X8_spells_5 G w u a8 121 101 97 114 115 0 = 0) ∧ (¬ PE5 G a8 u → F_X8_spells_5 G w u a8 121 101 97 114 115 0 = 0) := ⟨fun q => by rw [sp_5.1 q]; decide, fun q => sp_5.2 q⟩
  have x01 : PE0 G a8 u → ¬ PE1 G a8 u := by
    rintro ⟨a, k0, k1, k2, k3, k4, k5⟩ ⟨b, m0, m1, m2, m3, m4⟩
    exact absurd (a.symm.trans b) (by decide)
  have x02 : PE0 G a8 u → ¬ PE2 G a8 u := by
    rintro ⟨a, k0, k1, k2, k3, k4, k5⟩ ⟨b, m0, m1, m2⟩
    exact absurd (a.symm.trans b) (by decide)
  have x03 : PE0 G a8 u → ¬ PE3 G a8 u := by
    rintro ⟨a, k0, k1, k2, k3, k4, k5⟩ ⟨b, m0, m1, m2⟩
    exact absurd (a.symm.trans b) (by decide)
  have x04 : PE0 G a8 u → ¬ PE4 G a8 u := by
    rintro ⟨a, k0, k1, k2, k3, k4, k5⟩ ⟨b, m0, m1, m2, m3, m4⟩
    exact absurd (a.symm.trans b) (by decide)
  have x05 : PE0 G a8 u → ¬ PE5 G a8 u := by
    rintro ⟨a, k0, k1, k2, k3, k4, k5⟩ ⟨b, m0, m1, m2, m3, m4⟩
    exact absurd (a.symm.trans b) (by decide)
  have x12 : PE1 G a8 u → ¬ PE2 G a8 u := by
    rintro ⟨a, k0, k1, k2, k3, k4⟩ ⟨b, m0, m1, m2⟩
    exact absurd (a.symm.trans b) (by decide)
  have x13 : PE1 G a8 u → ¬ PE3 G a8 u := by
    rintro ⟨a, k0, k1, k2, k3, k4⟩ ⟨b, m0, m1, m2⟩
    exact absurd (a.symm.trans b) (by decide)
  have x14 : PE1 G a8 u → ¬ PE4 G a8 u := by
    rintro ⟨a, k0, k1, k2, k3, k4⟩ ⟨b, m0, m1, m2, m3, m4⟩
    exact absurd (k0.symm.trans m0) (by decide)
  have x15 : PE1 G a8 u → ¬ PE5 G a8 u := by
    rintro ⟨a, k0, k1, k2, k3, k4⟩ ⟨b, m0, m1, m2, m3, m4⟩
    exact absurd (k0.symm.trans m0) (by decide)
  have x23 : PE2 G a8 u → ¬ PE3 G a8 u := by
    rintro ⟨a, k0, k1, k2⟩ ⟨b, m0, m1, m2⟩
    exact absurd (k1.symm.trans m1) (by decide)
  have x24 : PE2 G a8 u → ¬ PE4 G a8 u := by
    rintro ⟨a, k0, k1, k2⟩ ⟨b, m0, m1, m2, m3, m4⟩
    exact absurd (a.symm.trans b) (by decide)
  have x25 : PE2 G a8 u → ¬ PE5 G a8 u := by
    rintro ⟨a, k0, k1, k2⟩ ⟨b, m0, m1, m2, m3, m4⟩
    exact absurd (a.symm.trans b) (by decide)
  have x34 : PE3 G a8 u → ¬ PE4 G a8 u := by
    rintro ⟨a, k0, k1, k2⟩ ⟨b, m0, m1, m2, m3, m4⟩
    exact absurd (a.symm.trans b) (by decide)
  have x35 : PE3 G a8 u → ¬ PE5 G a8 u := by
    rintro ⟨a, k0, k1, k2⟩ ⟨b, m0, m1, m2, m3, m4⟩
    exact absurd (a.symm.trans b) (by decide)
  have x45 : PE4 G a8 u → ¬ PE5 G a8 u := by
    rintro ⟨a, k0, k1, k2, k3, k4⟩ ⟨b, m0, m1, m2, m3, m4⟩
    exact absurd (k0.symm.trans m0) (by decide)
  rw [wo_i]
  by_cases p0 : PE0 G a8 u
  · refine Or.inl ⟨0, by decide, ?_, ?_⟩
    · rw [if_neg (s0.1 p0)]; decide
    · intro j hj
      match j, hj with
      | 0, _ => exact (iw_0 h1).1 (d0.mpr p0)
      | 1, _ => exact (iw_1 h1).2 (fun z => (x01 p0) (d1.mp z))
      | 2, _ => exact (iw_2 h1).2 (fun z => (x02 p0) (d2.mp z))
      | 3, _ => exact (iw_3 h1).2 (fun z => (x03 p0) (d3.mp z))
      | 4, _ => exact (iw_4 h1).2 (fun z => (x04 p0) (d4.mp z))
      | 5, _ => exact (iw_5 h1).2 (fun z => (x05 p0) (d5.mp z))
      | (k + 6), h => exact absurd h (by omega)
  by_cases p1 : PE1 G a8 u
  · refine Or.inl ⟨1, by decide, ?_, ?_⟩
    · rw [if_pos (s0.2 p0), if_neg (s1.1 p1)]; decide
    · intro j hj
      match j, hj with
      | 0, _ => exact (iw_0 h1).2 (fun z => (p0) (d0.mp z))
      | 1, _ => exact (iw_1 h1).1 (d1.mpr p1)
      | 2, _ => exact (iw_2 h1).2 (fun z => (x12 p1) (d2.mp z))
      | 3, _ => exact (iw_3 h1).2 (fun z => (x13 p1) (d3.mp z))
      | 4, _ => exact (iw_4 h1).2 (fun z => (x14 p1) (d4.mp z))
      | 5, _ => exact (iw_5 h1).2 (fun z => (x15 p1) (d5.mp z))
      | (k + 6), h => exact absurd h (by omega)
  by_cases p2 : PE2 G a8 u
  · refine Or.inl ⟨2, by decide, ?_, ?_⟩
    · rw [if_pos (s0.2 p0), if_pos (s1.2 p1), if_neg (s2.1 p2)]; decide
    · intro j hj
      match j, hj with
      | 0, _ => exact (iw_0 h1).2 (fun z => (p0) (d0.mp z))
      | 1, _ => exact (iw_1 h1).2 (fun z => (p1) (d1.mp z))
      | 2, _ => exact (iw_2 h1).1 (d2.mpr p2)
      | 3, _ => exact (iw_3 h1).2 (fun z => (x23 p2) (d3.mp z))
      | 4, _ => exact (iw_4 h1).2 (fun z => (x24 p2) (d4.mp z))
      | 5, _ => exact (iw_5 h1).2 (fun z => (x25 p2) (d5.mp z))
      | (k + 6), h => exact absurd h (by omega)
  by_cases p3 : PE3 G a8 u
  · refine Or.inl ⟨3, by decide, ?_, ?_⟩
    · rw [if_pos (s0.2 p0), if_pos (s1.2 p1), if_pos (s2.2 p2), if_neg (s3.1 p3)]; decide
    · intro j hj
      match j, hj with
      | 0, _ => exact (iw_0 h1).2 (fun z => (p0) (d0.mp z))
      | 1, _ => exact (iw_1 h1).2 (fun z => (p1) (d1.mp z))
      | 2, _ => exact (iw_2 h1).2 (fun z => (p2) (d2.mp z))
      | 3, _ => exact (iw_3 h1).1 (d3.mpr p3)
      | 4, _ => exact (iw_4 h1).2 (fun z => (x34 p3) (d4.mp z))
      | 5, _ => exact (iw_5 h1).2 (fun z => (x35 p3) (d5.mp z))
      | (k + 6), h => exact absurd h (by omega)
  by_cases p4 : PE4 G a8 u
  · refine Or.inl ⟨4, by decide, ?_, ?_⟩
    · rw [if_pos (s0.2 p0), if_pos (s1.2 p1), if_pos (s2.2 p2), if_pos (s3.2 p3), if_neg (s4.1 p4)]; decide
    · intro j hj
      match j, hj with
      | 0, _ => exact (iw_0 h1).2 (fun z => (p0) (d0.mp z))
      | 1, _ => exact (iw_1 h1).2 (fun z => (p1) (d1.mp z))
      | 2, _ => exact (iw_2 h1).2 (fun z => (p2) (d2.mp z))
      | 3, _ => exact (iw_3 h1).2 (fun z => (p3) (d3.mp z))
      | 4, _ => exact (iw_4 h1).1 (d4.mpr p4)
      | 5, _ => exact (iw_5 h1).2 (fun z => (x45 p4) (d5.mp z))
      | (k + 6), h => exact absurd h (by omega)
  by_cases p5 : PE5 G a8 u
  · refine Or.inl ⟨5, by decide, ?_, ?_⟩
    · rw [if_pos (s0.2 p0), if_pos (s1.2 p1), if_pos (s2.2 p2), if_pos (s3.2 p3), if_pos (s4.2 p4), if_neg (s5.1 p5)]; decide
    · intro j hj
      match j, hj with
      | 0, _ => exact (iw_0 h1).2 (fun z => (p0) (d0.mp z))
      | 1, _ => exact (iw_1 h1).2 (fun z => (p1) (d1.mp z))
      | 2, _ => exact (iw_2 h1).2 (fun z => (p2) (d2.mp z))
      | 3, _ => exact (iw_3 h1).2 (fun z => (p3) (d3.mp z))
      | 4, _ => exact (iw_4 h1).2 (fun z => (p4) (d4.mp z))
      | 5, _ => exact (iw_5 h1).1 (d5.mpr p5)
      | (k + 6), h => exact absurd h (by omega)
  refine Or.inr ⟨?_, ?_⟩
  · rw [if_pos (s0.2 p0), if_pos (s1.2 p1), if_pos (s2.2 p2), if_pos (s3.2 p3), if_pos (s4.2 p4), if_pos (s5.2 p5)]
  · intro j hj
    match j, hj with
    | 0, _ => exact (iw_0 h1).2 (fun z => p0 (d0.mp z))
    | 1, _ => exact (iw_1 h1).2 (fun z => p1 (d1.mp z))
    | 2, _ => exact (iw_2 h1).2 (fun z => p2 (d2.mp z))
    | 3, _ => exact (iw_3 h1).2 (fun z => p3 (d3.mp z))
    | 4, _ => exact (iw_4 h1).2 (fun z => p4 (d4.mp z))
    | 5, _ => exact (iw_5 h1).2 (fun z => p5 (d5.mp z))
    | (k + 6), h => exact absurd h (by omega)
end WD
