/-! WHAT IS MADE LATER LIES HIGHER: cells of one world are apart, and worlds are -/
def Ch2 (G : Gm) (a : Nat) : Prop := a < rf G a 0 ∧ rf G a 0 < rf G a 1
def Ch4 (G : Gm) (a : Nat) : Prop := a < rf G a 1
def Ch6 (G : Gm) (a hi : Nat) : Prop := a < rf G a 1 ∧ rf G a 1 < rf G a 2 ∧ rf G a 2 < rf G a 4 ∧ rf G a 4 < rf G a 5 ∧ rf G a 5 < rf G a 6 ∧ Ch2 G (rf G a 6) ∧ rf G (rf G a 6) 1 < rf G a 7 ∧ rf G a 7 < rf G a 9 ∧ Ch4 G (rf G a 9) ∧ rf G (rf G a 9) 1 < rf G a 10 ∧ Ch4 G (rf G a 10) ∧ rf G (rf G a 10) 1 < rf G a 11 ∧ Ch4 G (rf G a 11) ∧ rf G (rf G a 11) 1 < hi ∧ ∀ b ∈ rl G (rf G a 7), rf G (rf G a 11) 1 < b ∧ Ch2 G b ∧ rf G b 1 < hi
def Ch3 (G : Gm) (a hi : Nat) : Prop := a < rf G a 0 ∧ rf G a 0 < rf G a 6 ∧ Ch6 G (rf G a 6) hi
def T_X2 (G : Gm) (a : Nat) : Prop := S_X2 G a ∧ Ch2 G a
def T_X4 (G : Gm) (a n : Nat) : Prop := S_X4 G a n ∧ Ch4 G a
def T_X6 (G : Gm) (a : Nat) : Prop := S_X6 G a ∧ ∃ z, G z = some (.inr (0, 7, .inl gany)) ∧ Ch6 G a (z + 1)
def T_X3 (G : Gm) (a : Nat) : Prop := S_X3 G a ∧ ∃ z, G z = some (.inr (0, 7, .inl gany)) ∧ Ch3 G a (z + 1)
def Ch7 (G : Gm) (a h4 : Nat) : Prop := ∃ h1 h2 h3 i0 i1, a < rf G a 0 ∧ Ch6 G (rf G a 0) h1 ∧ h1 ≤ rf G a 1 ∧ Ch3 G (rf G a 1) h2 ∧ rl G (rf G a 2) = [i0, i1] ∧ h2 ≤ i0 ∧ Ch6 G i0 h3 ∧ h3 ≤ i1 ∧ Ch6 G i1 h4
def T_X7 (G : Gm) (a : Nat) : Prop := S_X7 G a ∧ ∃ z, G z = some (.inr (0, 7, .inl gany)) ∧ Ch7 G a (z + 1)
def T_X8 (G : Gm) (a : Nat) : Prop := S_X8 G a ∧ a < rf G a 1 ∧ a < rf G a 2 ∧ a < rf G a 4
section CH
variable {G G' : Gm} {a n ci hi : Nat}
theorem er2 (h : Lt G G' ci) (hs : S_X2 G a) (h1 : Nat.beq 2 ci = false) (k : Nat) : rf G' a k = rf G a k := rf_eq ((h a _ hs.1 h1).trans hs.1.symm)
theorem er4 (h : Lt G G' ci) (hs : S_X4 G a n) (h1 : Nat.beq 4 ci = false) (k : Nat) : rf G' a k = rf G a k := rf_eq ((h a _ hs.1 h1).trans hs.1.symm)
theorem er6 (h : Lt G G' ci) (hs : S_X6 G a) (h1 : Nat.beq 6 ci = false) (k : Nat) : rf G' a k = rf G a k := rf_eq ((h a _ hs.1 h1).trans hs.1.symm)
theorem er3 (h : Lt G G' ci) (hs : S_X3 G a) (h1 : Nat.beq 3 ci = false) (k : Nat) : rf G' a k = rf G a k := rf_eq ((h a _ hs.1 h1).trans hs.1.symm)
theorem Ch2.lt (h : Lt G G' ci) (hs : S_X2 G a) (h1 : Nat.beq 2 ci = false) (c : Ch2 G a) : Ch2 G' a := by
  unfold Ch2
  rw [er2 h hs h1, er2 h hs h1]
  exact c
theorem Ch4.lt (h : Lt G G' ci) (hs : S_X4 G a n) (h1 : Nat.beq 4 ci = false) (c : Ch4 G a) : Ch4 G' a := by
  unfold Ch4
  rw [er4 h hs h1]
  exact c
theorem Ch6.lt (h : Lt G G' ci) (hs : S_X6 G a) (h1 : Nat.beq 6 ci = false) (h2 : Nat.beq 2 ci = false) (h3 : Nat.beq 4 ci = false) (h4 : Nat.beq 40108 ci = false) (c : Ch6 G a hi) : Ch6 G' a hi := by
  have e0 := er6 h hs h1
  have e6 := er2 h (S_X6.f6 hs) h2
  have e9 := er4 h (S_X6.f9 hs) h3
  have e10 := er4 h (S_X6.f10 hs) h3
  have e11 := er4 h (S_X6.f11 hs) h3
  have el : rl G' (rf G a 7) = rl G (rf G a 7) := rl_eq ((h _ _ (S_X6.f7 hs).1 h4).trans (S_X6.f7 hs).1.symm)
  obtain ⟨c1, c2, c3, c4, c5, c6, c7, c8, c9, c10, c11, c12, c13, c14, c15⟩ := c
  unfold Ch6
  simp only [e0, e6, e9, e10, e11, el]
  exact ⟨c1, c2, c3, c4, c5, c6.lt h (S_X6.f6 hs) h2, c7, c8, c9.lt h (S_X6.f9 hs) h3, c10, c11.lt h (S_X6.f10 hs) h3, c12, c13.lt h (S_X6.f11 hs) h3, c14, fun b hb => ⟨(c15 b hb).1, (c15 b hb).2.1.lt h ((S_X6.f7 hs).2 b hb) h2, by rw [er2 h ((S_X6.f7 hs).2 b hb) h2]; exact (c15 b hb).2.2⟩⟩
theorem Ch3.lt (h : Lt G G' ci) (hs : S_X3 G a) (h0 : Nat.beq 3 ci = false) (h1 : Nat.beq 6 ci = false) (h2 : Nat.beq 2 ci = false) (h3 : Nat.beq 4 ci = false) (h4 : Nat.beq 40108 ci = false) (c : Ch3 G a hi) : Ch3 G' a hi := by
  unfold Ch3
  rw [er3 h hs h0, er3 h hs h0]
  exact ⟨c.1, c.2.1, c.2.2.lt h (S_X3.f6 hs) h1 h2 h3 h4⟩
theorem Ch2.lf (h : Lf G G') (hs : S_X2 G a) (c : Ch2 G a) : Ch2 G' a := c.lt (ci := 99) h.lt hs rfl
theorem Ch4.lf (h : Lf G G') (hs : S_X4 G a n) (c : Ch4 G a) : Ch4 G' a := c.lt (ci := 99) h.lt hs rfl
theorem Ch6.lf (h : Lf G G') (hs : S_X6 G a) (c : Ch6 G a hi) : Ch6 G' a hi := c.lt (ci := 99) h.lt hs rfl rfl rfl rfl
theorem Ch3.lf (h : Lf G G') (hs : S_X3 G a) (c : Ch3 G a hi) : Ch3 G' a hi := c.lt (ci := 99) h.lt hs rfl rfl rfl rfl rfl
theorem T_X2.lf (h : Lf G G') (q : T_X2 G a) : T_X2 G' a := ⟨q.1.lf h, q.2.lf h q.1⟩
theorem T_X4.lf5 (h : Lf G G') (q : T_X4 G a 5) : T_X4 G' a 5 := ⟨q.1.lf5 h, q.2.lf h q.1⟩
theorem T_X4.lf6 (h : Lf G G') (q : T_X4 G a 6) : T_X4 G' a 6 := ⟨q.1.lf6 h, q.2.lf h q.1⟩
theorem T_X6.lf (h : Lf G G') (q : T_X6 G a) : T_X6 G' a := by
  obtain ⟨q1, z, q2, q3⟩ := q
  exact ⟨q1.lf h, z, h _ _ q2, q3.lf h q1⟩
theorem T_X3.lf (h : Lf G G') (q : T_X3 G a) : T_X3 G' a := by
  obtain ⟨q1, z, q2, q3⟩ := q
  exact ⟨q1.lf h, z, h _ _ q2, q3.lf h q1⟩
theorem Ch7.lf (h : Lf G G') (q1 : S_X7 G a) (q : Ch7 G a hi) : Ch7 G' a hi := by
  obtain ⟨h1, h2, h3, i0, i1, c1, c2, c3, c4, c5, c6, c7, c8, c9⟩ := q
  have e0 : ∀ k, rf G' a k = rf G a k := fun k => rf_eq ((h a _ q1.1).trans q1.1.symm)
  have el : rl G' (rf G a 2) = rl G (rf G a 2) := rl_eq ((h _ _ (S_X7.f2 q1).1).trans (S_X7.f2 q1).1.symm)
  refine ⟨h1, h2, h3, i0, i1, ?_⟩
  simp only [e0, el]
  exact ⟨c1, c2.lf h (S_X7.f0 q1), c3, c4.lf h (S_X7.f1 q1), c5, c6, c7.lf h ((S_X7.f2 q1).2 i0 (by rw [c5]; simp)), c8, c9.lf h ((S_X7.f2 q1).2 i1 (by rw [c5]; simp))⟩
theorem T_X7.lf (h : Lf G G') (q : T_X7 G a) : T_X7 G' a := by
  obtain ⟨q1, z, q2, q3⟩ := q
  exact ⟨q1.lf h, z, h _ _ q2, q3.lf h q1⟩
theorem T_X8.lf (h : Lf G G') (q : T_X8 G a) : T_X8 G' a := by
  have e0 : ∀ k, rf G' a k = rf G a k := fun k => rf_eq ((h a _ q.1.1).trans q.1.1.symm)
  refine ⟨q.1.lf h, ?_⟩
  simp only [e0]
  exact q.2
end CH
theorem Kz.sta {G : Gm} {v : Mv} {a t n k : Nat} {g : Nat → Int × Int × Bool} {x : Int32} (h : Kz G v) (hG : G a = some (.inr (t, n, .inl g))) (hx : x = 0 ∨ (g k).2.2 = false) : Kz G (stv v a k x) := by
  intro b sh hb j lo hi hr
  by_cases hq : b = a ∧ j = k
  · obtain ⟨rfl, rfl⟩ := hq
    rw [stv_s]
    rw [hG] at hb
    cases hb
    rcases hx with hx | hx
    · exact hx
    · have hr : (if j < n then some (g j) else none) = some (lo, hi, true) := hr
      split at hr
      · have hr := Option.some.inj hr
        rw [hr] at hx
        cases hx
      · cases hr
  · unfold stv
    rw [if_neg hq]
    exact h b sh hb j lo hi hr
theorem Kz.b26 {G : Gm} {w : Mw} {h0 : Nat} (S : S_X8 G h0) : ∀ (n : Nat) (v : Mv) (x : Int32), Bd x 0 7 → Kz G v → Kz G (K_X8_begin_0_26 G w h0 n v 0 x) := by
  intro n
  induction n with
  | zero => intro v x _ _; exact fun _ _ _ _ _ _ _ => rfl
  | succ n ih =>
    intro v x hx h
    rw [K_X8_begin_0_26]
    by_cases c : (7 : Int32) ≤ x
    · rw [if_pos c]; exact h
    · rw [if_neg c]
      have bx : Bd x 0 6 := Bd.lt_l (nle c) hx (Bd.lit 7 7 (by decide)) 6 (by decide)
      refine ih _ _ ((Bd.add rfl bx (Bd.lit 1 1 (by decide)) (by decide)).w 0 7 (by decide)) (h.sta (S_X8.f1 S) (Or.inr ?_))
      rw [ix_add (i := 0 + 34 + 9 + x) (A := 0 + 34 + 9) (a := 43) rfl (by unfold Bd; decide) bx (by decide)]
      have hl := ix_le bx 7 (by decide)
      have hd : ∀ m, m < 7 → (gall (Int.toNat 43 + m)).2.2 = false := by decide +kernel
      exact hd _ hl
theorem Kz.b2 {G : Gm} {w : Mw} {h0 : Nat} (S : S_X8 G h0) : ∀ (n : Nat) (v : Mv) (x : Int32), Kz G v → Kz G (K_X8_begin_0_2 G w h0 n v 0 x) := by
  intro n
  induction n with
  | zero => intro v x _; exact fun _ _ _ _ _ _ _ => rfl
  | succ n ih =>
    intro v x h
    rw [K_X8_begin_0_2]
    by_cases c : (246 : Int32) ≤ x
    · rw [if_pos c]; exact Kz.b26 S _ _ _ (by unfold Bd; decide) h
    · rw [if_neg c]; exact ih _ _ (h.sta (S_X8.f1 S) (Or.inl rfl))
theorem Kz.begin0 {G : Gm} {w : Mw} {v : Mv} {h0 : Nat} (S : S_X8 G h0) (h : Kz G v) : Kz G (F_X8_begin_0 G w v h0) := Kz.b2 S _ _ _ h
