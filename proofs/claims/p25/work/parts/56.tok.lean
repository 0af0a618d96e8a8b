/-! PURE THEORY 1: reading behind writing; the text; tokens, the class's beside the reference's -/
theorem stv_ne {v : Mv} {a k : Nat} {x : Int32} {b j : Nat} (h : b ≠ a ∨ j ≠ k) : stv v a k x b j = v b j := if_neg (fun q => h.elim (fun n => n q.1) (fun n => n q.2))
theorem stv_row {v : Mv} {a k : Nat} {x : Int32} {b : Nat} (h : b ≠ a) : stv v a k x b = v b := funext fun _ => stv_a h
theorem stv_stv {v : Mv} {a k : Nat} {x y : Int32} : stv (stv v a k x) a k y = stv v a k y := by
  funext b j
  unfold stv
  by_cases q : b = a ∧ j = k
  · rw [if_pos q, if_pos q]
  · rw [if_neg q, if_neg q, if_neg q]
theorem stv_self {v : Mv} {a k : Nat} : stv v a k (v a k) = v := by
  funext b j
  unfold stv
  by_cases q : b = a ∧ j = k
  · rw [if_pos q, q.1, q.2]
  · rw [if_neg q]
theorem i_eq {x y : Int32} (h : x.toInt = y.toInt) : x = y := Int32.toInt_inj.mp h
theorem i_le {x y : Int32} : x ≤ y ↔ x.toInt ≤ y.toInt := Int32.le_iff_toInt_le
theorem i_lt {x y : Int32} : x < y ↔ x.toInt < y.toInt := Int32.lt_iff_toInt_lt
theorem i_add1 {x : Int32} {a b : Int} (h : Bd x a b) (ha : -2147483648 ≤ a) (hb : b < 2147483647) : (x + 1).toInt = x.toInt + 1 := by
  obtain ⟨h1, h2⟩ := h
  have e1 : (1 : Int32).toInt = 1 := by decide
  rw [fb_addI (by rw [e1]; omega) (by rw [e1]; omega), e1]
theorem isW0 {G : Gm} {w : Mw} {v : Mv} {x a b : Int32} : F_X7_isWithin G w v x a b = 0 ↔ ¬ (a ≤ x ∧ x ≤ b) := by
  unfold F_X7_isWithin K_X7_isWithin_e
  by_cases c1 : x < a
  · rw [if_pos c1]
    rw [i_lt] at c1
    rw [i_le, i_le]
    exact ⟨fun _ q => by omega, fun _ => rfl⟩
  · rw [if_neg c1]
    by_cases c2 : b < x
    · rw [if_pos c2]
      rw [i_lt] at c2
      rw [i_le, i_le]
      exact ⟨fun _ q => by omega, fun _ => rfl⟩
    · rw [if_neg c2]
      rw [i_lt] at c1 c2
      rw [i_le, i_le]
      exact ⟨fun q => absurd q (by decide), fun q => absurd ⟨by omega, by omega⟩ q⟩
theorem in8 {G G' : Gm} {w w' : Mw} {v v' : Mv} {x a b : Int32} : F_X8_in G w v x a b = F_X7_isWithin G' w' v' x a b := rfl
/-- the texts are alike -/
def RT (G : Gm) (rd a8 : Nat) (c u : Mv) : Prop := c rd 1 = u a8 5 ∧ Bd (u a8 5) 0 150 ∧ ∀ k : Nat, (k : Int) < (u a8 5).toInt → c (rf G rd 0) k = u (rf G a8 4) k ∧ Bd (u (rf G a8 4) k) 0 127
theorem RT.congr {G : Gm} {rd a8 : Nat} {c u c' u' : Mv} (h : RT G rd a8 c u) (h1 : c' rd 1 = c rd 1) (h2 : c' (rf G rd 0) = c (rf G rd 0)) (h3 : u' a8 5 = u a8 5) (h4 : u' (rf G a8 4) = u (rf G a8 4)) : RT G rd a8 c' u' := by
  unfold RT
  rw [h1, h2, h3, h4]
  exact h
section TK
variable {G : Gm} {w : Mw} {rd a8 : Nat} {c u : Mv}
theorem ne30 (S3 : S_X3 G rd) : rf G rd 0 ≠ rd := tg_ne (S_X3.f0 S3) (S_X3.h S3) rfl
theorem ne84 (S8 : S_X8 G a8) : rf G a8 4 ≠ a8 := tg_ne (S_X8.f4 S8) (S_X8.h S8) rfl
theorem RT.ac (S3 : S_X3 G rd) (h : RT G rd a8 c u) {k : Nat} {x : Int32} (hk : 1 ≠ k) : RT G rd a8 (stv c rd k x) u := h.congr (stv_k hk) (stv_row (ne30 S3)) rfl rfl
theorem RT.au (S8 : S_X8 G a8) (h : RT G rd a8 c u) {k : Nat} {x : Int32} (hk : 5 ≠ k) : RT G rd a8 c (stv u a8 k x) := h.congr rfl rfl (stv_k hk) (stv_row (ne84 S8))
theorem here_in (h : RT G rd a8 c u) (hp : c rd 2 = u a8 6) (hb : Bd (c rd 2) 0 150) (hl : c rd 2 < c rd 1) : hF G u a8 = c (rf G rd 0) (c rd 2).toNatClampNeg ∧ Bd (hF G u a8) 0 127 := by
  have h2 := hl
  rw [hp, h.1] at h2
  unfold hF
  rw [if_pos h2, ← hp]
  rw [i_lt, h.1] at hl
  have := h.2.2 (c rd 2).toNatClampNeg (by show ((c rd 2).toInt.toNat : Int) < _; have := hb.1; omega)
  exact ⟨this.1.symm, this.2⟩
theorem here_out (h : RT G rd a8 c u) (hp : c rd 2 = u a8 6) (hl : ¬ c rd 2 < c rd 1) : hF G u a8 = -1 := by
  rw [hp, h.1] at hl
  unfold hF
  rw [if_neg hl]
theorem here_at {u : Mv} {k : Nat} {x : Int32} (S8 : S_X8 G a8) (hk : k ≠ 5 ∧ k ≠ 6) : hF G (stv u a8 k x) a8 = hF G u a8 := by
  unfold hF
  rw [stv_k (Ne.symm hk.1), stv_k (Ne.symm hk.2), stv_row (ne84 S8)]
/-- blanks -/
theorem tk_sp (S3 : S_X3 G rd) (S8 : S_X8 G a8) : ∀ (n : Nat) (c u : Mv), RT G rd a8 c u → c rd 2 = u a8 6 → Bd (c rd 2) 0 150 → (c rd 2).toInt ≤ (c rd 1).toInt → (c rd 1).toInt - (c rd 2).toInt < (n : Int) → ∃ p : Int32, (c rd 2).toInt ≤ p.toInt ∧ p.toInt ≤ (c rd 1).toInt ∧ K_X3_nextToken_0 G w rd n c = K_X3_nextToken_38 G w rd (stv c rd 2 p) ∧ K_X8_step_0 G w a8 n u = K_X8_step_0 G w a8 1 (stv u a8 6 p) ∧ hF G (stv u a8 6 p) a8 ≠ 32 := by
  intro n
  induction n with
  | zero => intro c u _ _ _ h1 h2; omega
  | succ n ih =>
    intro c u hT hp hb hle hf
    have hl150 := hT.2.1.2
    rw [← hT.1] at hl150
    have stop : hF G u a8 ≠ 32 → K_X8_step_0 G w a8 (n + 1) u = K_X8_step_0 G w a8 1 (stv u a8 6 (c rd 2)) ∧ hF G (stv u a8 6 (c rd 2)) a8 ≠ 32 := by
      intro h
      rw [hp, stv_self]
      refine ⟨?_, h⟩
      rw [K_X8_step_0, K_X8_step_0, if_neg (show ¬ F_X8_here G w u a8 = 32 from h), if_neg (show ¬ F_X8_here G w u a8 = 32 from h)]
    rw [K_X3_nextToken_0]
    by_cases c1 : c rd 1 ≤ c rd 2
    · rw [if_pos c1]
      have hn : ¬ c rd 2 < c rd 1 := fun q => nle_of_lt q c1
      have h0 := here_out hT hp hn
      obtain ⟨s1, s2⟩ := stop (by rw [h0]; decide)
      exact ⟨c rd 2, Int.le_refl _, hle, by rw [stv_self], s1, s2⟩
    · rw [if_neg c1]
      have hlt := nle c1
      obtain ⟨h0, h0b⟩ := here_in hT hp hb hlt
      by_cases c2 : c (rf G rd 0) (Int32.toNatClampNeg (c rd 2)) = 32
      · rw [if_pos c2]
        have e1 : (c rd 2 + 1).toInt = (c rd 2).toInt + 1 := i_add1 hb (by decide) (by decide)
        rw [i_lt] at hlt
        have k1 : (stv c rd 2 (c rd 2 + 1)) rd 1 = c rd 1 := stv_k (by decide)
        have k2 : (stv c rd 2 (c rd 2 + 1)) rd 2 = c rd 2 + 1 := stv_s
        obtain ⟨p, p1, p2, p3, p4, p5⟩ := ih (stv c rd 2 (c rd 2 + 1)) (stv u a8 6 (u a8 6 + 1)) ((hT.ac S3 (by decide)).au S8 (by decide)) (by rw [stv_s, stv_s, hp]) (by rw [k2]; exact ⟨by have := hb.1; omega, by omega⟩) (by rw [k1, k2]; omega) (by rw [k1, k2]; omega)
        rw [k1, k2] at *
        refine ⟨p, by omega, by omega, ?_, ?_, ?_⟩
        · rw [p3, stv_stv]
        · rw [K_X8_step_0, if_pos (show F_X8_here G w u a8 = 32 from h0.trans c2), p4, stv_stv]
        · rw [stv_stv] at p5; exact p5
      · rw [if_neg c2]
        obtain ⟨s1, s2⟩ := stop (by rw [h0]; exact c2)
        exact ⟨c rd 2, Int.le_refl _, hle, by rw [stv_self], s1, s2⟩
/-- a word's letters -/
theorem tk_let (S3 : S_X3 G rd) (S8 : S_X8 G a8) : ∀ (n : Nat) (c u : Mv), RT G rd a8 c u → c rd 2 = u a8 6 → Bd (c rd 2) 0 150 → (c rd 2).toInt ≤ (c rd 1).toInt → (c rd 1).toInt - (c rd 2).toInt < (n : Int) → ∃ p : Int32, (c rd 2).toInt ≤ p.toInt ∧ p.toInt ≤ (c rd 1).toInt ∧ K_X3_passRun_0 G w rd n c 97 122 = stv c rd 2 p ∧ K_X8_step_165 G w a8 n u = stv (stv u a8 6 p) a8 8 (F_X8_wordOf G w (stv u a8 6 p) a8) ∧ ((c rd 2 < c rd 1 ∧ 97 ≤ c (rf G rd 0) (Int32.toNatClampNeg (c rd 2)) ∧ c (rf G rd 0) (Int32.toNatClampNeg (c rd 2)) ≤ 122) → (c rd 2).toInt < p.toInt) := by
  intro n
  induction n with
  | zero => intro c u _ _ _ h1 h2; omega
  | succ n ih =>
    intro c u hT hp hb hle hf
    have hl150 := hT.2.1.2
    rw [← hT.1] at hl150
    have stop : F_X8_in G w u (F_X8_here G w u a8) 97 122 = 0 → K_X8_step_165 G w a8 (n + 1) u = stv (stv u a8 6 (c rd 2)) a8 8 (F_X8_wordOf G w (stv u a8 6 (c rd 2)) a8) := by
      intro h
      rw [hp, stv_self, K_X8_step_165, if_pos h]
    rw [K_X3_passRun_0]
    by_cases c1 : c rd 1 ≤ c rd 2
    · rw [if_pos c1]
      have hn : ¬ c rd 2 < c rd 1 := fun q => nle_of_lt q c1
      have h0 := here_out hT hp hn
      have s1 := stop (by rw [in8 (G' := G) (w' := w) (v' := u)]; exact isW0.mpr (by rw [show F_X8_here G w u a8 = -1 from h0]; decide))
      exact ⟨c rd 2, Int.le_refl _, hle, by rw [stv_self], s1, fun q => absurd q.1 hn⟩
    · rw [if_neg c1]
      have hlt := nle c1
      obtain ⟨h0, h0b⟩ := here_in hT hp hb hlt
      by_cases c2 : F_X7_isWithin G w c (c (rf G rd 0) (Int32.toNatClampNeg (c rd 2))) 97 122 = 0
      · rw [if_pos c2]
        have s1 := stop (by rw [show F_X8_here G w u a8 = _ from h0]; exact c2)
        exact ⟨c rd 2, Int.le_refl _, hle, by rw [stv_self], s1, fun q => absurd q.2 (isW0.mp c2)⟩
      · rw [if_neg c2]
        have e1 : (c rd 2 + 1).toInt = (c rd 2).toInt + 1 := i_add1 hb (by decide) (by decide)
        rw [i_lt] at hlt
        have k1 : (stv c rd 2 (c rd 2 + 1)) rd 1 = c rd 1 := stv_k (by decide)
        have k2 : (stv c rd 2 (c rd 2 + 1)) rd 2 = c rd 2 + 1 := stv_s
        obtain ⟨p, p1, p2, p3, p4, -⟩ := ih (stv c rd 2 (c rd 2 + 1)) (stv u a8 6 (u a8 6 + 1)) ((hT.ac S3 (by decide)).au S8 (by decide)) (by rw [stv_s, stv_s, hp]) (by rw [k2]; exact ⟨by have := hb.1; omega, by omega⟩) (by rw [k1, k2]; omega) (by rw [k1, k2]; omega)
        rw [k1, k2] at *
        refine ⟨p, by omega, by omega, ?_, ?_, fun _ => by omega⟩
        · rw [p3, stv_stv]
        · rw [K_X8_step_165, if_neg (by rw [show F_X8_here G w u a8 = _ from h0]; exact c2), p4, stv_stv]
end TK
