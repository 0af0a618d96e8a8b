/-- what the figures from s to p are worth -/
def VD (T : Nat → Int32) (s p : Int) (z : Int32) : Prop := (p = s → z.toInt = 0) ∧ (p = s + 1 → z.toInt = (T s.toNat).toInt - 48 ∧ 48 ≤ (T s.toNat).toInt ∧ (T s.toNat).toInt ≤ 57) ∧ (p = s + 2 → z.toInt = 10 * ((T s.toNat).toInt - 48) + ((T (s.toNat + 1)).toInt - 48) ∧ (48 ≤ (T s.toNat).toInt ∧ (T s.toNat).toInt ≤ 57) ∧ 48 ≤ (T (s.toNat + 1)).toInt ∧ (T (s.toNat + 1)).toInt ≤ 57)
theorem dig_val {z x : Int32} (hz : 0 ≤ z.toInt ∧ z.toInt ≤ 9) (hx : 48 ≤ x.toInt ∧ x.toInt ≤ 57) : (10 * z + x - 48).toInt = 10 * z.toInt + (x.toInt - 48) := by
  have e10 : (10 : Int32).toInt = 10 := by decide
  have e48 : (48 : Int32).toInt = 48 := by decide
  have m : (10 * z).toInt = 10 * z.toInt := by rw [fb_mulI (by rw [e10]; omega) (by rw [e10]; omega), e10]
  have a : (10 * z + x).toInt = 10 * z.toInt + x.toInt := by rw [fb_addI (by rw [m]; omega) (by rw [m]; omega), m]
  rw [fb_subI (by rw [a, e48]; omega) (by rw [a, e48]; omega), a, e48]
  omega
theorem VD.step {T : Nat → Int32} {s p : Int} {z x : Int32} (h : VD T s p z) (h0 : 0 ≤ s) (hs : s ≤ p) (hx : x = T p.toNat) (hb : 48 ≤ x.toInt ∧ x.toInt ≤ 57) : VD T s (p + 1) (if z ≤ 99 then 10 * z + x - 48 else z) := by
  have e99 : (99 : Int32).toInt = 99 := by decide
  refine ⟨fun q => by omega, fun q => ?_, fun q => ?_⟩
  · have hp : p = s := by omega
    have hz := h.1 hp
    rw [hp] at hx
    rw [if_pos (by rw [i_le, e99]; omega), dig_val (by omega) hb, ← hx]
    omega
  · have hp : p = s + 1 := by omega
    obtain ⟨z1, z2, z3⟩ := h.2.1 hp
    have ei : p.toNat = s.toNat + 1 := by omega
    rw [ei] at hx
    rw [if_pos (by rw [i_le, e99]; omega), dig_val (by omega) hb, ← hx]
    omega
section TK2
variable {G : Gm} {w : Mw} {rd a8 : Nat} {c u : Mv}
/-- a number's figures -/
theorem tk_dig (S3 : S_X3 G rd) (S8 : S_X8 G a8) (T : Nat → Int32) (s : Int32) (hs0 : 0 ≤ s.toInt) : ∀ (n : Nat) (c u : Mv), RT G rd a8 c u → c rd 2 = u a8 6 → Bd (c rd 2) 0 150 → (c rd 2).toInt ≤ (c rd 1).toInt → (c rd 1).toInt - (c rd 2).toInt < (n : Int) → c (rf G rd 0) = T → u a8 7 = s → s.toInt ≤ (c rd 2).toInt → VD T s.toInt (c rd 2).toInt (u a8 9) → ∃ (p : Int32) (u' : Mv), (c rd 2).toInt ≤ p.toInt ∧ p.toInt ≤ (c rd 1).toInt ∧ K_X3_passRun_0 G w rd n c 48 57 = stv c rd 2 p ∧ K_X8_step_65 G w a8 n u = u' ∧ (∀ x k, (x ≠ a8 ∨ (k ≠ 6 ∧ k ≠ 8 ∧ k ≠ 9)) → u' x k = u x k) ∧ u' a8 6 = p ∧ VD T s.toInt p.toInt (u' a8 9) ∧ ((p.toInt ≤ s.toInt + 2 ∧ u' a8 8 = 6) ∨ (s.toInt + 2 < p.toInt ∧ u' a8 8 = 9)) ∧ ((c rd 2 < c rd 1 ∧ 48 ≤ c (rf G rd 0) (Int32.toNatClampNeg (c rd 2)) ∧ c (rf G rd 0) (Int32.toNatClampNeg (c rd 2)) ≤ 57) → (c rd 2).toInt < p.toInt) := by
  intro n
  induction n with
  | zero => intro c u _ _ _ h1 h2; omega
  | succ n ih =>
    intro c u hT hp hb hle hf hTx h7 hsp hV
    have hl150 := hT.2.1.2
    rw [← hT.1] at hl150
    have e2 : (2 : Int32).toInt = 2 := by decide
    have hd : (u a8 6 - u a8 7).toInt = (c rd 2).toInt - s.toInt := by
      rw [← hp, h7, fb_subI (by have := hb.1; have := hb.2; omega) (by have := hb.1; have := hb.2; omega)]
    have stop : F_X8_in G w u (F_X8_here G w u a8) 48 57 = 0 → ∃ u' : Mv, K_X8_step_65 G w a8 (n + 1) u = u' ∧ (∀ x k, (x ≠ a8 ∨ (k ≠ 6 ∧ k ≠ 8 ∧ k ≠ 9)) → u' x k = u x k) ∧ u' a8 6 = c rd 2 ∧ VD T s.toInt (c rd 2).toInt (u' a8 9) ∧ (((c rd 2).toInt ≤ s.toInt + 2 ∧ u' a8 8 = 6) ∨ (s.toInt + 2 < (c rd 2).toInt ∧ u' a8 8 = 9)) := by
      intro h
      rw [K_X8_step_65, if_pos h]
      by_cases c3 : u a8 6 - u a8 7 ≤ 2
      · rw [if_pos c3]
        unfold K_X8_step_148
        rw [i_le, hd, e2] at c3
        exact ⟨_, rfl, fun x k q => stv_ne (q.imp id (fun z => z.2.1)), (stv_k (by decide)).trans hp.symm, by rw [stv_k (by decide)]; exact hV, Or.inl ⟨by omega, stv_s⟩⟩
      · rw [if_neg c3]
        unfold K_X8_step_148
        rw [i_le, hd, e2] at c3
        exact ⟨_, rfl, fun x k q => stv_ne (q.imp id (fun z => z.2.1)), (stv_k (by decide)).trans hp.symm, by rw [stv_k (by decide)]; exact hV, Or.inr ⟨by omega, stv_s⟩⟩
    rw [K_X3_passRun_0]
    by_cases c1 : c rd 1 ≤ c rd 2
    · rw [if_pos c1]
      have hn : ¬ c rd 2 < c rd 1 := fun q => nle_of_lt q c1
      have h0 := here_out hT hp hn
      obtain ⟨u', s1, s2, s3, s4, s5⟩ := stop (by rw [in8 (G' := G) (w' := w) (v' := u)]; exact isW0.mpr (by rw [show F_X8_here G w u a8 = -1 from h0]; decide))
      exact ⟨c rd 2, u', Int.le_refl _, hle, by rw [stv_self], s1, s2, s3, s4, s5, fun q => absurd q.1 hn⟩
    · rw [if_neg c1]
      have hlt := nle c1
      obtain ⟨h0, h0b⟩ := here_in hT hp hb hlt
      by_cases c2 : F_X7_isWithin G w c (c (rf G rd 0) (Int32.toNatClampNeg (c rd 2))) 48 57 = 0
      · rw [if_pos c2]
        obtain ⟨u', s1, s2, s3, s4, s5⟩ := stop (by rw [show F_X8_here G w u a8 = _ from h0]; exact c2)
        exact ⟨c rd 2, u', Int.le_refl _, hle, by rw [stv_self], s1, s2, s3, s4, s5, fun q => absurd q.2 (isW0.mp c2)⟩
      · rw [if_neg c2]
        have hw : 48 ≤ c (rf G rd 0) (Int32.toNatClampNeg (c rd 2)) ∧ c (rf G rd 0) (Int32.toNatClampNeg (c rd 2)) ≤ 57 := Classical.byContradiction fun q => c2 (isW0.mpr q)
        rw [i_le, i_le] at hw
        have e48 : (48 : Int32).toInt = 48 := by decide
        have e57 : (57 : Int32).toInt = 57 := by decide
        rw [e48, e57] at hw
        have e1 : (c rd 2 + 1).toInt = (c rd 2).toInt + 1 := i_add1 hb (by decide) (by decide)
        rw [i_lt] at hlt
        have hx : c (rf G rd 0) (Int32.toNatClampNeg (c rd 2)) = T (c rd 2).toInt.toNat := by rw [hTx]; rfl
        have hV2 := hV.step hs0 hsp hx hw
        have k1 : (stv c rd 2 (c rd 2 + 1)) rd 1 = c rd 1 := stv_k (by decide)
        have k2 : (stv c rd 2 (c rd 2 + 1)) rd 2 = c rd 2 + 1 := stv_s
        have hin : ¬ F_X8_in G w u (F_X8_here G w u a8) 48 57 = 0 := by rw [show F_X8_here G w u a8 = _ from h0]; exact c2
        have hstep : K_X8_step_65 G w a8 (n + 1) u = K_X8_step_65 G w a8 n (stv (stv u a8 9 (if u a8 9 ≤ 99 then 10 * u a8 9 + c (rf G rd 0) (Int32.toNatClampNeg (c rd 2)) - 48 else u a8 9)) a8 6 (u a8 6 + 1)) := by
          rw [K_X8_step_65, if_neg hin]
          by_cases c4 : u a8 9 ≤ 99
          · rw [if_pos c4, if_pos c4]
            unfold K_X8_step_111
            rw [show F_X8_here G w u a8 = _ from h0]
          · rw [if_neg c4, if_neg c4]
            rfl
        obtain ⟨p, u', p1, p2, p3, p4, p5, p6, p7, p8, -⟩ := ih (stv c rd 2 (c rd 2 + 1)) (stv (stv u a8 9 (if u a8 9 ≤ 99 then 10 * u a8 9 + c (rf G rd 0) (Int32.toNatClampNeg (c rd 2)) - 48 else u a8 9)) a8 6 (u a8 6 + 1)) (((hT.ac S3 (by decide)).au S8 (by decide)).au S8 (by decide)) (by rw [stv_s, stv_s, hp]) (by rw [k2]; exact ⟨by have := hb.1; omega, by omega⟩) (by rw [k1, k2]; omega) (by rw [k1, k2]; omega) (by rw [stv_row (ne30 S3)]; exact hTx) (by rw [stv_k (by decide), stv_k (by decide)]; exact h7) (by rw [k2]; omega) (by rw [k2, e1, stv_k (by decide), stv_s]; exact hV2)
        rw [k1, k2] at *
        refine ⟨p, u', by omega, by omega, by rw [p3, stv_stv], hstep.trans p4, fun x k q => ?_, p6, p7, p8, fun _ => by omega⟩
        rw [p5 x k q, stv_ne (q.imp id (fun z => z.1)), stv_ne (q.imp id (fun z => z.2.2))]
end TK2
