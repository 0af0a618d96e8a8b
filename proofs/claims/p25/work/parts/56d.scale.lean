/-! PURE THEORY 2: what things weigh, what people lift -/
theorem min_eq {G : Gm} {w : Mw} {v : Mv} {x y : Int32} : F_J9_min_7cf53 G w v x y = if y < x then y else x := rfl
theorem max_eq {G : Gm} {w : Mw} {v : Mv} {x y : Int32} : F_J9_max_7cf53 G w v x y = if x < y then y else x := rfl
theorem weq {G G' : Gm} {w w' : Mw} {v v' : Mv} {k x y : Int32} (hk : Bd k 0 5) : F_X5_thingWeighs G w v k x y = F_X8_weighsBy G' w' v' k x y := by
  obtain ⟨h1, h2⟩ := hk
  unfold F_X5_thingWeighs K_X5_thingWeighs_e F_X8_weighsBy K_X8_weighsBy_e
  rcases (show k.toInt = 0 ∨ k.toInt = 1 ∨ k.toInt = 2 ∨ k.toInt = 3 ∨ k.toInt = 4 ∨ k.toInt = 5 by omega) with e | e | e | e | e | e
  · rw [e]; rfl
  · rw [e]; rfl
  · rw [e]; rfl
  · rw [e]
    show F_X5_bell G w v x + F_J9_min_7cf53 G w v 20 (y / 10) = if y / 10 ≤ 20 then x + 6 + y / 10 else x + 6 + 20
    rw [min_eq]
    show x + 6 + (if y / 10 < 20 then y / 10 else 20) = _
    by_cases c1 : y / 10 < 20
    · have c2 : y / 10 ≤ 20 := i_le.mpr (by have := i_lt.mp c1; omega)
      rw [if_pos c1, if_pos c2]
    · rw [if_neg c1]
      by_cases c2 : y / 10 ≤ 20
      · have e2 : y / 10 = 20 := i_eq (by have := i_le.mp c2; have := i_le.mp (nlt c1); omega)
        rw [if_pos c2, e2]
      · rw [if_neg c2]
  · rw [e]; rfl
  · rw [e]; rfl
def lifT : Bool := (List.range 6).all fun k => (List.range 10).all fun s => (List.range 100).all fun a => decide (F_X5_oneLifts (fun _ => none) wz vz (nI k) (nI s) (nI a) = F_X8_liftsBy (fun _ => none) wz vz (nI k) (nI s) (nI a))
set_option maxRecDepth 100000 in
theorem lifT_ok : lifT = true := by decide +kernel
theorem bd_nI {x : Int32} {n : Nat} (h : Bd x 0 n) : ∃ k : Nat, k ≤ n ∧ x = nI k := by
  refine ⟨x.toInt.toNat, by obtain ⟨h1, h2⟩ := h; omega, i_eq ?_⟩
  have r := fb_rng x
  rw [nI_toInt (by omega)]
  have := h.1
  omega
theorem leq {G G' : Gm} {w w' : Mw} {v v' : Mv} {k s a : Int32} (hk : Bd k 0 5) (hs : Bd s 0 9) (ha : Bd a 0 99) : F_X5_oneLifts G w v k s a = F_X8_liftsBy G' w' v' k s a := by
  obtain ⟨k, k1, rfl⟩ := bd_nI (n := 5) hk
  obtain ⟨s, s1, rfl⟩ := bd_nI (n := 9) hs
  obtain ⟨a, a1, rfl⟩ := bd_nI (n := 99) ha
  have h := lifT_ok
  unfold lifT at h
  have h1 := List.all_eq_true.mp h k (List.mem_range.mpr (by omega))
  have h2 := List.all_eq_true.mp h1 s (List.mem_range.mpr (by omega))
  have h3 := List.all_eq_true.mp h2 a (List.mem_range.mpr (by omega))
  exact of_decide_eq_true h3
