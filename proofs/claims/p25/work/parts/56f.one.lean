section DR2
variable {G : Gm} {w : Mw} {a a8 hi : Nat} {c u : Mv} {x y z : Int32}
theorem nI_nn {x : Int32} (h : 0 ≤ x.toInt) : nI (nn x) = x := i_eq (by
  have r := fb_rng x
  rw [nI_toInt (by show x.toInt.toNat < _; omega)]
  show (x.toInt.toNat : Int) = x.toInt
  omega)
/-- one more -/
theorem one_ok (C : Ch6 G a hi) (hB : RB G (rf G a8 1) c u a 738) (hM : RM G (rf G a8 1) c u a 738) (hn : Bd (c a 3) 0 6) (hx : Bd x 0 5) (hy : Bd y 1 9) (hz : Bd z 0 99) : RB G (rf G a8 1) (F_X6_addOne G w c a x y z).2 (F_X8_join_738 G w u a8 x y z).2 a 738 ∧ RM G (rf G a8 1) (F_X6_addOne G w c a x y z).2 (F_X8_join_738 G w u a8 x y z).2 a 738 := by
  obtain ⟨⟨b1, b2⟩, ⟨b3, b4⟩, b5, b6, b7, b8⟩ := hB
  obtain ⟨⟨m1, m2⟩, m3, m4, m5⟩ := hM
  obtain ⟨k1, k2, k3, k4, k5, ⟨k6, k7⟩, -⟩ := C
  have b2' : c a 3 = u (rf G a8 1) 739 := b2
  rw [join738 (by rw [← b2']; exact hn)]
  rw [← b2']
  obtain ⟨n1, n2⟩ := nn1 hn
  have hN : nn (c a 3) ≤ 6 := nn_le hn
  have hT : nn (c a 0) ≤ 7 := nn_le b3
  have hbit := nI_nn hn.1
  have hold : (stv (stv (stv (stv c (rf G a 4) (nn (c a 3)) x) (rf G a 5) (nn (c a 3)) y) (rf G (rf G a 6) 0) (nn (c a 3)) z) (rf G (rf G a 6) 1) (nn (c a 3)) (-1)) (rf G a 6) 2 = c (rf G a 6) 2 := by rw [stv_a (by omega), stv_a (by omega), stv_a (by omega), stv_a (by omega)]
  have eC : (F_X6_addOne G w c a x y z).2 = stv (stv (stv (stv (stv (stv (stv c (rf G a 4) (nn (c a 3)) x) (rf G a 5) (nn (c a 3)) y) (rf G (rf G a 6) 0) (nn (c a 3)) z) (rf G (rf G a 6) 1) (nn (c a 3)) (-1)) (rf G a 6) 2 (c (rf G a 6) 2 ||| ((1 : Int32) <<< (nI (nn (c a 3)) &&& 31)))) a 3 (c a 3 + 1)) a 8 0 := by
    rw [hbit]
    unfold F_X6_addOne K_X6_addOne_e
    rw [← hold]
    rfl
  rw [eC]
  generalize hN0 : nn (c a 3) = N at *
  generalize hH : (c (rf G a 6) 2 ||| ((1 : Int32) <<< (nI N &&& 31))) = H at *
  have e0 : (stv (stv (stv (stv (stv (stv (stv c (rf G a 4) N x) (rf G a 5) N y) (rf G (rf G a 6) 0) N z) (rf G (rf G a 6) 1) N (-1)) (rf G a 6) 2 H) a 3 (c a 3 + 1)) a 8 0) a 0 = c a 0 := by rw [stv_k (by decide), stv_k (by decide), stv_a (by omega), stv_a (by omega), stv_a (by omega), stv_a (by omega), stv_a (by omega)]
  have e3 : (stv (stv (stv (stv (stv (stv (stv c (rf G a 4) N x) (rf G a 5) N y) (rf G (rf G a 6) 0) N z) (rf G (rf G a 6) 1) N (-1)) (rf G a 6) 2 H) a 3 (c a 3 + 1)) a 8 0) a 3 = c a 3 + 1 := by rw [stv_k (by decide), stv_s]
  have e63 : (stv (stv (stv (stv (stv (stv (stv c (rf G a 4) N x) (rf G a 5) N y) (rf G (rf G a 6) 0) N z) (rf G (rf G a 6) 1) N (-1)) (rf G a 6) 2 H) a 3 (c a 3 + 1)) a 8 0) (rf G a 6) 3 = c (rf G a 6) 3 := by rw [stv_a (by omega), stv_a (by omega), stv_k (by decide), stv_a (by omega), stv_a (by omega), stv_a (by omega), stv_a (by omega)]
  have e62 : (stv (stv (stv (stv (stv (stv (stv c (rf G a 4) N x) (rf G a 5) N y) (rf G (rf G a 6) 0) N z) (rf G (rf G a 6) 1) N (-1)) (rf G a 6) 2 H) a 3 (c a 3 + 1)) a 8 0) (rf G a 6) 2 = H := by rw [stv_a (by omega), stv_a (by omega), stv_s]
  have f4 : ∀ t, t ≠ N → (stv (stv (stv (stv (stv (stv (stv c (rf G a 4) N x) (rf G a 5) N y) (rf G (rf G a 6) 0) N z) (rf G (rf G a 6) 1) N (-1)) (rf G a 6) 2 H) a 3 (c a 3 + 1)) a 8 0) (rf G a 4) t = c (rf G a 4) t := fun t ht => by rw [stv_a (by omega), stv_a (by omega), stv_a (by omega), stv_a (by omega), stv_a (by omega), stv_a (by omega), stv_k ht]
  have f4n : (stv (stv (stv (stv (stv (stv (stv c (rf G a 4) N x) (rf G a 5) N y) (rf G (rf G a 6) 0) N z) (rf G (rf G a 6) 1) N (-1)) (rf G a 6) 2 H) a 3 (c a 3 + 1)) a 8 0) (rf G a 4) N = x := by rw [stv_a (by omega), stv_a (by omega), stv_a (by omega), stv_a (by omega), stv_a (by omega), stv_a (by omega), stv_s]
  have f5 : ∀ t, t ≠ N → (stv (stv (stv (stv (stv (stv (stv c (rf G a 4) N x) (rf G a 5) N y) (rf G (rf G a 6) 0) N z) (rf G (rf G a 6) 1) N (-1)) (rf G a 6) 2 H) a 3 (c a 3 + 1)) a 8 0) (rf G a 5) t = c (rf G a 5) t := fun t ht => by rw [stv_a (by omega), stv_a (by omega), stv_a (by omega), stv_a (by omega), stv_a (by omega), stv_k ht, stv_a (by omega)]
  have f5n : (stv (stv (stv (stv (stv (stv (stv c (rf G a 4) N x) (rf G a 5) N y) (rf G (rf G a 6) 0) N z) (rf G (rf G a 6) 1) N (-1)) (rf G a 6) 2 H) a 3 (c a 3 + 1)) a 8 0) (rf G a 5) N = y := by rw [stv_a (by omega), stv_a (by omega), stv_a (by omega), stv_a (by omega), stv_a (by omega), stv_s]
  have fa : ∀ t, t ≠ N → (stv (stv (stv (stv (stv (stv (stv c (rf G a 4) N x) (rf G a 5) N y) (rf G (rf G a 6) 0) N z) (rf G (rf G a 6) 1) N (-1)) (rf G a 6) 2 H) a 3 (c a 3 + 1)) a 8 0) (rf G (rf G a 6) 0) t = c (rf G (rf G a 6) 0) t := fun t ht => by rw [stv_a (by omega), stv_a (by omega), stv_a (by omega), stv_a (by omega), stv_k ht, stv_a (by omega), stv_a (by omega)]
  have fan : (stv (stv (stv (stv (stv (stv (stv c (rf G a 4) N x) (rf G a 5) N y) (rf G (rf G a 6) 0) N z) (rf G (rf G a 6) 1) N (-1)) (rf G a 6) 2 H) a 3 (c a 3 + 1)) a 8 0) (rf G (rf G a 6) 0) N = z := by rw [stv_a (by omega), stv_a (by omega), stv_a (by omega), stv_a (by omega), stv_s]
  have fw : ∀ t, t ≠ N → (stv (stv (stv (stv (stv (stv (stv c (rf G a 4) N x) (rf G a 5) N y) (rf G (rf G a 6) 0) N z) (rf G (rf G a 6) 1) N (-1)) (rf G a 6) 2 H) a 3 (c a 3 + 1)) a 8 0) (rf G (rf G a 6) 1) t = c (rf G (rf G a 6) 1) t := fun t ht => by rw [stv_a (by omega), stv_a (by omega), stv_a (by omega), stv_k ht, stv_a (by omega), stv_a (by omega), stv_a (by omega)]
  have fwn : (stv (stv (stv (stv (stv (stv (stv c (rf G a 4) N x) (rf G a 5) N y) (rf G (rf G a 6) 0) N z) (rf G (rf G a 6) 1) N (-1)) (rf G a 6) 2 H) a 3 (c a 3 + 1)) a 8 0) (rf G (rf G a 6) 1) N = -1 := by rw [stv_a (by omega), stv_a (by omega), stv_a (by omega), stv_s]
  have fo : ∀ f, f ≠ rf G a 4 → f ≠ rf G a 5 → f ≠ rf G (rf G a 6) 0 → f ≠ rf G (rf G a 6) 1 → f ≠ rf G a 6 → f ≠ a → (stv (stv (stv (stv (stv (stv (stv c (rf G a 4) N x) (rf G a 5) N y) (rf G (rf G a 6) 0) N z) (rf G (rf G a 6) 1) N (-1)) (rf G a 6) 2 H) a 3 (c a 3 + 1)) a 8 0) f = c f := fun f h1 h2 h3 h4 h5 h6 => by rw [stv_row h6, stv_row h6, stv_row h5, stv_row h4, stv_row h3, stv_row h2, stv_row h1]
  have g : ∀ j, j ≠ 758 + N → j ≠ 765 + N → j ≠ 774 + N → j ≠ 781 + N → j ≠ 739 → j ≠ 743 → (stv (stv (stv (stv (stv (stv u (rf G a8 1) (758 + N) x) (rf G a8 1) (765 + N) y) (rf G a8 1) (774 + N) z) (rf G a8 1) (781 + N) (-1)) (rf G a8 1) 739 (c a 3 + 1)) (rf G a8 1) 743 0) (rf G a8 1) j = u (rf G a8 1) j := fun j h1 h2 h3 h4 h5 h6 => by rw [stv_k h6, stv_k h5, stv_k h4, stv_k h3, stv_k h2, stv_k h1]
  have g9 : (stv (stv (stv (stv (stv (stv u (rf G a8 1) (758 + N) x) (rf G a8 1) (765 + N) y) (rf G a8 1) (774 + N) z) (rf G a8 1) (781 + N) (-1)) (rf G a8 1) 739 (c a 3 + 1)) (rf G a8 1) 743 0) (rf G a8 1) 739 = c a 3 + 1 := by rw [stv_k (by decide), stv_s]
  have gx : (stv (stv (stv (stv (stv (stv u (rf G a8 1) (758 + N) x) (rf G a8 1) (765 + N) y) (rf G a8 1) (774 + N) z) (rf G a8 1) (781 + N) (-1)) (rf G a8 1) 739 (c a 3 + 1)) (rf G a8 1) 743 0) (rf G a8 1) (758 + N) = x := by rw [stv_k (by omega), stv_k (by omega), stv_k (by omega), stv_k (by omega), stv_k (by omega), stv_s]
  have gy : (stv (stv (stv (stv (stv (stv u (rf G a8 1) (758 + N) x) (rf G a8 1) (765 + N) y) (rf G a8 1) (774 + N) z) (rf G a8 1) (781 + N) (-1)) (rf G a8 1) 739 (c a 3 + 1)) (rf G a8 1) 743 0) (rf G a8 1) (765 + N) = y := by rw [stv_k (by omega), stv_k (by omega), stv_k (by omega), stv_k (by omega), stv_s]
  have gz : (stv (stv (stv (stv (stv (stv u (rf G a8 1) (758 + N) x) (rf G a8 1) (765 + N) y) (rf G a8 1) (774 + N) z) (rf G a8 1) (781 + N) (-1)) (rf G a8 1) 739 (c a 3 + 1)) (rf G a8 1) 743 0) (rf G a8 1) (774 + N) = z := by rw [stv_k (by omega), stv_k (by omega), stv_k (by omega), stv_s]
  have gw : (stv (stv (stv (stv (stv (stv u (rf G a8 1) (758 + N) x) (rf G a8 1) (765 + N) y) (rf G a8 1) (774 + N) z) (rf G a8 1) (781 + N) (-1)) (rf G a8 1) 739 (c a 3 + 1)) (rf G a8 1) 743 0) (rf G a8 1) (781 + N) = -1 := by rw [stv_k (by omega), stv_k (by omega), stv_s]
  show RB G (rf G a8 1) _ (stv (stv (stv (stv (stv (stv u (rf G a8 1) (758 + N) x) (rf G a8 1) (765 + N) y) (rf G a8 1) (774 + N) z) (rf G a8 1) (781 + N) (-1)) (rf G a8 1) 739 (c a 3 + 1)) (rf G a8 1) 743 0) a 738 ∧ RM G (rf G a8 1) _ (stv (stv (stv (stv (stv (stv u (rf G a8 1) (758 + N) x) (rf G a8 1) (765 + N) y) (rf G a8 1) (774 + N) z) (rf G a8 1) (781 + N) (-1)) (rf G a8 1) 739 (c a 3 + 1)) (rf G a8 1) 743 0) a 738
  generalize (stv (stv (stv (stv (stv (stv (stv c (rf G a 4) N x) (rf G a 5) N y) (rf G (rf G a 6) 0) N z) (rf G (rf G a 6) 1) N (-1)) (rf G a 6) 2 H) a 3 (c a 3 + 1)) a 8 0) = c' at *
  generalize (stv (stv (stv (stv (stv (stv u (rf G a8 1) (758 + N) x) (rf G a8 1) (765 + N) y) (rf G a8 1) (774 + N) z) (rf G a8 1) (781 + N) (-1)) (rf G a8 1) 739 (c a 3 + 1)) (rf G a8 1) 743 0) = u' at *
  have r1 := fo (rf G a 1) (by omega) (by omega) (by omega) (by omega) (by omega) (by omega)
  have r2 := fo (rf G a 2) (by omega) (by omega) (by omega) (by omega) (by omega) (by omega)
  unfold RB RM
  rw [e0, e3, n1, r1, r2, e63, e62]
  refine ⟨⟨⟨by rw [b1, g 738 (by omega) (by omega) (by omega) (by omega) (by omega) (by omega)], g9.symm⟩, ⟨b3, n2⟩, ?_, ?_, ?_, ?_⟩, ⟨⟨by rw [m1, g (738 + 34) (by omega) (by omega) (by omega) (by omega) (by omega) (by omega)], m2⟩, ?_, ?_, ?_⟩⟩
  · exact b5.congr (fun t ht => rfl) (fun t ht => g _ (by omega) (by omega) (by omega) (by omega) (by omega) (by omega))
  · exact b6.congr (fun t ht => rfl) (fun t ht => g _ (by omega) (by omega) (by omega) (by omega) (by omega) (by omega))
  · exact b7.push (fun t ht => f4 t (by omega)) (fun t ht => g _ (by omega) (by omega) (by omega) (by omega) (by omega) (by omega)) f4n gx hx
  · exact b8.push (fun t ht => f5 t (by omega)) (fun t ht => g _ (by omega) (by omega) (by omega) (by omega) (by omega) (by omega)) f5n gy hy
  · rw [g (738 + 35) (by omega) (by omega) (by omega) (by omega) (by omega) (by omega)]
    intro i h7
    obtain ⟨q1, q2⟩ := m3 i h7
    refine ⟨fun hi => ?_, fun hi => q2 (by omega)⟩
    rw [← hH, b_set N (by omega) _ (by omega)]
    by_cases q : i = N
    · rw [decide_eq_true q, Bool.or_true, q2 (by omega)]; rfl
    · rw [decide_eq_false q, Bool.or_false, q1 (by omega)]
  · exact m4.push (fun t ht => fa t (by omega)) (fun t ht => g _ (by omega) (by omega) (by omega) (by omega) (by omega) (by omega)) fan gz hz
  · exact m5.push (fun t ht => fw t (by omega)) (fun t ht => g _ (by omega) (by omega) (by omega) (by omega) (by omega) (by omega)) fwn gw ⟨by decide, by have := b3.1; show (-1 : Int) ≤ _; omega⟩
end DR2
