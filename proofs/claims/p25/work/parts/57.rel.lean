/-! WHAT CLASS AND REFERENCE SHARE BETWEEN TWO CALLS: the text -/
section RELT
variable {G : Gm} {w w1 w2 : Mw} {a7 a8 rd : Nat} {c u c' u' v v1 v2 : Mv} {x r1 r2 : Int32}
theorem RT.cg (h : RT G rd a8 c u) (h1 : c' rd 1 = c rd 1) (h2 : ∀ k, k < 150 → c' (rf G rd 0) k = c (rf G rd 0) k) (h3 : u' a8 5 = u a8 5) (h4 : ∀ k, k < 150 → u' (rf G a8 4) k = u (rf G a8 4) k) : RT G rd a8 c' u' := by
  obtain ⟨q1, q2, q3⟩ := h
  have hb := q2.2
  refine ⟨by rw [h1, h3]; exact q1, by rw [h3]; exact q2, fun k hk => ?_⟩
  rw [h3] at hk
  rw [h2 k (by omega), h4 k (by omega)]
  exact q3 k hk
def Rtx (G : Gm) (a7 a8 : Nat) (v : Mv) : Prop := RT G (rf G a7 1) a8 v v
theorem Rtx.kp (S7 : S_X7 G a7) (S8 : S_X8 G a8) (h : Rtx G a7 a8 v) (hk : Kp G v v1) : Rtx G a7 a8 v1 := RT.cg h (hk _ _ (S_X3.h (S_X7.f1 S7)) 1 0 150 rfl) (fun k q => hk _ _ (S_X3.f0 (S_X7.f1 S7)) k I0 I1 (if_pos q)) (hk _ _ (S_X8.h S8) 5 0 150 rfl) (fun k q => hk _ _ (S_X8.f4 S8) k (-128) 127 (if_pos q))
theorem fr_row {ts : List Nat} {a : Nat} {sh : Sh} (hf : Fr G ts v v1) (hG : G a = some sh) (h : ts.contains (tg sh) = false) : v1 a = v a := funext fun k => hf a k sh hG h
theorem Rtx.fr {ts : List Nat} (S7 : S_X7 G a7) (S8 : S_X8 G a8) (h : Rtx G a7 a8 v) (hf : Fr G ts v v1) (h3 : ts.contains 3 = false) (h4 : ts.contains 250 = false) (h8 : ts.contains 8 = false) (h9 : ts.contains 10250 = false) : Rtx G a7 a8 v1 := RT.congr h (hf _ 1 _ (S_X3.h (S_X7.f1 S7)) h3) (fr_row hf (S_X3.f0 (S_X7.f1 S7)) h4) (hf _ 5 _ (S_X8.h S8) h8) (fr_row hf (S_X8.f4 S8) h9)
theorem Rtx.same (h : Rtx G a7 a8 v) (e : v1 = v) : Rtx G a7 a8 v1 := by rw [e]; exact h
theorem Rtx.zero (S7 : S_X7 G a7) (S8 : S_X8 G a8) (h : Oz G v w []) : Rtx G a7 a8 v := by
  have e1 : v (rf G a7 1) 1 = 0 := h.2.1 _ _ (S_X3.h (S_X7.f1 S7)) 1 0 150 rfl
  have e2 : v a8 5 = 0 := h.2.1 _ _ (S_X8.h S8) 5 0 150 rfl
  have h0 : (0 : Int32).toInt = 0 := by decide
  refine ⟨e1.trans e2.symm, by rw [e2]; exact ⟨by rw [h0]; omega, by rw [h0]; omega⟩, fun k hk => ?_⟩
  rw [e2, h0] at hk
  omega
/-- the class's side of a step, then the reference's -/
theorem Rtx.mid {ts : List Nat} (S8 : S_X8 G a8) (h : Rtx G a7 a8 v) (hf : Fr G ts v v1) (h8 : ts.contains 8 = false) (h9 : ts.contains 10250 = false) : RT G (rf G a7 1) a8 v v1 := RT.congr h rfl rfl (hf _ 5 _ (S_X8.h S8) h8) (fr_row hf (S_X8.f4 S8) h9)
theorem Rtx.join {ts : List Nat} (S7 : S_X7 G a7) (h : RT G (rf G a7 1) a8 v1 v2) (hf : Fr G ts v1 v2) (h3 : ts.contains 3 = false) (h4 : ts.contains 250 = false) : Rtx G a7 a8 v2 := RT.congr h (hf _ 1 _ (S_X3.h (S_X7.f1 S7)) h3) (fr_row hf (S_X3.f0 (S_X7.f1 S7)) h4) rfl rfl
theorem rt_clear (S7 : S_X7 G a7) (S8 : S_X8 G a8) (hm : RT G (rf G a7 1) a8 v v1) (e1 : (r1, v1) = F_X7_clear G w v a7) (e2 : (r2, v2) = F_X8_clear G w1 v1 a8) : r1 = r2 ∧ RT G (rf G a7 1) a8 v1 v2 := by
  have k1 : r1 = v (rf G a7 1) 1 ∧ v1 = stv v (rf G a7 1) 1 0 := Prod.mk.inj e1
  have k2 : r2 = v1 a8 5 ∧ v2 = stv v1 a8 5 0 := Prod.mk.inj e2
  have h0 : (0 : Int32).toInt = 0 := by decide
  refine ⟨k1.1.trans (hm.1.trans k2.1.symm), ?_, ?_, fun k hk => ?_⟩
  · rw [k2.2, stv_s, k1.2, stv_s]
  · rw [k2.2, stv_s]; exact ⟨by rw [h0]; omega, by rw [h0]; omega⟩
  · rw [k2.2, stv_s, h0] at hk
    omega
theorem Rtx.clear (S7 : S_X7 G a7) (S8 : S_X8 G a8) (h : Rtx G a7 a8 v) (e1 : (r1, v1) = F_X7_clear G w v a7) (f1 : Fr G [3] v v1) (e2 : (r2, v2) = F_X8_clear G w1 v1 a8) (f2 : Fr G [8] v1 v2) : r1 = r2 ∧ Rtx G a7 a8 v2 := by
  obtain ⟨q1, q2⟩ := rt_clear S7 S8 (h.mid S8 f1 rfl rfl) e1 e2
  exact ⟨q1, Rtx.join S7 q2 f2 rfl rfl⟩
theorem rt_type (S7 : S_X7 G a7) (S8 : S_X8 G a8) (hm : RT G (rf G a7 1) a8 v v1) (e1 : (r1, v1) = F_X7_type G w v a7 x) (e2 : (r2, v2) = F_X8_type G w1 v1 a8 x) : r1 = r2 ∧ RT G (rf G a7 1) a8 v1 v2 := by
  have n71 : rf G a7 1 ≠ a7 := tg_ne (S_X3.h (S_X7.f1 S7)) (S_X7.h S7) rfl
  have n710 : rf G (rf G a7 1) 0 ≠ a7 := tg_ne (S_X3.f0 (S_X7.f1 S7)) (S_X7.h S7) rfl
  have n30 : rf G (rf G a7 1) 0 ≠ rf G a7 1 := ne30 (S_X7.f1 S7)
  have n84 : rf G a8 4 ≠ a8 := ne84 S8
  have n80 : a8 ≠ rf G a8 0 := fun q => tg_ne (S_X8.f0 S8) (S_X8.h S8) rfl q.symm
  have n840 : rf G a8 4 ≠ rf G a8 0 := tg_ne (S_X8.f4 S8) (S_X8.f0 S8) rfl
  unfold F_X7_type K_X7_type_e K_X7_type_c1 K_X7_type_c2 K_X7_type_c3 F_X7_bad K_X7_bad_e F_X7_full K_X7_full_e F_X3_append K_X3_append_e at e1
  unfold F_X8_type K_X8_type_e K_X8_type_c1 K_X8_type_c2 F_X8_bad K_X8_bad_e F_X8_full K_X8_full_e at e2
  rw [in8 (G' := G) (w' := w) (v' := v)] at e2
  by_cases c1 : F_X7_isWithin G w v x 0 127 = 0
  · rw [if_pos c1] at e1 e2
    obtain ⟨k1, k2⟩ := Prod.mk.inj e1
    obtain ⟨k3, k4⟩ := Prod.mk.inj e2
    exact ⟨k1.trans k3.symm, hm.congr (by rw [k2]; exact stv_a n71) (by rw [k2]; exact stv_row n710) (by rw [k4]; exact stv_a n80) (by rw [k4]; exact stv_row n840)⟩
  · rw [if_neg c1] at e1 e2
    have hx : 0 ≤ x ∧ x ≤ 127 := Classical.byContradiction fun q => c1 (isW0.mpr q)
    have hx0 : 0 ≤ x.toInt := by
      have := i_le.mp hx.1
      rw [show (0 : Int32).toInt = 0 from by decide] at this
      exact this
    have hx1 : x.toInt ≤ 127 := by
      have := i_le.mp hx.2
      rw [show (127 : Int32).toInt = 127 from by decide] at this
      exact this
    obtain ⟨m1, m2, m3⟩ := hm
    have b0 := m2.1
    have b1 := m2.2
    have h150 : (150 : Int32).toInt = 150 := by decide
    by_cases c2 : v (rf G a7 1) 1 < 150
    · rw [if_pos c2] at e1
      have l2 := i_lt.mp c2
      rw [m1, h150] at l2
      rw [if_neg (show ¬ v1 a8 5 = 150 from fun q => by rw [q, h150] at l2; omega)] at e2
      obtain ⟨k1, k2⟩ := Prod.mk.inj e1
      obtain ⟨k3, k4⟩ := Prod.mk.inj e2
      have e5 : (v1 a8 5 + 1).toInt = (v1 a8 5).toInt + 1 := i_add1 ⟨b0, b1⟩ (by omega) (by omega)
      have ex : vp_nar .byte ((Int32.toInt8 x).toInt32) = x := by
        rw [vp_nar_byte, fb_byte_twice]
        exact fb_byte (by omega) (by omega)
      have nb : Int32.toNatClampNeg (v (rf G a7 1) 1) = (v1 a8 5).toInt.toNat := by rw [m1]; rfl
      have nb8 : Int32.toNatClampNeg (v1 a8 5) = (v1 a8 5).toInt.toNat := rfl
      have z5 : v2 a8 5 = v1 a8 5 + 1 := by rw [k4]; exact stv_s
      refine ⟨?_, ?_, ?_, fun k hk => ?_⟩
      · rw [k1, k3, m1]
      · rw [z5, ← m1]
        exact (congrFun (congrFun k2 _) _).trans stv_s
      · rw [z5]
        exact ⟨by omega, by omega⟩
      · rw [z5, e5] at hk
        have t1 : v1 (rf G (rf G a7 1) 0) k = if k = (v1 a8 5).toInt.toNat then x else v (rf G (rf G a7 1) 0) k := by
          rw [show v1 (rf G (rf G a7 1) 0) k = (stv (stv v (rf G (rf G a7 1) 0) (Int32.toNatClampNeg (v (rf G a7 1) 1)) x) (rf G a7 1) 1 (v (rf G a7 1) 1 + 1)) (rf G (rf G a7 1) 0) k from congrFun (congrFun k2 _) _, stv_a n30, nb]
          split
          · next q => rw [q]; exact stv_s
          · next q => exact stv_k q
        have t2 : v2 (rf G a8 4) k = if k = (v1 a8 5).toInt.toNat then x else v1 (rf G a8 4) k := by
          rw [k4, stv_a n84, nb8, ex]
          split
          · next q => rw [q]; exact stv_s
          · next q => exact stv_k q
        rw [t1, t2]
        split
        · exact ⟨rfl, hx0, hx1⟩
        · next q =>
          exact m3 k (by omega)
    · rw [if_neg c2] at e1
      have l2 : v1 a8 5 = 150 := i_eq (by
        have := i_le.mp (nlt c2)
        rw [m1, h150] at this
        rw [h150]
        omega)
      rw [if_pos l2] at e2
      obtain ⟨k1, k2⟩ := Prod.mk.inj e1
      obtain ⟨k3, k4⟩ := Prod.mk.inj e2
      exact ⟨k1.trans k3.symm, RT.congr ⟨m1, m2, m3⟩ (by rw [k2]; exact stv_a n71) (by rw [k2]; exact stv_row n710) (by rw [k4]; exact stv_a n80) (by rw [k4]; exact stv_row n840)⟩
theorem Rtx.type (S7 : S_X7 G a7) (S8 : S_X8 G a8) (h : Rtx G a7 a8 v) (e1 : (r1, v1) = F_X7_type G w v a7 x) (f1 : Fr G [3, 7, 250] v v1) (e2 : (r2, v2) = F_X8_type G w1 v1 a8 x) (f2 : Fr G [8, 103, 10250] v1 v2) : r1 = r2 ∧ Rtx G a7 a8 v2 := by
  obtain ⟨q1, q2⟩ := rt_type S7 S8 (h.mid S8 f1 rfl rfl) e1 e2
  exact ⟨q1, Rtx.join S7 q2 f2 rfl rfl⟩
theorem Rtx.read {h4 : Nat} (S7 : S_X7 G a7) (C7 : Ch7 G a7 h4) (S8 : S_X8 G a8) (hO : Ok G v w) (h : Rtx G a7 a8 v) (q1 : w1 = w ∧ (r1, v1) = F_X7_read G w v a7) (f1 : Fr G [2, 3, 4, 6, 107, 120, 124] v v1) (q2 : w2 = w1 ∧ (r2, v2) = F_X8_read G w1 v1 a8) (f2 : Fr G [8, 116, 1084] v1 v2) (hO2 : Ok G v2 w2) : r1 = r2 ∧ Rtx G a7 a8 v2 := by
  obtain ⟨e1, e2⟩ := q1
  obtain ⟨e3, e4⟩ := q2
  rw [e1] at e4
  obtain ⟨k1, k2⟩ := read_ok S7 C7 S8 hO (h.mid S8 f1 rfl rfl) e2 e4 (hO2.fd rfl (S_X8.h S8) rfl)
  exact ⟨k1, Rtx.join S7 k2 f2 rfl rfl⟩
end RELT
