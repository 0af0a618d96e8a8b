abbrev rm_X4_drop_5 : Room := { frames := 0, cells := 0, slots := 0, locals := 0 }
set_option maxHeartbeats 4000000 in
set_option maxRecDepth 100000 in
theorem ct_X4_drop_5 (l : Launch) (D : va_G) (dA : Nat → ClassId) (G : Gm) (v : Mv) (w : Mw) (hOk : Ok G v w) (h0 : Nat) (S0 : S_X4 G h0 5) : CtI l yX4_drop cX4_drop 2 (some .int) rm_X4_drop_5 D dA G [.ref h0] v w (fun r v1 w1 => Ok G v1 w1 ∧ Kp G v v1 ∧ Bd r 0 5 ∧ Fr G [4] v v1) := by
  refine CtI.of RX4 [(0, .ref h0)] (Nat.le_of_ble_eq_true rfl) rfl (by decide) rfl ?_
  intro p e s m args below meth c E hr
  refine J_aload_n E dX4_drop_0 0 rfl ?_
  refine J_getI E in_X4 rfl (S_X4.h S0) 2 (by decide) wd181 rfl dX4_drop_1 (fun x1 e2 => ?_)
  have b3 : Bd x1 0 5 := Ok.fd hOk e2 (S_X4.h S0) rfl
  refine J_istore_n E [(1, .int x1), (0, .ref h0)] dX4_drop_4 rfl (by decide) rfl ?_
  refine J_aload_n E dX4_drop_5 1 rfl ?_
  refine J_iconst E 0 dX4_drop_6 (by decide) ?_
  refine J_pI E in_X4 rfl (S_X4.h S0) 2 (by decide) wd181 tyX4 tyX4_ok nmX4 rfl rfl .int (by decide +kernel) rfl rfl dX4_drop_7 (fun v4 e5 => ?_)
  have o6 : Ok G v4 w := Ok.pf hOk e5 (S_X4.h S0) rfl ((Bd.lit 0 0 (by decide)).w 0 5 (by decide))
  have k7 : Kp G v v4 := Kp.pf Kp.rf e5 (S_X4.h S0) rfl
  have f8 : Fr G [4] v v4 := Fr.st Fr.rf e5 (S_X4.h S0) rfl
  have e9 : (0 : Int32) = v4 h0 2 := by rw [e5, stv_s]
  refine J_iload_n E dX4_drop_10 0 rfl ?_
  exact J_iret E hr dX4_drop_11 ⟨o6, k7, b3, f8⟩

abbrev rm_X4_drop_6 : Room := { frames := 0, cells := 0, slots := 0, locals := 0 }
set_option maxHeartbeats 4000000 in
set_option maxRecDepth 100000 in
theorem ct_X4_drop_6 (l : Launch) (D : va_G) (dA : Nat → ClassId) (G : Gm) (v : Mv) (w : Mw) (hOk : Ok G v w) (h0 : Nat) (S0 : S_X4 G h0 6) : CtI l yX4_drop cX4_drop 2 (some .int) rm_X4_drop_6 D dA G [.ref h0] v w (fun r v1 w1 => Ok G v1 w1 ∧ Kp G v v1 ∧ Bd r 0 6 ∧ Fr G [4] v v1) := by
  refine CtI.of RX4 [(0, .ref h0)] (Nat.le_of_ble_eq_true rfl) rfl (by decide) rfl ?_
  intro p e s m args below meth c E hr
  refine J_aload_n E dX4_drop_0 0 rfl ?_
  refine J_getI E in_X4 rfl (S_X4.h S0) 2 (by decide) wd181 rfl dX4_drop_1 (fun x1 e2 => ?_)
  have b3 : Bd x1 0 6 := Ok.fd hOk e2 (S_X4.h S0) rfl
  refine J_istore_n E [(1, .int x1), (0, .ref h0)] dX4_drop_4 rfl (by decide) rfl ?_
  refine J_aload_n E dX4_drop_5 1 rfl ?_
  refine J_iconst E 0 dX4_drop_6 (by decide) ?_
  refine J_pI E in_X4 rfl (S_X4.h S0) 2 (by decide) wd181 tyX4 tyX4_ok nmX4 rfl rfl .int (by decide +kernel) rfl rfl dX4_drop_7 (fun v4 e5 => ?_)
  have o6 : Ok G v4 w := Ok.pf hOk e5 (S_X4.h S0) rfl ((Bd.lit 0 0 (by decide)).w 0 6 (by decide))
  have k7 : Kp G v v4 := Kp.pf Kp.rf e5 (S_X4.h S0) rfl
  have f8 : Fr G [4] v v4 := Fr.st Fr.rf e5 (S_X4.h S0) rfl
  have e9 : (0 : Int32) = v4 h0 2 := by rw [e5, stv_s]
  refine J_iload_n E dX4_drop_10 0 rfl ?_
  exact J_iret E hr dX4_drop_11 ⟨o6, k7, b3, f8⟩

abbrev rm_X6_startAnew : Room := { frames := 1, cells := 0, slots := 0, locals := 21 }
set_option maxHeartbeats 4000000 in
set_option maxRecDepth 100000 in
theorem ct_X6_startAnew (l : Launch) (D : va_G) (dA : Nat → ClassId) (G : Gm) (v : Mv) (w : Mw) (hOk : Ok G v w) (h0 : Nat) (S0 : S_X6 G h0) : CtV l yX6_startAnew cX6_startAnew 1 none rm_X6_startAnew D dA G [.ref h0] v w (fun v1 w1 => Ok G v1 w1 ∧ Kp G v v1 ∧ Fr G [2, 4, 6] v v1) := by
  refine CtV.of RX6 [(0, .ref h0)] (Nat.le_of_ble_eq_true rfl) rfl (by decide) rfl ?_
  intro p e s m args below meth c E hr
  refine J_aload_n E dX6_startAnew_0 0 rfl ?_
  refine J_iconst E 0 dX6_startAnew_1 (by decide) ?_
  refine J_pI E in_X6 rfl (S_X6.h S0) 0 (by decide) wd191 tyX6 tyX6_ok nmX6 rfl rfl .int (by decide +kernel) rfl rfl dX6_startAnew_2 (fun v1 e2 => ?_)
  have o3 : Ok G v1 w := Ok.pf hOk e2 (S_X6.h S0) rfl ((Bd.lit 0 0 (by decide)).w 0 7 (by decide))
  have k4 : Kp G v v1 := Kp.pf Kp.rf e2 (S_X6.h S0) rfl
  have f5 : Fr G [2, 4, 6] v v1 := Fr.st Fr.rf e2 (S_X6.h S0) rfl
  have e6 : (0 : Int32) = v1 h0 0 := by rw [e2, stv_s]
  refine J_aload_n E dX6_startAnew_5 0 rfl ?_
  refine J_iconst E 0 dX6_startAnew_6 (by decide) ?_
  refine J_pI E in_X6 rfl (S_X6.h S0) 3 (by decide) wd201 tyX6 tyX6_ok nmX6 rfl rfl .int (by decide +kernel) rfl rfl dX6_startAnew_7 (fun v7 e8 => ?_)
  have o9 : Ok G v7 w := Ok.pf o3 e8 (S_X6.h S0) rfl ((Bd.lit 0 0 (by decide)).w 0 7 (by decide))
  have k10 : Kp G v v7 := Kp.pf k4 e8 (S_X6.h S0) rfl
  have e11 : 0 = v7 h0 0 := by rw [e8, stv_k (by decide)]; exact e6
  have f12 : Fr G [2, 4, 6] v v7 := Fr.st f5 e8 (S_X6.h S0) rfl
  have e13 : (0 : Int32) = v7 h0 3 := by rw [e8, stv_s]
  refine J_aload_n E dX6_startAnew_10 0 rfl ?_
  refine J_getR E in_X6 rfl (S_X6.h S0) 6 (by decide) wd207 rfl dX6_startAnew_11 ?_
  refine J_iconst E 0 dX6_startAnew_14 (by decide) ?_
  refine J_pIN E in_X2 rfl (S_X2.h (S_X6.f6 S0)) 2 (by decide) wd156 tyX2 tyX2_ok nmX2 rfl rfl .int (by decide +kernel) rfl rfl dX6_startAnew_15 (fun v14 e15 => ?_)
  have o16 : Ok G v14 w := Ok.pf o9 e15 (S_X2.h (S_X6.f6 S0)) rfl ((Bd.lit 0 0 (by decide)).w I0 I1 (by decide))
  have k17 : Kp G v v14 := Kp.pf k10 e15 (S_X2.h (S_X6.f6 S0)) rfl
  have e18 : 0 = v14 h0 0 := by rw [e15, stv_k (by decide)]; exact e11
  have e19 : 0 = v14 h0 3 := by rw [e15, stv_k (by decide)]; exact e13
  have f20 : Fr G [2, 4, 6] v v14 := Fr.st f12 e15 (S_X2.h (S_X6.f6 S0)) rfl
  have e21 : (0 : Int32) = v14 (rf G h0 6) 2 := by rw [e15, stv_s]
  refine J_aload_n E dX6_startAnew_18 0 rfl ?_
  refine J_getR E in_X6 rfl (S_X6.h S0) 6 (by decide) wd207 rfl dX6_startAnew_19 ?_
  refine J_iconst E 0 dX6_startAnew_22 (by decide) ?_
  refine J_pIN E in_X2 rfl (S_X2.h (S_X6.f6 S0)) 3 (by decide) wd159 tyX2 tyX2_ok nmX2 rfl rfl .int (by decide +kernel) rfl rfl dX6_startAnew_23 (fun v22 e23 => ?_)
  have o24 : Ok G v22 w := Ok.pf o16 e23 (S_X2.h (S_X6.f6 S0)) rfl ((Bd.lit 0 0 (by decide)).w I0 I1 (by decide))
  have k25 : Kp G v v22 := Kp.pf k17 e23 (S_X2.h (S_X6.f6 S0)) rfl
  have e26 : 0 = v22 h0 0 := by rw [e23, stv_k (by decide)]; exact e18
  have e27 : 0 = v22 h0 3 := by rw [e23, stv_a (tg_ne (S_X6.h S0) (S_X2.h (S_X6.f6 S0)) rfl)]; exact e19
  have e28 : 0 = v22 (rf G h0 6) 2 := by rw [e23, stv_k (by decide)]; exact e21
  have f29 : Fr G [2, 4, 6] v v22 := Fr.st f20 e23 (S_X2.h (S_X6.f6 S0)) rfl
  have e30 : (0 : Int32) = v22 (rf G h0 6) 3 := by rw [e23, stv_s]
  refine J_aload_n E dX6_startAnew_26 0 rfl ?_
  refine J_iconst E 0 dX6_startAnew_27 (by decide) ?_
  refine J_pI E in_X6 rfl (S_X6.h S0) 8 (by decide) wd211 tyX6 tyX6_ok nmX6 rfl rfl .int (by decide +kernel) rfl rfl dX6_startAnew_28 (fun v31 e32 => ?_)
  have o33 : Ok G v31 w := Ok.pf o24 e32 (S_X6.h S0) rfl ((Bd.lit 0 0 (by decide)).w 0 8 (by decide))
  have k34 : Kp G v v31 := Kp.pf k25 e32 (S_X6.h S0) rfl
  have e35 : 0 = v31 h0 0 := by rw [e32, stv_k (by decide)]; exact e26
  have e36 : 0 = v31 h0 3 := by rw [e32, stv_k (by decide)]; exact e27
  have e37 : 0 = v31 (rf G h0 6) 2 := by rw [e32, stv_k (by decide)]; exact e28
  have e38 : 0 = v31 (rf G h0 6) 3 := by rw [e32, stv_k (by decide)]; exact e30
  have f39 : Fr G [2, 4, 6] v v31 := Fr.st f29 e32 (S_X6.h S0) rfl
  have e40 : (0 : Int32) = v31 h0 8 := by rw [e32, stv_s]
  refine J_aload_n E dX6_startAnew_31 0 rfl ?_
  refine J_getR E in_X6 rfl (S_X6.h S0) 9 (by decide) wd213 rfl dX6_startAnew_32 ?_
  refine J_callVNI E cal_X4_drop wd353 rfl (S_X4.h (S_X6.f9 S0)) [] [] (ct_X4_drop_5 l D dA G v31 w (o33) (rf G h0 9) (S_X6.f9 S0)) rfl rfl (Nat.le_of_ble_eq_true rfl) ⟨rfl, rfl⟩ ⟨Nat.le_of_ble_eq_true rfl, Nat.le_of_ble_eq_true rfl⟩ dX6_startAnew_35 (fun x44 v41 w42 p43 => ?_)
  have o45 := p43.1
  have k46 : Kp G v v41 := (k34).tr p43.2.1
  have f47 : Fr G [2, 4, 6] v v41 := Fr.tr f39 (p43.2.2.2) (by decide)
  have b48 : Bd x44 0 5 := p43.2.2.1
  refine J_pop E dX6_startAnew_38 rfl ?_
  refine J_aload_n E dX6_startAnew_39 0 rfl ?_
  refine J_getR E in_X6 rfl (S_X6.h S0) 10 (by decide) wd215 rfl dX6_startAnew_40 ?_
  refine J_callVNI E cal_X4_drop wd353 rfl (S_X4.h (S_X6.f10 S0)) [] [] (ct_X4_drop_6 l D dA G v41 w42 (o45) (rf G h0 10) (S_X6.f10 S0)) rfl rfl (Nat.le_of_ble_eq_true rfl) ⟨rfl, rfl⟩ ⟨Nat.le_of_ble_eq_true rfl, Nat.le_of_ble_eq_true rfl⟩ dX6_startAnew_43 (fun x52 v49 w50 p51 => ?_)
  have o53 := p51.1
  have k54 : Kp G v v49 := (k46).tr p51.2.1
  have f55 : Fr G [2, 4, 6] v v49 := Fr.tr f47 (p51.2.2.2) (by decide)
  have b56 : Bd x52 0 6 := p51.2.2.1
  refine J_pop E dX6_startAnew_46 rfl ?_
  refine J_aload_n E dX6_startAnew_47 0 rfl ?_
  refine J_getR E in_X6 rfl (S_X6.h S0) 11 (by decide) wd217 rfl dX6_startAnew_48 ?_
  refine J_callVNI E cal_X4_drop wd353 rfl (S_X4.h (S_X6.f11 S0)) [] [] (ct_X4_drop_6 l D dA G v49 w50 (o53) (rf G h0 11) (S_X6.f11 S0)) rfl rfl (Nat.le_of_ble_eq_true rfl) ⟨rfl, rfl⟩ ⟨Nat.le_of_ble_eq_true rfl, Nat.le_of_ble_eq_true rfl⟩ dX6_startAnew_51 (fun x60 v57 w58 p59 => ?_)
  have o61 := p59.1
  have k62 : Kp G v v57 := (k54).tr p59.2.1
  have f63 : Fr G [2, 4, 6] v v57 := Fr.tr f55 (p59.2.2.2) (by decide)
  have b64 : Bd x60 0 6 := p59.2.2.1
  refine J_pop E dX6_startAnew_54 rfl ?_
  exact J_vret E hr dX6_startAnew_55 ⟨o61, k62, f63⟩

abbrev rm_X7_isWithin : Room := { frames := 0, cells := 0, slots := 0, locals := 0 }
set_option maxHeartbeats 4000000 in
set_option maxRecDepth 100000 in
theorem ct_X7_isWithin (l : Launch) (D : va_G) (dA : Nat → ClassId) (G : Gm) (v : Mv) (w : Mw) (hOk : Ok G v w) (x_0 : Int32) (x_1 : Int32) (x_2 : Int32) : CtI l yX7_isWithin cX7_isWithin 3 (some .boolean) rm_X7_isWithin D dA G [.int x_0, .int x_1, .int x_2] v w (fun r v1 w1 => v1 = v ∧ w1 = w ∧ Bd r 0 1 ∧ (r = 0 ∨ (x_1 ≤ x_0 ∧ x_0 ≤ x_2)) ∧ (¬ r = 0 ∨ ¬ (x_1 ≤ x_0 ∧ x_0 ≤ x_2))) := by
  refine CtI.of RX7 [(0, .int x_0), (1, .int x_1), (2, .int x_2)] (Nat.le_of_ble_eq_true rfl) rfl (by decide) rfl ?_
  intro p e s m args below meth c E hr
  refine J_iload_n E dX7_isWithin_0 0 rfl ?_
  refine J_iload_n E dX7_isWithin_1 1 rfl ?_
  refine J_icmp_lt E 14 dX7_isWithin_2 (by decide) (fun c1 => ?_) (fun c1 => ?_)
  · refine J_iconst E 0 dX7_isWithin_14 (by decide) ?_
    exact J_zret E hr (Bd.z (Bd.lit 0 0 (by decide)) (by decide)) dX7_isWithin_15 ⟨rfl, rfl, ((Bd.lit 0 0 (by decide)).w 0 1 (by decide)), ⟨(Or.inl rfl), (Or.inr (fun h9 => absurd h9.1 (nle_of_lt c1)))⟩⟩
  · refine J_iload_n E dX7_isWithin_5 0 rfl ?_
    refine J_iload_n E dX7_isWithin_6 2 rfl ?_
    refine J_icmp_gt E 14 dX7_isWithin_7 (by decide) (fun c2 => ?_) (fun c2 => ?_)
    · refine J_iconst E 0 dX7_isWithin_14 (by decide) ?_
      exact J_zret E hr (Bd.z (Bd.lit 0 0 (by decide)) (by decide)) dX7_isWithin_15 ⟨rfl, rfl, ((Bd.lit 0 0 (by decide)).w 0 1 (by decide)), ⟨(Or.inl rfl), (Or.inr (fun h9 => absurd h9.2 (nle_of_lt c2)))⟩⟩
    · refine J_iconst E 1 dX7_isWithin_10 (by decide) ?_
      refine J_goto E 15 dX7_isWithin_11 (by decide) ?_
      exact J_zret E hr (Bd.z (Bd.lit 1 1 (by decide)) (by decide)) dX7_isWithin_15 ⟨rfl, rfl, ((Bd.lit 1 1 (by decide)).w 0 1 (by decide)), ⟨(Or.inr ⟨(nlt c1), (nlt c2)⟩), (Or.inl (by decide))⟩⟩

abbrev rm_X3_passRun : Room := { frames := 1, cells := 0, slots := 0, locals := 22 }
set_option maxHeartbeats 4000000 in
set_option maxRecDepth 100000 in
theorem ct_X3_passRun (l : Launch) (D : va_G) (dA : Nat → ClassId) (G : Gm) (v : Mv) (w : Mw) (hOk : Ok G v w) (h0 : Nat) (S0 : S_X3 G h0) (x_0 : Int32) (x_1 : Int32) (z_0 : Int32) (ez_0 : z_0 = v h0 2) (pre0 : Bd z_0 0 149) (hlt : z_0 < v h0 1) (hwi : x_0 ≤ v (rf G h0 0) z_0.toNatClampNeg ∧ v (rf G h0 0) z_0.toNatClampNeg ≤ x_1) : CtV l yX3_passRun cX3_passRun 3 none rm_X3_passRun D dA G [.ref h0, .int x_0, .int x_1] v w (fun v1 w1 => Ok G v1 w1 ∧ Kp G v v1 ∧ v1 h0 1 = v h0 1 ∧ v1 h0 4 = v h0 4 ∧ Bd (v1 h0 2) 1 150 ∧ Fr G [3] v v1) := by
  refine CtV.of RX3 [(0, .ref h0), (1, .int x_0), (2, .int x_1)] (Nat.le_of_ble_eq_true rfl) rfl (by decide) rfl ?_
  intro p e s m args below meth c E hr
  have J0 : ∀ n : Nat, ∀ (v1 : Mv) (w2 : Mw), Ok G v1 w2 → Kp G v v1 → Fr G [3] v v1 → ∀ x7 : Int32, x7 = v1 h0 2 → Bd x7 0 150 → v1 h0 1 = v h0 1 → v1 h0 4 = v h0 4 → (Bd x7 1 150 ∨ (x7 < v1 h0 1 ∧ (x_0 ≤ v1 (rf G h0 0) x7.toNatClampNeg ∧ v1 (rf G h0 0) x7.toNatClampNeg ≤ x_1))) → Mu x7 150 n → J p l e rm_X3_passRun s m args below meth c 0 0 (MQ below (QcV D dA G (fun v1 w1 => Ok G v1 w1 ∧ Kp G v v1 ∧ v1 h0 1 = v h0 1 ∧ v1 h0 4 = v h0 4 ∧ Bd (v1 h0 2) 1 150 ∧ Fr G [3] v v1)) args s 0 0 (dm G)) D dA G (dm G) s.heap 3 v1 w2 [(0, .ref h0), (1, .int x_0), (2, .int x_1)] 0 [] := by
    intro n
    induction n with
    | zero => intro v1 w2 o3 k4 f5 x7 e8 b6 h1s h4s hI hm; exact hm.zero b6 (by decide)
    | succ n ih0 =>
      intro v1 w2 o3 k4 f5 x7 e8 b6 h1s h4s hI hmu0
      refine J_aload_n E dX3_passRun_0 0 rfl ?_
      refine J_getI E in_X3 rfl (S_X3.h S0) 2 (by decide) wd255 rfl dX3_passRun_1 (fun x9 e10 => ?_)
      rw [show x9 = x7 from e10.trans (e8).symm]
      refine J_aload_n E dX3_passRun_4 0 rfl ?_
      refine J_getI E in_X3 rfl (S_X3.h S0) 1 (by decide) wd253 rfl dX3_passRun_5 (fun x11 e12 => ?_)
      have b13 : Bd x11 0 150 := Ok.fd o3 e12 (S_X3.h S0) rfl
      refine J_icmp_ge E 41 dX3_passRun_8 (by decide) (fun c14 => ?_) (fun c14 => ?_)
      · exact J_vret E hr dX3_passRun_41 ⟨o3, k4, h1s, h4s, Bd.e (hI.resolve_right (fun q => nle_of_lt q.1 (by rw [← e12]; exact c14))) e8.symm, f5⟩
      · have b15 : Bd x7 0 149 := Bd.lt_l (nle c14) b6 b13 149 (by decide)
        have b16 : Bd x11 1 150 := Bd.lt_r (nle c14) b6 b13 1 (by decide)
        refine J_aload_n E dX3_passRun_11 0 rfl ?_
        refine J_getR E in_X3 rfl (S_X3.h S0) 0 (by decide) wd252 rfl dX3_passRun_12 ?_
        refine J_aload_n E dX3_passRun_15 0 rfl ?_
        refine J_getI E in_X3 rfl (S_X3.h S0) 2 (by decide) wd255 rfl dX3_passRun_16 (fun x17 e18 => ?_)
        rw [show x17 = x7 from e18.trans (e8).symm]
        refine J_iald1 E (S_X3.f0 S0) (Bd.in b15 (by decide)) dX3_passRun_19 (fun x19 e20 => ?_)
        refine J_iload_n E dX3_passRun_20 1 rfl ?_
        refine J_iload_n E dX3_passRun_21 2 rfl ?_
        refine J_callSNI E cal_X7_isWithin wd409 [.int x19, .int x_0, .int x_1] [] (ct_X7_isWithin l D dA G v1 w2 (o3) x19 x_0 x_1) rfl rfl (Nat.le_of_ble_eq_true rfl) ⟨rfl, rfl⟩ ⟨Nat.le_of_ble_eq_true rfl, Nat.le_of_ble_eq_true rfl⟩ dX3_passRun_22 (fun x24 v21 w22 p23 => ?_)
        rw [p23.1, p23.2.1]
        have b25 : Bd x24 0 1 := p23.2.2.1
        refine J_if_eq E 41 dX3_passRun_25 (by decide) (fun c26 => ?_) (fun c26 => ?_)
        · have b27 : Bd x24 0 0 := Bd.eq_l c26 b25 (Bd.lit 0 0 (by decide)) 0 0 (by decide)
          exact J_vret E hr dX3_passRun_41 ⟨o3, k4, h1s, h4s, Bd.e (hI.resolve_right (fun q => (p23.2.2.2.2).resolve_left (fun z => z c26) (by rw [e20]; exact q.2))) e8.symm, f5⟩
        · have b28 : Bd x24 1 1 := (Bd.ne_lo c26 b25 (Bd.lit 0 0 (by decide))).w _ _ (by decide)
          have g29 := (p23.2.2.2.1).resolve_left c26
          refine J_aload_n E dX3_passRun_28 0 rfl ?_
          refine J_dup E dX3_passRun_29 rfl ?_
          refine J_getI E in_X3 rfl (S_X3.h S0) 2 (by decide) wd255 rfl dX3_passRun_30 (fun x30 e31 => ?_)
          rw [show x30 = x7 from e31.trans (e8).symm]
          refine J_iconst E 1 dX3_passRun_33 (by decide) ?_
          refine J_iadd E dX3_passRun_34 (fun x32 e33 => ?_)
          have b34 : Bd x32 1 150 := (Bd.add e33 b15 (Bd.lit 1 1 (by decide)) (by decide)).w _ _ (by decide)
          refine J_pI E in_X3 rfl (S_X3.h S0) 2 (by decide) wd255 tyX3 tyX3_ok nmX3 rfl rfl .int (by decide +kernel) rfl rfl dX3_passRun_35 (fun v35 e36 => ?_)
          have o37 : Ok G v35 w2 := Ok.pf o3 e36 (S_X3.h S0) rfl (b34.w 0 150 (by decide))
          have k38 : Kp G v v35 := Kp.pf k4 e36 (S_X3.h S0) rfl
          have e39 : x11 = v35 h0 1 := by rw [e36, stv_k (by decide)]; exact e12
          have f40 : Fr G [3] v v35 := Fr.st f5 e36 (S_X3.h S0) rfl
          have e41 : x32 = v35 h0 2 := by rw [e36, stv_s]
          have h1n : v35 h0 1 = v h0 1 := by rw [e36, stv_k (by decide)]; exact h1s
          have h4n : v35 h0 4 = v h0 4 := by rw [e36, stv_k (by decide)]; exact h4s
          refine J_goto E 0 dX3_passRun_38 (by decide) ?_
          exact J.sub [0, 1, 2] rfl (ih0 v35 w2 (o37) (k38) f40 x32 (e41) (b34.w 0 150 (by decide)) h1n h4n (Or.inl b34) (Mu.step hmu0 e33 b15 (Bd.lit 1 1 (by decide)) (by decide)))
  exact J.sub [0, 1, 2] rfl (J0 151 v w (hOk) (Kp.rf) Fr.rf z_0 (ez_0) (pre0.w 0 150 (by decide)) rfl rfl (Or.inr ⟨hlt, hwi⟩) (Mu.start _ pre0 (by decide)))


abbrev rm_X3_nextToken : Room := { frames := 2, cells := 0, slots := 0, locals := 44 }
set_option maxHeartbeats 4000000 in
set_option maxRecDepth 100000 in
theorem ct_X3_nextToken (l : Launch) (D : va_G) (dA : Nat → ClassId) (G : Gm) (v : Mv) (w : Mw) (hOk : Ok G v w) (h0 : Nat) (S0 : S_X3 G h0) : CtV l yX3_nextToken cX3_nextToken 1 none rm_X3_nextToken D dA G [.ref h0] v w (fun v1 w1 => Ok G v1 w1 ∧ Kp G v v1 ∧ Fr G [3] v v1) := by
  refine CtV.of RX3 [(0, .ref h0)] (Nat.le_of_ble_eq_true rfl) rfl (by decide) rfl ?_
  intro p e s m args below meth c E hr
  have J223 : ∀ (v1 : Mv) (w2 : Mw), Ok G v1 w2 → Kp G v v1 → Fr G [3] v v1 → ∀ x6 : Int32, Bd x6 3 4 → ∀ x9 : Int32, x9 = v1 h0 2 → Bd x9 0 149 → J p l e rm_X3_nextToken s m args below meth c 0 0 (MQ below (QcV D dA G (fun v1 w1 => Ok G v1 w1 ∧ Kp G v v1 ∧ Fr G [3] v v1)) args s 0 0 (dm G)) D dA G (dm G) s.heap 1 v1 w2 [(0, .ref h0)] 223 [.int x6, .ref h0] := by
    intro v1 w2 o3 k4 f5 x6 b7 x9 e10 b8
    refine J_pI E in_X3 rfl (S_X3.h S0) 3 (by decide) wd256 tyX3 tyX3_ok nmX3 rfl rfl .int (by decide +kernel) rfl rfl dX3_nextToken_223 (fun v11 e12 => ?_)
    have o13 : Ok G v11 w2 := Ok.pf o3 e12 (S_X3.h S0) rfl (b7.w I0 I1 (by decide))
    have k14 : Kp G v v11 := Kp.pf k4 e12 (S_X3.h S0) rfl
    have e15 : x9 = v11 h0 2 := by rw [e12, stv_k (by decide)]; exact e10
    have f16 : Fr G [3] v v11 := Fr.st f5 e12 (S_X3.h S0) rfl
    have e17 : x6 = v11 h0 3 := by rw [e12, stv_s]
    refine J_aload_n E dX3_nextToken_226 0 rfl ?_
    refine J_dup E dX3_nextToken_227 rfl ?_
    refine J_getI E in_X3 rfl (S_X3.h S0) 2 (by decide) wd255 rfl dX3_nextToken_228 (fun x18 e19 => ?_)
    rw [show x18 = x9 from e19.trans (e15).symm]
    refine J_iconst E 1 dX3_nextToken_231 (by decide) ?_
    refine J_iadd E dX3_nextToken_232 (fun x20 e21 => ?_)
    have b22 : Bd x20 1 150 := (Bd.add e21 b8 (Bd.lit 1 1 (by decide)) (by decide)).w _ _ (by decide)
    refine J_pI E in_X3 rfl (S_X3.h S0) 2 (by decide) wd255 tyX3 tyX3_ok nmX3 rfl rfl .int (by decide +kernel) rfl rfl dX3_nextToken_233 (fun v23 e24 => ?_)
    have o25 : Ok G v23 w2 := Ok.pf o13 e24 (S_X3.h S0) rfl (b22.w 0 150 (by decide))
    have k26 : Kp G v v23 := Kp.pf k14 e24 (S_X3.h S0) rfl
    have e27 : x6 = v23 h0 3 := by rw [e24, stv_k (by decide)]; exact e17
    have f28 : Fr G [3] v v23 := Fr.st f16 e24 (S_X3.h S0) rfl
    have e29 : x20 = v23 h0 2 := by rw [e24, stv_s]
    exact J_vret E hr dX3_nextToken_236 ⟨o25, k26, f28⟩
  have J196 : ∀ (v30 : Mv) (w31 : Mw), Ok G v30 w31 → Kp G v v30 → Fr G [3] v v30 → ∀ x35 : Int32, ∀ x36 : Int32, J p l e rm_X3_nextToken s m args below meth c 0 0 (MQ below (QcV D dA G (fun v1 w1 => Ok G v1 w1 ∧ Kp G v v1 ∧ Fr G [3] v v1)) args s 0 0 (dm G)) D dA G (dm G) s.heap 1 v30 w31 [] 196 [.int x35, .int x36, .ref h0] := by
    intro v30 w31 o32 k33 f34 x35 x36
    refine J_iadd E dX3_nextToken_196 (fun x37 e38 => ?_)
    refine J_pI E in_X3 rfl (S_X3.h S0) 5 (by decide) wd258 tyX3 tyX3_ok nmX3 rfl rfl .int (by decide +kernel) rfl rfl dX3_nextToken_197 (fun v39 e40 => ?_)
    have o41 : Ok G v39 w31 := Ok.pf o32 e40 (S_X3.h S0) rfl (Bd.any x37)
    have k42 : Kp G v v39 := Kp.pf k33 e40 (S_X3.h S0) rfl
    have f43 : Fr G [3] v v39 := Fr.st f34 e40 (S_X3.h S0) rfl
    have e44 : x37 = v39 h0 5 := by rw [e40, stv_s]
    refine J_goto E 236 dX3_nextToken_200 (by decide) ?_
    exact J_vret E hr dX3_nextToken_236 ⟨o41, k42, f43⟩
  have J146 : ∀ (v45 : Mv) (w46 : Mw), Ok G v45 w46 → Kp G v v45 → Fr G [3] v v45 → ∀ x50 : Int32, Bd x50 2 4 → ∀ x53 : Int32, x53 = v45 h0 2 → Bd x53 1 150 → ∀ x56 : Int32, x56 = v45 h0 4 → Bd x56 0 149 → J p l e rm_X3_nextToken s m args below meth c 0 0 (MQ below (QcV D dA G (fun v1 w1 => Ok G v1 w1 ∧ Kp G v v1 ∧ Fr G [3] v v1)) args s 0 0 (dm G)) D dA G (dm G) s.heap 1 v45 w46 [(0, .ref h0)] 146 [.int x50, .ref h0] := by
    intro v45 w46 o47 k48 f49 x50 b51 x53 e54 b52 x56 e57 b55
    refine J_pI E in_X3 rfl (S_X3.h S0) 3 (by decide) wd256 tyX3 tyX3_ok nmX3 rfl rfl .int (by decide +kernel) rfl rfl dX3_nextToken_146 (fun v58 e59 => ?_)
    have o60 : Ok G v58 w46 := Ok.pf o47 e59 (S_X3.h S0) rfl (b51.w I0 I1 (by decide))
    have k61 : Kp G v v58 := Kp.pf k48 e59 (S_X3.h S0) rfl
    have e62 : x53 = v58 h0 2 := by rw [e59, stv_k (by decide)]; exact e54
    have e63 : x56 = v58 h0 4 := by rw [e59, stv_k (by decide)]; exact e57
    have f64 : Fr G [3] v v58 := Fr.st f49 e59 (S_X3.h S0) rfl
    have e65 : x50 = v58 h0 3 := by rw [e59, stv_s]
    refine J_aload_n E dX3_nextToken_149 0 rfl ?_
    refine J_aload_n E dX3_nextToken_150 0 rfl ?_
    refine J_getR E in_X3 rfl (S_X3.h S0) 0 (by decide) wd252 rfl dX3_nextToken_151 ?_
    refine J_aload_n E dX3_nextToken_154 0 rfl ?_
    refine J_getI E in_X3 rfl (S_X3.h S0) 2 (by decide) wd255 rfl dX3_nextToken_155 (fun x66 e67 => ?_)
    rw [show x66 = x53 from e67.trans (e62).symm]
    refine J_iconst E 1 dX3_nextToken_158 (by decide) ?_
    refine J_isub E dX3_nextToken_159 (fun x68 e69 => ?_)
    have b70 : Bd x68 0 149 := (Bd.sub e69 b52 (Bd.lit 1 1 (by decide)) (by decide)).w _ _ (by decide)
    refine J_iald1 E (S_X3.f0 S0) (Bd.in b70 (by decide)) dX3_nextToken_160 (fun x71 e72 => ?_)
    refine J_bipush E 48 dX3_nextToken_161 (by decide) ?_
    refine J_isub E dX3_nextToken_163 (fun x73 e74 => ?_)
    refine J_aload_n E dX3_nextToken_164 0 rfl ?_
    refine J_getI E in_X3 rfl (S_X3.h S0) 2 (by decide) wd255 rfl dX3_nextToken_165 (fun x75 e76 => ?_)
    rw [show x75 = x53 from e76.trans (e62).symm]
    refine J_aload_n E dX3_nextToken_168 0 rfl ?_
    refine J_getI E in_X3 rfl (S_X3.h S0) 4 (by decide) wd257 rfl dX3_nextToken_169 (fun x77 e78 => ?_)
    rw [show x77 = x56 from e78.trans (e63).symm]
    refine J_isub E dX3_nextToken_172 (fun x79 e80 => ?_)
    have b81 : Bd x79 (-148) 150 := (Bd.sub e80 b52 b55 (by decide)).w _ _ (by decide)
    refine J_iconst E 2 dX3_nextToken_173 (by decide) ?_
    refine J_icmp_ne E 195 dX3_nextToken_174 (by decide) (fun c82 => ?_) (fun c82 => ?_)
    · refine J_iconst E 0 dX3_nextToken_195 (by decide) ?_
      exact J.sub [] rfl (J196 v58 w46 (o60) (k61) f64 0 x73)
    · have b83 : Bd x79 2 2 := Bd.eq_l c82 b81 (Bd.lit 2 2 (by decide)) 2 2 (by decide)
      refine J_bipush E 10 dX3_nextToken_177 (by decide) ?_
      refine J_aload_n E dX3_nextToken_179 0 rfl ?_
      refine J_getR E in_X3 rfl (S_X3.h S0) 0 (by decide) wd252 rfl dX3_nextToken_180 ?_
      refine J_aload_n E dX3_nextToken_183 0 rfl ?_
      refine J_getI E in_X3 rfl (S_X3.h S0) 4 (by decide) wd257 rfl dX3_nextToken_184 (fun x84 e85 => ?_)
      rw [show x84 = x56 from e85.trans (e63).symm]
      refine J_iald1 E (S_X3.f0 S0) (Bd.in b55 (by decide)) dX3_nextToken_187 (fun x86 e87 => ?_)
      refine J_bipush E 48 dX3_nextToken_188 (by decide) ?_
      refine J_isub E dX3_nextToken_190 (fun x88 e89 => ?_)
      refine J_imul E dX3_nextToken_191 (fun x90 e91 => ?_)
      refine J_goto E 196 dX3_nextToken_192 (by decide) ?_
      exact J.sub [] rfl (J196 v58 w46 (o60) (k61) f64 x90 x73)
  have J38 : ∀ (v92 : Mv) (w93 : Mw), Ok G v92 w93 → Kp G v v92 → Fr G [3] v v92 → J p l e rm_X3_nextToken s m args below meth c 0 0 (MQ below (QcV D dA G (fun v1 w1 => Ok G v1 w1 ∧ Kp G v v1 ∧ Fr G [3] v v1)) args s 0 0 (dm G)) D dA G (dm G) s.heap 1 v92 w93 [(0, .ref h0)] 38 [] := by
    intro v92 w93 o94 k95 f96
    refine J_aload_n E dX3_nextToken_38 0 rfl ?_
    refine J_aload_n E dX3_nextToken_39 0 rfl ?_
    refine J_getI E in_X3 rfl (S_X3.h S0) 2 (by decide) wd255 rfl dX3_nextToken_40 (fun x97 e98 => ?_)
    have b99 : Bd x97 0 150 := Ok.fd o94 e98 (S_X3.h S0) rfl
    refine J_pI E in_X3 rfl (S_X3.h S0) 4 (by decide) wd257 tyX3 tyX3_ok nmX3 rfl rfl .int (by decide +kernel) rfl rfl dX3_nextToken_43 (fun v100 e101 => ?_)
    have o102 : Ok G v100 w93 := Ok.pf o94 e101 (S_X3.h S0) rfl b99
    have k103 : Kp G v v100 := Kp.pf k95 e101 (S_X3.h S0) rfl
    have e104 : x97 = v100 h0 2 := by rw [e101, stv_k (by decide)]; exact e98
    have f105 : Fr G [3] v v100 := Fr.st f96 e101 (S_X3.h S0) rfl
    have e106 : x97 = v100 h0 4 := by rw [e101, stv_s]
    refine J_aload_n E dX3_nextToken_46 0 rfl ?_
    refine J_getI E in_X3 rfl (S_X3.h S0) 2 (by decide) wd255 rfl dX3_nextToken_47 (fun x107 e108 => ?_)
    rw [show x107 = x97 from e108.trans (e104).symm]
    refine J_aload_n E dX3_nextToken_50 0 rfl ?_
    refine J_getI E in_X3 rfl (S_X3.h S0) 1 (by decide) wd253 rfl dX3_nextToken_51 (fun x109 e110 => ?_)
    have b111 : Bd x109 0 150 := Ok.fd o102 e110 (S_X3.h S0) rfl
    refine J_icmp_lt E 65 dX3_nextToken_54 (by decide) (fun c112 => ?_) (fun c112 => ?_)
    · have b113 : Bd x97 0 149 := Bd.lt_l c112 b99 b111 149 (by decide)
      have b114 : Bd x109 1 150 := Bd.lt_r c112 b99 b111 1 (by decide)
      refine J_aload_n E dX3_nextToken_65 0 rfl ?_
      refine J_getR E in_X3 rfl (S_X3.h S0) 0 (by decide) wd252 rfl dX3_nextToken_66 ?_
      refine J_aload_n E dX3_nextToken_69 0 rfl ?_
      refine J_getI E in_X3 rfl (S_X3.h S0) 2 (by decide) wd255 rfl dX3_nextToken_70 (fun x115 e116 => ?_)
      rw [show x115 = x97 from e116.trans (e104).symm]
      refine J_iald1 E (S_X3.f0 S0) (Bd.in b113 (by decide)) dX3_nextToken_73 (fun x117 e118 => ?_)
      refine J_bipush E 97 dX3_nextToken_74 (by decide) ?_
      refine J_bipush E 122 dX3_nextToken_76 (by decide) ?_
      refine J_callSNI E cal_X7_isWithin wd409 [.int x117, .int 97, .int 122] [] (ct_X7_isWithin l D dA G v100 w93 (o102) x117 97 122) rfl rfl (Nat.le_of_ble_eq_true rfl) ⟨rfl, rfl⟩ ⟨Nat.le_of_ble_eq_true rfl, Nat.le_of_ble_eq_true rfl⟩ dX3_nextToken_78 (fun x122 v119 w120 p121 => ?_)
      rw [p121.1, p121.2.1]
      have b123 : Bd x122 0 1 := p121.2.2.1
      refine J_if_eq E 100 dX3_nextToken_81 (by decide) (fun c124 => ?_) (fun c124 => ?_)
      · have b125 : Bd x122 0 0 := Bd.eq_l c124 b123 (Bd.lit 0 0 (by decide)) 0 0 (by decide)
        have g126 : ¬ (97 ≤ x117 ∧ x117 ≤ 122) := (p121.2.2.2.2).resolve_left (fun h9 => h9 c124)
        refine J_aload_n E dX3_nextToken_100 0 rfl ?_
        refine J_getR E in_X3 rfl (S_X3.h S0) 0 (by decide) wd252 rfl dX3_nextToken_101 ?_
        refine J_aload_n E dX3_nextToken_104 0 rfl ?_
        refine J_getI E in_X3 rfl (S_X3.h S0) 2 (by decide) wd255 rfl dX3_nextToken_105 (fun x127 e128 => ?_)
        rw [show x127 = x97 from e128.trans (e104).symm]
        refine J_iald1 E (S_X3.f0 S0) (Bd.in b113 (by decide)) dX3_nextToken_108 (fun x129 e130 => ?_)
        refine J_bipush E 48 dX3_nextToken_109 (by decide) ?_
        refine J_bipush E 57 dX3_nextToken_111 (by decide) ?_
        refine J_callSNI E cal_X7_isWithin wd409 [.int x129, .int 48, .int 57] [] (ct_X7_isWithin l D dA G v100 w93 (o102) x129 48 57) rfl rfl (Nat.le_of_ble_eq_true rfl) ⟨rfl, rfl⟩ ⟨Nat.le_of_ble_eq_true rfl, Nat.le_of_ble_eq_true rfl⟩ dX3_nextToken_113 (fun x134 v131 w132 p133 => ?_)
        rw [p133.1, p133.2.1]
        have b135 : Bd x134 0 1 := p133.2.2.1
        refine J_if_eq E 203 dX3_nextToken_116 (by decide) (fun c136 => ?_) (fun c136 => ?_)
        · have b137 : Bd x134 0 0 := Bd.eq_l c136 b135 (Bd.lit 0 0 (by decide)) 0 0 (by decide)
          have g138 : ¬ (48 ≤ x129 ∧ x129 ≤ 57) := (p133.2.2.2.2).resolve_left (fun h9 => h9 c136)
          refine J_aload_n E dX3_nextToken_203 0 rfl ?_
          refine J_aload_n E dX3_nextToken_204 0 rfl ?_
          refine J_getR E in_X3 rfl (S_X3.h S0) 0 (by decide) wd252 rfl dX3_nextToken_205 ?_
          refine J_aload_n E dX3_nextToken_208 0 rfl ?_
          refine J_getI E in_X3 rfl (S_X3.h S0) 2 (by decide) wd255 rfl dX3_nextToken_209 (fun x139 e140 => ?_)
          rw [show x139 = x97 from e140.trans (e104).symm]
          refine J_iald1 E (S_X3.f0 S0) (Bd.in b113 (by decide)) dX3_nextToken_212 (fun x141 e142 => ?_)
          refine J_bipush E 59 dX3_nextToken_213 (by decide) ?_
          refine J_icmp_ne E 222 dX3_nextToken_215 (by decide) (fun c143 => ?_) (fun c143 => ?_)
          · refine J_iconst E 4 dX3_nextToken_222 (by decide) ?_
            exact J.sub [0] rfl (J223 v100 w93 (o102) (k103) f105 4 ((Bd.lit 4 4 (by decide)).w 3 4 (by decide)) x97 (e104) b113)
          · have b144 : Bd x141 59 59 := Bd.eq_l c143 (Bd.any x141) (Bd.lit 59 59 (by decide)) 59 59 (by decide)
            refine J_iconst E 3 dX3_nextToken_218 (by decide) ?_
            refine J_goto E 223 dX3_nextToken_219 (by decide) ?_
            exact J.sub [0] rfl (J223 v100 w93 (o102) (k103) f105 3 ((Bd.lit 3 3 (by decide)).w 3 4 (by decide)) x97 (e104) b113)
        · have b145 : Bd x134 1 1 := (Bd.ne_lo c136 b135 (Bd.lit 0 0 (by decide))).w _ _ (by decide)
          have g146 := (p133.2.2.2.1).resolve_left c136
          have b147 : Bd x129 48 I1 := Bd.le_r g146.1 (Bd.lit 48 48 (by decide)) (Bd.any x129) 48 (by decide)
          have b148 : Bd x129 48 57 := Bd.le_l g146.2 b147 (Bd.lit 57 57 (by decide)) 57 (by decide)
          refine J_aload_n E dX3_nextToken_119 0 rfl ?_
          refine J_bipush E 48 dX3_nextToken_120 (by decide) ?_
          refine J_bipush E 57 dX3_nextToken_122 (by decide) ?_
          refine J_callVV E cal_X3_passRun wd410 rfl (S_X3.h S0) [.int 48, .int 57] [] (ct_X3_passRun l D dA G v100 w93 (o102) h0 S0 48 57 x97 (e104) b113 (by rw [← (e110)]; exact c112) (by rw [← e130]; exact ⟨g146.1, g146.2⟩)) rfl rfl (Nat.le_of_ble_eq_true rfl) ⟨rfl, rfl⟩ ⟨Nat.le_of_ble_eq_true rfl, Nat.le_of_ble_eq_true rfl⟩ dX3_nextToken_124 (fun v149 w150 p151 => ?_)
          have o153 := p151.1
          have k154 : Kp G v v149 := (k103).tr p151.2.1
          have f155 : Fr G [3] v v149 := Fr.tr f105 (p151.2.2.2.2.2) (by decide)
          obtain ⟨x156, e157⟩ : ∃ z : Int32, z = v149 h0 2 := ⟨_, rfl⟩
          have b158 : Bd x156 0 150 := Ok.fd o153 e157 (S_X3.h S0) rfl
          have b159 : Bd x156 1 150 := Bd.e (p151.2.2.2.2.1) e157
          refine J_aload_n E dX3_nextToken_127 0 rfl ?_
          refine J_aload_n E dX3_nextToken_128 0 rfl ?_
          refine J_getI E in_X3 rfl (S_X3.h S0) 2 (by decide) wd255 rfl dX3_nextToken_129 (fun x160 e161 => ?_)
          rw [show x160 = x156 from e161.trans (e157).symm]
          refine J_aload_n E dX3_nextToken_132 0 rfl ?_
          refine J_getI E in_X3 rfl (S_X3.h S0) 4 (by decide) wd257 rfl dX3_nextToken_133 (fun x162 e163 => ?_)
          rw [show x162 = x97 from e163.trans (((e106).trans ((p151.2.2.2.1)).symm)).symm]
          refine J_isub E dX3_nextToken_136 (fun x164 e165 => ?_)
          have b166 : Bd x164 (-148) 150 := (Bd.sub e165 b159 b113 (by decide)).w _ _ (by decide)
          refine J_iconst E 2 dX3_nextToken_137 (by decide) ?_
          refine J_icmp_gt E 145 dX3_nextToken_138 (by decide) (fun c167 => ?_) (fun c167 => ?_)
          · have b168 : Bd x164 3 150 := Bd.lt_r c167 (Bd.lit 2 2 (by decide)) b166 3 (by decide)
            refine J_iconst E 4 dX3_nextToken_145 (by decide) ?_
            exact J.sub [0] rfl (J146 v149 w150 (o153) (k154) f155 4 ((Bd.lit 4 4 (by decide)).w 2 4 (by decide)) x156 (e157) b159 x97 (((e106).trans ((p151.2.2.2.1)).symm)) b113)
          · have b169 : Bd x164 (-148) 2 := Bd.le_l (nlt c167) b166 (Bd.lit 2 2 (by decide)) 2 (by decide)
            refine J_iconst E 2 dX3_nextToken_141 (by decide) ?_
            refine J_goto E 146 dX3_nextToken_142 (by decide) ?_
            exact J.sub [0] rfl (J146 v149 w150 (o153) (k154) f155 2 ((Bd.lit 2 2 (by decide)).w 2 4 (by decide)) x156 (e157) b159 x97 (((e106).trans ((p151.2.2.2.1)).symm)) b113)
      · have b170 : Bd x122 1 1 := (Bd.ne_lo c124 b123 (Bd.lit 0 0 (by decide))).w _ _ (by decide)
        have g171 := (p121.2.2.2.1).resolve_left c124
        have b172 : Bd x117 97 I1 := Bd.le_r g171.1 (Bd.lit 97 97 (by decide)) (Bd.any x117) 97 (by decide)
        have b173 : Bd x117 97 122 := Bd.le_l g171.2 b172 (Bd.lit 122 122 (by decide)) 122 (by decide)
        refine J_aload_n E dX3_nextToken_84 0 rfl ?_
        refine J_bipush E 97 dX3_nextToken_85 (by decide) ?_
        refine J_bipush E 122 dX3_nextToken_87 (by decide) ?_
        refine J_callVV E cal_X3_passRun wd410 rfl (S_X3.h S0) [.int 97, .int 122] [] (ct_X3_passRun l D dA G v100 w93 (o102) h0 S0 97 122 x97 (e104) b113 (by rw [← (e110)]; exact c112) (by rw [← e118]; exact ⟨g171.1, g171.2⟩)) rfl rfl (Nat.le_of_ble_eq_true rfl) ⟨rfl, rfl⟩ ⟨Nat.le_of_ble_eq_true rfl, Nat.le_of_ble_eq_true rfl⟩ dX3_nextToken_89 (fun v174 w175 p176 => ?_)
        have o178 := p176.1
        have k179 : Kp G v v174 := (k103).tr p176.2.1
        have f180 : Fr G [3] v v174 := Fr.tr f105 (p176.2.2.2.2.2) (by decide)
        obtain ⟨x181, e182⟩ : ∃ z : Int32, z = v174 h0 2 := ⟨_, rfl⟩
        have b183 : Bd x181 0 150 := Ok.fd o178 e182 (S_X3.h S0) rfl
        have b184 : Bd x181 1 150 := Bd.e (p176.2.2.2.2.1) e182
        refine J_aload_n E dX3_nextToken_92 0 rfl ?_
        refine J_iconst E 1 dX3_nextToken_93 (by decide) ?_
        refine J_pI E in_X3 rfl (S_X3.h S0) 3 (by decide) wd256 tyX3 tyX3_ok nmX3 rfl rfl .int (by decide +kernel) rfl rfl dX3_nextToken_94 (fun v185 e186 => ?_)
        have o187 : Ok G v185 w175 := Ok.pf o178 e186 (S_X3.h S0) rfl ((Bd.lit 1 1 (by decide)).w I0 I1 (by decide))
        have k188 : Kp G v v185 := Kp.pf k179 e186 (S_X3.h S0) rfl
        have e189 : x109 = v185 h0 1 := by rw [e186, stv_k (by decide)]; exact ((e110).trans ((p176.2.2.1)).symm)
        have e190 : x97 = v185 h0 4 := by rw [e186, stv_k (by decide)]; exact ((e106).trans ((p176.2.2.2.1)).symm)
        have e191 : x181 = v185 h0 2 := by rw [e186, stv_k (by decide)]; exact e182
        have f192 : Fr G [3] v v185 := Fr.st f180 e186 (S_X3.h S0) rfl
        have e193 : (1 : Int32) = v185 h0 3 := by rw [e186, stv_s]
        refine J_goto E 236 dX3_nextToken_97 (by decide) ?_
        exact J_vret E hr dX3_nextToken_236 ⟨o187, k188, f192⟩
    · refine J_aload_n E dX3_nextToken_57 0 rfl ?_
      refine J_iconst E 0 dX3_nextToken_58 (by decide) ?_
      refine J_pI E in_X3 rfl (S_X3.h S0) 3 (by decide) wd256 tyX3 tyX3_ok nmX3 rfl rfl .int (by decide +kernel) rfl rfl dX3_nextToken_59 (fun v194 e195 => ?_)
      have o196 : Ok G v194 w93 := Ok.pf o102 e195 (S_X3.h S0) rfl ((Bd.lit 0 0 (by decide)).w I0 I1 (by decide))
      have k197 : Kp G v v194 := Kp.pf k103 e195 (S_X3.h S0) rfl
      have e198 : x97 = v194 h0 2 := by rw [e195, stv_k (by decide)]; exact e104
      have e199 : x97 = v194 h0 4 := by rw [e195, stv_k (by decide)]; exact e106
      have e200 : x109 = v194 h0 1 := by rw [e195, stv_k (by decide)]; exact e110
      have f201 : Fr G [3] v v194 := Fr.st f105 e195 (S_X3.h S0) rfl
      have e202 : (0 : Int32) = v194 h0 3 := by rw [e195, stv_s]
      refine J_goto E 236 dX3_nextToken_62 (by decide) ?_
      exact J_vret E hr dX3_nextToken_236 ⟨o196, k197, f201⟩
  have J0 : ∀ n : Nat, ∀ (v203 : Mv) (w204 : Mw), Ok G v203 w204 → Kp G v v203 → Fr G [3] v v203 → ∀ x209 : Int32, x209 = v203 h0 2 → Bd x209 0 150 → Mu x209 150 n → J p l e rm_X3_nextToken s m args below meth c 0 0 (MQ below (QcV D dA G (fun v1 w1 => Ok G v1 w1 ∧ Kp G v v1 ∧ Fr G [3] v v1)) args s 0 0 (dm G)) D dA G (dm G) s.heap 1 v203 w204 [(0, .ref h0)] 0 [] := by
    intro n
    induction n with
    | zero => intro v203 w204 o205 k206 f207 x209 e210 b208 hm; exact hm.zero b208 (by decide)
    | succ n ih0 =>
      intro v203 w204 o205 k206 f207 x209 e210 b208 hmu0
      refine J_aload_n E dX3_nextToken_0 0 rfl ?_
      refine J_getI E in_X3 rfl (S_X3.h S0) 2 (by decide) wd255 rfl dX3_nextToken_1 (fun x211 e212 => ?_)
      rw [show x211 = x209 from e212.trans (e210).symm]
      refine J_aload_n E dX3_nextToken_4 0 rfl ?_
      refine J_getI E in_X3 rfl (S_X3.h S0) 1 (by decide) wd253 rfl dX3_nextToken_5 (fun x213 e214 => ?_)
      have b215 : Bd x213 0 150 := Ok.fd o205 e214 (S_X3.h S0) rfl
      refine J_icmp_ge E 38 dX3_nextToken_8 (by decide) (fun c216 => ?_) (fun c216 => ?_)
      · exact J.sub [0] rfl (J38 v203 w204 (o205) (k206) f207)
      · have b217 : Bd x209 0 149 := Bd.lt_l (nle c216) b208 b215 149 (by decide)
        have b218 : Bd x213 1 150 := Bd.lt_r (nle c216) b208 b215 1 (by decide)
        refine J_aload_n E dX3_nextToken_11 0 rfl ?_
        refine J_getR E in_X3 rfl (S_X3.h S0) 0 (by decide) wd252 rfl dX3_nextToken_12 ?_
        refine J_aload_n E dX3_nextToken_15 0 rfl ?_
        refine J_getI E in_X3 rfl (S_X3.h S0) 2 (by decide) wd255 rfl dX3_nextToken_16 (fun x219 e220 => ?_)
        rw [show x219 = x209 from e220.trans (e210).symm]
        refine J_iald1 E (S_X3.f0 S0) (Bd.in b217 (by decide)) dX3_nextToken_19 (fun x221 e222 => ?_)
        refine J_bipush E 32 dX3_nextToken_20 (by decide) ?_
        refine J_icmp_ne E 38 dX3_nextToken_22 (by decide) (fun c223 => ?_) (fun c223 => ?_)
        · exact J.sub [0] rfl (J38 v203 w204 (o205) (k206) f207)
        · have b224 : Bd x221 32 32 := Bd.eq_l c223 (Bd.any x221) (Bd.lit 32 32 (by decide)) 32 32 (by decide)
          refine J_aload_n E dX3_nextToken_25 0 rfl ?_
          refine J_dup E dX3_nextToken_26 rfl ?_
          refine J_getI E in_X3 rfl (S_X3.h S0) 2 (by decide) wd255 rfl dX3_nextToken_27 (fun x225 e226 => ?_)
          rw [show x225 = x209 from e226.trans (e210).symm]
          refine J_iconst E 1 dX3_nextToken_30 (by decide) ?_
          refine J_iadd E dX3_nextToken_31 (fun x227 e228 => ?_)
          have b229 : Bd x227 1 150 := (Bd.add e228 b217 (Bd.lit 1 1 (by decide)) (by decide)).w _ _ (by decide)
          refine J_pI E in_X3 rfl (S_X3.h S0) 2 (by decide) wd255 tyX3 tyX3_ok nmX3 rfl rfl .int (by decide +kernel) rfl rfl dX3_nextToken_32 (fun v230 e231 => ?_)
          have o232 : Ok G v230 w204 := Ok.pf o205 e231 (S_X3.h S0) rfl (b229.w 0 150 (by decide))
          have k233 : Kp G v v230 := Kp.pf k206 e231 (S_X3.h S0) rfl
          have e234 : x213 = v230 h0 1 := by rw [e231, stv_k (by decide)]; exact e214
          have f235 : Fr G [3] v v230 := Fr.st f207 e231 (S_X3.h S0) rfl
          have e236 : x227 = v230 h0 2 := by rw [e231, stv_s]
          refine J_goto E 0 dX3_nextToken_35 (by decide) ?_
          exact J.sub [0] rfl (ih0 v230 w204 (o232) (k233) f235 x227 (e236) (b229.w 0 150 (by decide)) (Mu.step hmu0 e228 b217 (Bd.lit 1 1 (by decide)) (by decide)))
  obtain ⟨x237, e238⟩ : ∃ z : Int32, z = v h0 2 := ⟨_, rfl⟩
  have b239 : Bd x237 0 150 := Ok.fd hOk e238 (S_X3.h S0) rfl
  exact J.sub [0] rfl (J0 151 v w (hOk) (Kp.rf) Fr.rf x237 (e238) b239 (Mu.start _ b239 (by decide)))

abbrev rm_X6_addThing : Room := { frames := 0, cells := 0, slots := 0, locals := 0 }
set_option maxHeartbeats 4000000 in
set_option maxRecDepth 100000 in
theorem ct_X6_addThing (l : Launch) (D : va_G) (dA : Nat → ClassId) (G : Gm) (v : Mv) (w : Mw) (hOk : Ok G v w) (h0 : Nat) (S0 : S_X6 G h0) (x_0 : Int32) (bx_0 : Bd x_0 0 5) (x_1 : Int32) (bx_1 : Bd x_1 1 30) (z_0 : Int32) (ez_0 : z_0 = v h0 0) (pre0 : Bd z_0 0 6) : CtI l yX6_addThing cX6_addThing 4 (some .int) rm_X6_addThing D dA G [.ref h0, .int x_0, .int x_1] v w (fun r v1 w1 => Ok G v1 w1 ∧ Kp G v v1 ∧ Bd r 0 6 ∧ Fr G [6, 107] v v1) := by
  refine CtI.of RX6 [(0, .ref h0), (1, .int x_0), (2, .int x_1)] (Nat.le_of_ble_eq_true rfl) rfl (by decide) rfl ?_
  intro p e s m args below meth c E hr
  refine J_aload_n E dX6_addThing_0 0 rfl ?_
  refine J_getI E in_X6 rfl (S_X6.h S0) 0 (by decide) wd191 rfl dX6_addThing_1 (fun x1 e2 => ?_)
  rw [show x1 = z_0 from e2.trans (ez_0).symm]
  refine J_istore_n E [(3, .int z_0), (0, .ref h0), (1, .int x_0), (2, .int x_1)] dX6_addThing_4 rfl (by decide) rfl ?_
  refine J_aload_n E dX6_addThing_5 1 rfl ?_
  refine J_getR E in_X6 rfl (S_X6.h S0) 1 (by decide) wd195 rfl dX6_addThing_6 ?_
  refine J_iload_n E dX6_addThing_9 0 rfl ?_
  refine J_iload_n E dX6_addThing_10 2 rfl ?_
  refine J_iast1 E (S_X6.f1 S0) (Bd.in pre0 (by decide)) dX6_addThing_11 (fun v3 e4 => ?_)
  have o5 : Ok G v3 w := by rw [e4]; exact Ok.sv hOk (S_X6.f1 S0) pre0 bx_0 0 7 (by decide) (by decide +kernel)
  have k6 : Kp G v v3 := by rw [e4]; exact Kp.sv Kp.rf (S_X6.f1 S0) pre0 0 7 0 5 (by decide) (by decide +kernel)
  have f7 : Fr G [6, 107] v v3 := Fr.st Fr.rf e4 (S_X6.f1 S0) rfl
  have e8 : z_0 = v3 h0 0 := by rw [e4, stv_a (tg_ne (S_X6.h S0) ((S_X6.f1 S0)) rfl)]; exact ez_0
  refine J_aload_n E dX6_addThing_12 1 rfl ?_
  refine J_getR E in_X6 rfl (S_X6.h S0) 2 (by decide) wd197 rfl dX6_addThing_13 ?_
  refine J_iload_n E dX6_addThing_16 0 rfl ?_
  refine J_iload_n E dX6_addThing_17 3 rfl ?_
  refine J_iast1 E (S_X6.f2 S0) (Bd.in pre0 (by decide)) dX6_addThing_18 (fun v9 e10 => ?_)
  have o11 : Ok G v9 w := by rw [e10]; exact Ok.sv o5 (S_X6.f2 S0) pre0 bx_1 0 7 (by decide) (by decide +kernel)
  have k12 : Kp G v v9 := by rw [e10]; exact Kp.sv k6 (S_X6.f2 S0) pre0 0 7 1 30 (by decide) (by decide +kernel)
  have f13 : Fr G [6, 107] v v9 := Fr.st f7 e10 (S_X6.f2 S0) rfl
  have e14 : z_0 = v9 h0 0 := by rw [e10, stv_a (tg_ne (S_X6.h S0) ((S_X6.f2 S0)) rfl)]; exact e8
  refine J_aload_n E dX6_addThing_19 1 rfl ?_
  refine J_dup E dX6_addThing_20 rfl ?_
  refine J_getI E in_X6 rfl (S_X6.h S0) 0 (by decide) wd191 rfl dX6_addThing_21 (fun x15 e16 => ?_)
  rw [show x15 = z_0 from e16.trans (e14).symm]
  refine J_iconst E 1 dX6_addThing_24 (by decide) ?_
  refine J_iadd E dX6_addThing_25 (fun x17 e18 => ?_)
  have b19 : Bd x17 1 7 := (Bd.add e18 pre0 (Bd.lit 1 1 (by decide)) (by decide)).w _ _ (by decide)
  refine J_pI E in_X6 rfl (S_X6.h S0) 0 (by decide) wd191 tyX6 tyX6_ok nmX6 rfl rfl .int (by decide +kernel) rfl rfl dX6_addThing_26 (fun v20 e21 => ?_)
  have o22 : Ok G v20 w := Ok.pf o11 e21 (S_X6.h S0) rfl (b19.w 0 7 (by decide))
  have k23 : Kp G v v20 := Kp.pf k12 e21 (S_X6.h S0) rfl
  have f24 : Fr G [6, 107] v v20 := Fr.st f13 e21 (S_X6.h S0) rfl
  have e25 : x17 = v20 h0 0 := by rw [e21, stv_s]
  refine J_aload_n E dX6_addThing_29 1 rfl ?_
  refine J_iconst E 0 dX6_addThing_30 (by decide) ?_
  refine J_pI E in_X6 rfl (S_X6.h S0) 8 (by decide) wd211 tyX6 tyX6_ok nmX6 rfl rfl .int (by decide +kernel) rfl rfl dX6_addThing_31 (fun v26 e27 => ?_)
  have o28 : Ok G v26 w := Ok.pf o22 e27 (S_X6.h S0) rfl ((Bd.lit 0 0 (by decide)).w 0 8 (by decide))
  have k29 : Kp G v v26 := Kp.pf k23 e27 (S_X6.h S0) rfl
  have e30 : x17 = v26 h0 0 := by rw [e27, stv_k (by decide)]; exact e25
  have f31 : Fr G [6, 107] v v26 := Fr.st f24 e27 (S_X6.h S0) rfl
  have e32 : (0 : Int32) = v26 h0 8 := by rw [e27, stv_s]
  refine J_iload_n E dX6_addThing_34 0 rfl ?_
  exact J_iret E hr dX6_addThing_35 ⟨o28, k29, pre0, f31⟩

abbrev rm_X6_addOne : Room := { frames := 0, cells := 0, slots := 0, locals := 0 }
set_option maxHeartbeats 4000000 in
set_option maxRecDepth 100000 in
theorem ct_X6_addOne (l : Launch) (D : va_G) (dA : Nat → ClassId) (G : Gm) (v : Mv) (w : Mw) (hOk : Ok G v w) (h0 : Nat) (S0 : S_X6 G h0) (x_0 : Int32) (bx_0 : Bd x_0 0 5) (x_1 : Int32) (bx_1 : Bd x_1 1 9) (x_2 : Int32) (bx_2 : Bd x_2 0 99) (z_0 : Int32) (ez_0 : z_0 = v h0 3) (pre0 : Bd z_0 0 6) : CtI l yX6_addOne cX6_addOne 5 (some .int) rm_X6_addOne D dA G [.ref h0, .int x_0, .int x_1, .int x_2] v w (fun r v1 w1 => Ok G v1 w1 ∧ Kp G v v1 ∧ Bd r 0 6 ∧ Fr G [2, 6, 107] v v1) := by
  refine CtI.of RX6 [(0, .ref h0), (1, .int x_0), (2, .int x_1), (3, .int x_2)] (Nat.le_of_ble_eq_true rfl) rfl (by decide) rfl ?_
  intro p e s m args below meth c E hr
  refine J_aload_n E dX6_addOne_0 0 rfl ?_
  refine J_getI E in_X6 rfl (S_X6.h S0) 3 (by decide) wd201 rfl dX6_addOne_1 (fun x1 e2 => ?_)
  rw [show x1 = z_0 from e2.trans (ez_0).symm]
  refine J_istore E [(4, .int z_0), (0, .ref h0), (1, .int x_0), (2, .int x_1), (3, .int x_2)] dX6_addOne_4 (by decide) rfl ?_
  refine J_aload_n E dX6_addOne_6 1 rfl ?_
  refine J_getR E in_X6 rfl (S_X6.h S0) 4 (by decide) wd203 rfl dX6_addOne_7 ?_
  refine J_iload E dX6_addOne_10 0 rfl ?_
  refine J_iload_n E dX6_addOne_12 2 rfl ?_
  refine J_iast1 E (S_X6.f4 S0) (Bd.in pre0 (by decide)) dX6_addOne_13 (fun v3 e4 => ?_)
  have o5 : Ok G v3 w := by rw [e4]; exact Ok.sv hOk (S_X6.f4 S0) pre0 bx_0 0 7 (by decide) (by decide +kernel)
  have k6 : Kp G v v3 := by rw [e4]; exact Kp.sv Kp.rf (S_X6.f4 S0) pre0 0 7 0 5 (by decide) (by decide +kernel)
  have f7 : Fr G [2, 6, 107] v v3 := Fr.st Fr.rf e4 (S_X6.f4 S0) rfl
  have e8 : z_0 = v3 h0 3 := by rw [e4, stv_a (tg_ne (S_X6.h S0) ((S_X6.f4 S0)) rfl)]; exact ez_0
  refine J_aload_n E dX6_addOne_14 1 rfl ?_
  refine J_getR E in_X6 rfl (S_X6.h S0) 5 (by decide) wd205 rfl dX6_addOne_15 ?_
  refine J_iload E dX6_addOne_18 0 rfl ?_
  refine J_iload_n E dX6_addOne_20 3 rfl ?_
  refine J_iast1 E (S_X6.f5 S0) (Bd.in pre0 (by decide)) dX6_addOne_21 (fun v9 e10 => ?_)
  have o11 : Ok G v9 w := by rw [e10]; exact Ok.sv o5 (S_X6.f5 S0) pre0 bx_1 0 7 (by decide) (by decide +kernel)
  have k12 : Kp G v v9 := by rw [e10]; exact Kp.sv k6 (S_X6.f5 S0) pre0 0 7 1 9 (by decide) (by decide +kernel)
  have f13 : Fr G [2, 6, 107] v v9 := Fr.st f7 e10 (S_X6.f5 S0) rfl
  have e14 : z_0 = v9 h0 3 := by rw [e10, stv_a (tg_ne (S_X6.h S0) ((S_X6.f5 S0)) rfl)]; exact e8
  refine J_aload_n E dX6_addOne_22 1 rfl ?_
  refine J_getR E in_X6 rfl (S_X6.h S0) 6 (by decide) wd207 rfl dX6_addOne_23 ?_
  refine J_getRN E in_X2 rfl (S_X2.h (S_X6.f6 S0)) 0 (by decide) wd151 rfl dX6_addOne_26 ?_
  refine J_iload E dX6_addOne_29 0 rfl ?_
  refine J_iload_n E dX6_addOne_31 4 rfl ?_
  refine J_iast1 E (S_X2.f0 (S_X6.f6 S0)) (Bd.in pre0 (by decide)) dX6_addOne_32 (fun v15 e16 => ?_)
  have o17 : Ok G v15 w := by rw [e16]; exact Ok.sv o11 (S_X2.f0 (S_X6.f6 S0)) pre0 bx_2 0 7 (by decide) (by decide +kernel)
  have k18 : Kp G v v15 := by rw [e16]; exact Kp.sv k12 (S_X2.f0 (S_X6.f6 S0)) pre0 0 7 0 99 (by decide) (by decide +kernel)
  have f19 : Fr G [2, 6, 107] v v15 := Fr.st f13 e16 (S_X2.f0 (S_X6.f6 S0)) rfl
  have e20 : z_0 = v15 h0 3 := by rw [e16, stv_a (tg_ne (S_X6.h S0) ((S_X2.f0 (S_X6.f6 S0))) rfl)]; exact e14
  refine J_aload_n E dX6_addOne_33 1 rfl ?_
  refine J_getR E in_X6 rfl (S_X6.h S0) 6 (by decide) wd207 rfl dX6_addOne_34 ?_
  refine J_getRN E in_X2 rfl (S_X2.h (S_X6.f6 S0)) 1 (by decide) wd153 rfl dX6_addOne_37 ?_
  refine J_iload E dX6_addOne_40 0 rfl ?_
  refine J_iconst E (-1) dX6_addOne_42 (by decide) ?_
  refine J_iast1 E (S_X2.f1 (S_X6.f6 S0)) (Bd.in pre0 (by decide)) dX6_addOne_43 (fun v21 e22 => ?_)
  have o23 : Ok G v21 w := by rw [e22]; exact Ok.sv o17 (S_X2.f1 (S_X6.f6 S0)) pre0 (Bd.lit (-1) (-1) (by decide)) 0 7 (by decide) (by decide +kernel)
  have k24 : Kp G v v21 := by rw [e22]; exact Kp.sv k18 (S_X2.f1 (S_X6.f6 S0)) pre0 0 7 (-1) (-1) (by decide) (by decide +kernel)
  have f25 : Fr G [2, 6, 107] v v21 := Fr.st f19 e22 (S_X2.f1 (S_X6.f6 S0)) rfl
  have e26 : z_0 = v21 h0 3 := by rw [e22, stv_a (tg_ne (S_X6.h S0) ((S_X2.f1 (S_X6.f6 S0))) rfl)]; exact e20
  refine J_aload_n E dX6_addOne_44 1 rfl ?_
  refine J_getR E in_X6 rfl (S_X6.h S0) 6 (by decide) wd207 rfl dX6_addOne_45 ?_
  refine J_dup E dX6_addOne_48 rfl ?_
  refine J_getIN E in_X2 rfl (S_X2.h (S_X6.f6 S0)) 2 (by decide) wd156 rfl dX6_addOne_49 (fun x27 e28 => ?_)
  refine J_iconst E 1 dX6_addOne_52 (by decide) ?_
  refine J_iload E dX6_addOne_53 0 rfl ?_
  refine J_ishl E dX6_addOne_55 (fun x29 e30 => ?_)
  have b31 : Bd x29 1 64 := Bd.shl1 e30 pre0 6 (by decide)
  refine J_ior E dX6_addOne_56 (fun x32 e33 => ?_)
  refine J_pIN E in_X2 rfl (S_X2.h (S_X6.f6 S0)) 2 (by decide) wd156 tyX2 tyX2_ok nmX2 rfl rfl .int (by decide +kernel) rfl rfl dX6_addOne_57 (fun v34 e35 => ?_)
  have o36 : Ok G v34 w := Ok.pf o23 e35 (S_X2.h (S_X6.f6 S0)) rfl (Bd.any x32)
  have k37 : Kp G v v34 := Kp.pf k24 e35 (S_X2.h (S_X6.f6 S0)) rfl
  have e38 : z_0 = v34 h0 3 := by rw [e35, stv_k (by decide)]; exact e26
  have f39 : Fr G [2, 6, 107] v v34 := Fr.st f25 e35 (S_X2.h (S_X6.f6 S0)) rfl
  have e40 : x32 = v34 (rf G h0 6) 2 := by rw [e35, stv_s]
  refine J_aload_n E dX6_addOne_60 1 rfl ?_
  refine J_dup E dX6_addOne_61 rfl ?_
  refine J_getI E in_X6 rfl (S_X6.h S0) 3 (by decide) wd201 rfl dX6_addOne_62 (fun x41 e42 => ?_)
  rw [show x41 = z_0 from e42.trans (e38).symm]
  refine J_iconst E 1 dX6_addOne_65 (by decide) ?_
  refine J_iadd E dX6_addOne_66 (fun x43 e44 => ?_)
  have b45 : Bd x43 1 7 := (Bd.add e44 pre0 (Bd.lit 1 1 (by decide)) (by decide)).w _ _ (by decide)
  refine J_pI E in_X6 rfl (S_X6.h S0) 3 (by decide) wd201 tyX6 tyX6_ok nmX6 rfl rfl .int (by decide +kernel) rfl rfl dX6_addOne_67 (fun v46 e47 => ?_)
  have o48 : Ok G v46 w := Ok.pf o36 e47 (S_X6.h S0) rfl (b45.w 0 7 (by decide))
  have k49 : Kp G v v46 := Kp.pf k37 e47 (S_X6.h S0) rfl
  have e50 : x32 = v46 (rf G h0 6) 2 := by rw [e47, stv_k (by decide)]; exact e40
  have f51 : Fr G [2, 6, 107] v v46 := Fr.st f39 e47 (S_X6.h S0) rfl
  have e52 : x43 = v46 h0 3 := by rw [e47, stv_s]
  refine J_aload_n E dX6_addOne_70 1 rfl ?_
  refine J_iconst E 0 dX6_addOne_71 (by decide) ?_
  refine J_pI E in_X6 rfl (S_X6.h S0) 8 (by decide) wd211 tyX6 tyX6_ok nmX6 rfl rfl .int (by decide +kernel) rfl rfl dX6_addOne_72 (fun v53 e54 => ?_)
  have o55 : Ok G v53 w := Ok.pf o48 e54 (S_X6.h S0) rfl ((Bd.lit 0 0 (by decide)).w 0 8 (by decide))
  have k56 : Kp G v v53 := Kp.pf k49 e54 (S_X6.h S0) rfl
  have e57 : x32 = v53 (rf G h0 6) 2 := by rw [e54, stv_k (by decide)]; exact e50
  have e58 : x43 = v53 h0 3 := by rw [e54, stv_k (by decide)]; exact e52
  have f59 : Fr G [2, 6, 107] v v53 := Fr.st f51 e54 (S_X6.h S0) rfl
  have e60 : (0 : Int32) = v53 h0 8 := by rw [e54, stv_s]
  refine J_iload E dX6_addOne_75 0 rfl ?_
  exact J_iret E hr dX6_addOne_77 ⟨o55, k56, pre0, f59⟩

abbrev rm_X6_mayGet : Room := { frames := 1, cells := 0, slots := 0, locals := 21 }
set_option maxHeartbeats 4000000 in
set_option maxRecDepth 100000 in
theorem ct_X6_mayGet (l : Launch) (D : va_G) (dA : Nat → ClassId) (G : Gm) (v : Mv) (w : Mw) (hOk : Ok G v w) (h0 : Nat) (S0 : S_X6 G h0) (x_0 : Int32) (bx_0 : Bd x_0 0 6) : CtI l yX6_mayGet cX6_mayGet 2 (some .boolean) rm_X6_mayGet D dA G [.ref h0, .int x_0] v w (fun r v1 w1 => v1 = v ∧ w1 = w ∧ Bd r 0 1 ∧ True) := by
  refine CtI.of RX6 [(0, .ref h0), (1, .int x_0)] (Nat.le_of_ble_eq_true rfl) rfl (by decide) rfl ?_
  intro p e s m args below meth c E hr
  refine J_aload_n E dX6_mayGet_0 0 rfl ?_
  refine J_getR E in_X6 rfl (S_X6.h S0) 6 (by decide) wd207 rfl dX6_mayGet_1 ?_
  refine J_iload_n E dX6_mayGet_4 1 rfl ?_
  refine J_callVNI E cal_X2_isHere wd496 rfl (S_X2.h (S_X6.f6 S0)) [.int x_0] [] (ct_X2_isHere l D dA G v w (hOk) (rf G h0 6) (S_X6.f6 S0) x_0 bx_0) rfl rfl (Nat.le_of_ble_eq_true rfl) ⟨rfl, rfl⟩ ⟨Nat.le_of_ble_eq_true rfl, Nat.le_of_ble_eq_true rfl⟩ dX6_mayGet_5 (fun x4 v1 w2 p3 => ?_)
  rw [p3.1, p3.2.1]
  have b5 : Bd x4 0 1 := p3.2.2.1
  refine J_if_eq E 28 dX6_mayGet_8 (by decide) (fun c6 => ?_) (fun c6 => ?_)
  · have b7 : Bd x4 0 0 := Bd.eq_l c6 b5 (Bd.lit 0 0 (by decide)) 0 0 (by decide)
    refine J_iconst E 0 dX6_mayGet_28 (by decide) ?_
    exact J_zret E hr (Bd.z (Bd.lit 0 0 (by decide)) (by decide)) dX6_mayGet_29 ⟨rfl, rfl, ((Bd.lit 0 0 (by decide)).w 0 1 (by decide)), trivial⟩
  · have b8 : Bd x4 1 1 := (Bd.ne_lo c6 b5 (Bd.lit 0 0 (by decide))).w _ _ (by decide)
    refine J_aload_n E dX6_mayGet_11 0 rfl ?_
    refine J_getR E in_X6 rfl (S_X6.h S0) 6 (by decide) wd207 rfl dX6_mayGet_12 ?_
    refine J_getRN E in_X2 rfl (S_X2.h (S_X6.f6 S0)) 1 (by decide) wd153 rfl dX6_mayGet_15 ?_
    refine J_iload_n E dX6_mayGet_18 1 rfl ?_
    refine J_iald1 E (S_X2.f1 (S_X6.f6 S0)) (Bd.in bx_0 (by decide)) dX6_mayGet_19 (fun x9 e10 => ?_)
    refine J_iconst E (-1) dX6_mayGet_20 (by decide) ?_
    refine J_icmp_ne E 28 dX6_mayGet_21 (by decide) (fun c11 => ?_) (fun c11 => ?_)
    · refine J_iconst E 0 dX6_mayGet_28 (by decide) ?_
      exact J_zret E hr (Bd.z (Bd.lit 0 0 (by decide)) (by decide)) dX6_mayGet_29 ⟨rfl, rfl, ((Bd.lit 0 0 (by decide)).w 0 1 (by decide)), trivial⟩
    · have b12 : Bd x9 (-1) (-1) := Bd.eq_l c11 (Bd.any x9) (Bd.lit (-1) (-1) (by decide)) (-1) (-1) (by decide)
      refine J_iconst E 1 dX6_mayGet_24 (by decide) ?_
      refine J_goto E 29 dX6_mayGet_25 (by decide) ?_
      exact J_zret E hr (Bd.z (Bd.lit 1 1 (by decide)) (by decide)) dX6_mayGet_29 ⟨rfl, rfl, ((Bd.lit 1 1 (by decide)).w 0 1 (by decide)), trivial⟩

abbrev rm_X6_ownerIn : Room := { frames := 0, cells := 0, slots := 0, locals := 0 }
set_option maxHeartbeats 4000000 in
set_option maxRecDepth 100000 in
theorem ct_X6_ownerIn (l : Launch) (D : va_G) (dA : Nat → ClassId) (G : Gm) (v : Mv) (w : Mw) (hOk : Ok G v w) (h0 : Nat) (S0 : S_X6 G h0) (h_0 : Nat) (S_0 : S_X2 G h_0) (x_1 : Int32) (bx_1 : Bd x_1 0 6) : CtI l yX6_ownerIn cX6_ownerIn 4 (some .int) rm_X6_ownerIn D dA G [.ref h0, .ref h_0, .int x_1] v w (fun r v1 w1 => v1 = v ∧ w1 = w ∧ Bd r (-1) 6 ∧ True) := by
  refine CtI.of RX6 [(0, .ref h0), (1, .ref h_0), (2, .int x_1)] (Nat.le_of_ble_eq_true rfl) rfl (by decide) rfl ?_
  intro p e s m args below meth c E hr
  have J2 : ∀ n : Nat, Bd x_1 0 6 → ∀ x2 : Int32, Bd x2 0 7 → Mu x2 7 n → J p l e rm_X6_ownerIn s m args below meth c 0 0 (MQ below (QcI D dA G (fun r v1 w1 => v1 = v ∧ w1 = w ∧ Bd r (-1) 6 ∧ True)) args s 0 0 (dm G)) D dA G (dm G) s.heap 4 v w [(0, .ref h0), (1, .ref h_0), (2, .int x_1), (3, .int x2)] 2 [] := by
    intro n
    induction n with
    | zero => intro b1 x2 b3 hm; exact hm.zero b3 (by decide)
    | succ n ih2 =>
      intro b1 x2 b3 hmu2
      refine J_iload_n E dX6_ownerIn_2 3 rfl ?_
      refine J_aload_n E dX6_ownerIn_3 0 rfl ?_
      refine J_getI E in_X6 rfl (S_X6.h S0) 3 (by decide) wd201 rfl dX6_ownerIn_4 (fun x4 e5 => ?_)
      have b6 : Bd x4 0 7 := Ok.fd hOk e5 (S_X6.h S0) rfl
      refine J_icmp_ge E 28 dX6_ownerIn_7 (by decide) (fun c7 => ?_) (fun c7 => ?_)
      · refine J_iconst E (-1) dX6_ownerIn_28 (by decide) ?_
        exact J_iret E hr dX6_ownerIn_29 ⟨rfl, rfl, ((Bd.lit (-1) (-1) (by decide)).w (-1) 6 (by decide)), trivial⟩
      · have b8 : Bd x2 0 6 := Bd.lt_l (nle c7) b3 b6 6 (by decide)
        have b9 : Bd x4 1 7 := Bd.lt_r (nle c7) b3 b6 1 (by decide)
        refine J_aload_n E dX6_ownerIn_10 1 rfl ?_
        refine J_getRN E in_X2 rfl (S_X2.h S_0) 1 (by decide) wd153 rfl dX6_ownerIn_11 ?_
        refine J_iload_n E dX6_ownerIn_14 3 rfl ?_
        refine J_iald1 E (S_X2.f1 S_0) (Bd.in b8 (by decide)) dX6_ownerIn_15 (fun x10 e11 => ?_)
        refine J_iload_n E dX6_ownerIn_16 2 rfl ?_
        refine J_icmp_ne E 22 dX6_ownerIn_17 (by decide) (fun c12 => ?_) (fun c12 => ?_)
        · refine J_iinc E 3 1 (fun z => [(3, .int z), (0, .ref h0), (1, .ref h_0), (2, .int x_1)]) dX6_ownerIn_22 rfl (by decide) (by decide) (fun _ => rfl) (fun x13 e14 => ?_)
          have b15 : Bd x13 1 7 := (Bd.add e14 b8 (Bd.lit 1 1 (by decide)) (by decide)).w _ _ (by decide)
          refine J_goto E 2 dX6_ownerIn_25 (by decide) ?_
          exact J.sub [1, 2, 3, 0] rfl (ih2 b1 x13 (b15.w 0 7 (by decide)) (Mu.step hmu2 e14 b8 (Bd.lit 1 1 (by decide)) (by decide)))
        · have b16 : Bd x10 0 6 := Bd.eq_l c12 (Bd.any x10) b1 0 6 (by decide)
          refine J_iload_n E dX6_ownerIn_20 3 rfl ?_
          exact J_iret E hr dX6_ownerIn_21 ⟨rfl, rfl, (b8.w (-1) 6 (by decide)), trivial⟩
  refine J_iconst E 0 dX6_ownerIn_0 (by decide) ?_
  refine J_istore_n E [(3, .int 0), (0, .ref h0), (1, .ref h_0), (2, .int x_1)] dX6_ownerIn_1 rfl (by decide) rfl ?_
  exact J.sub [1, 2, 3, 0] rfl (J2 8 bx_1 0 ((Bd.lit 0 0 (by decide)).w 0 7 (by decide)) (Mu.start _ (Bd.lit 0 0 (by decide)) (by decide)))

abbrev rm_X6_ownerOf : Room := { frames := 1, cells := 0, slots := 0, locals := 23 }
set_option maxHeartbeats 4000000 in
set_option maxRecDepth 100000 in
theorem ct_X6_ownerOf (l : Launch) (D : va_G) (dA : Nat → ClassId) (G : Gm) (v : Mv) (w : Mw) (hOk : Ok G v w) (h0 : Nat) (S0 : S_X6 G h0) (x_0 : Int32) (bx_0 : Bd x_0 0 6) : CtI l yX6_ownerOf cX6_ownerOf 2 (some .int) rm_X6_ownerOf D dA G [.ref h0, .int x_0] v w (fun r v1 w1 => v1 = v ∧ w1 = w ∧ True ∧ True) := by
  refine CtI.of RX6 [(0, .ref h0), (1, .int x_0)] (Nat.le_of_ble_eq_true rfl) rfl (by decide) rfl ?_
  intro p e s m args below meth c E hr
  refine J_aload_n E dX6_ownerOf_0 0 rfl ?_
  refine J_aload_n E dX6_ownerOf_1 0 rfl ?_
  refine J_getR E in_X6 rfl (S_X6.h S0) 6 (by decide) wd207 rfl dX6_ownerOf_2 ?_
  refine J_iload_n E dX6_ownerOf_5 1 rfl ?_
  refine J_callVI E cal_X6_ownerIn wd504 rfl (S_X6.h S0) [.ref (rf G h0 6), .int x_0] [] (ct_X6_ownerIn l D dA G v w (hOk) h0 S0 (rf G h0 6) (S_X6.f6 S0) x_0 bx_0) rfl rfl (Nat.le_of_ble_eq_true rfl) ⟨rfl, rfl⟩ ⟨Nat.le_of_ble_eq_true rfl, Nat.le_of_ble_eq_true rfl⟩ dX6_ownerOf_6 (fun x4 v1 w2 p3 => ?_)
  rw [p3.1, p3.2.1]
  have b5 : Bd x4 (-1) 6 := p3.2.2.1
  exact J_iret E hr dX6_ownerOf_9 ⟨rfl, rfl, trivial, trivial⟩

abbrev rm_X6_hasThing : Room := { frames := 0, cells := 0, slots := 0, locals := 0 }
set_option maxHeartbeats 4000000 in
set_option maxRecDepth 100000 in
theorem ct_X6_hasThing (l : Launch) (D : va_G) (dA : Nat → ClassId) (G : Gm) (v : Mv) (w : Mw) (hOk : Ok G v w) (h0 : Nat) (S0 : S_X6 G h0) (x_0 : Int32) : CtI l yX6_hasThing cX6_hasThing 2 (some .boolean) rm_X6_hasThing D dA G [.ref h0, .int x_0] v w (fun r v1 w1 => v1 = v ∧ w1 = w ∧ Bd r 0 1 ∧ (r = 0 ∨ Bd x_0 0 6)) := by
  refine CtI.of RX6 [(0, .ref h0), (1, .int x_0)] (Nat.le_of_ble_eq_true rfl) rfl (by decide) rfl ?_
  intro p e s m args below meth c E hr
  refine J_iload_n E dX6_hasThing_0 1 rfl ?_
  refine J_if_lt E 16 dX6_hasThing_1 (by decide) (fun c1 => ?_) (fun c1 => ?_)
  · have b2 : Bd x_0 I0 (-1) := Bd.lt_l c1 (Bd.any x_0) (Bd.lit 0 0 (by decide)) (-1) (by decide)
    refine J_iconst E 0 dX6_hasThing_16 (by decide) ?_
    exact J_zret E hr (Bd.z (Bd.lit 0 0 (by decide)) (by decide)) dX6_hasThing_17 ⟨rfl, rfl, ((Bd.lit 0 0 (by decide)).w 0 1 (by decide)), (Or.inl rfl)⟩
  · have b3 : Bd x_0 0 I1 := Bd.le_r (nlt c1) (Bd.lit 0 0 (by decide)) (Bd.any x_0) 0 (by decide)
    refine J_iload_n E dX6_hasThing_4 1 rfl ?_
    refine J_aload_n E dX6_hasThing_5 0 rfl ?_
    refine J_getI E in_X6 rfl (S_X6.h S0) 0 (by decide) wd191 rfl dX6_hasThing_6 (fun x4 e5 => ?_)
    have b6 : Bd x4 0 7 := Ok.fd hOk e5 (S_X6.h S0) rfl
    refine J_icmp_ge E 16 dX6_hasThing_9 (by decide) (fun c7 => ?_) (fun c7 => ?_)
    · refine J_iconst E 0 dX6_hasThing_16 (by decide) ?_
      exact J_zret E hr (Bd.z (Bd.lit 0 0 (by decide)) (by decide)) dX6_hasThing_17 ⟨rfl, rfl, ((Bd.lit 0 0 (by decide)).w 0 1 (by decide)), (Or.inl rfl)⟩
    · have b8 : Bd x_0 0 6 := Bd.lt_l (nle c7) b3 b6 6 (by decide)
      have b9 : Bd x4 1 7 := Bd.lt_r (nle c7) b3 b6 1 (by decide)
      refine J_iconst E 1 dX6_hasThing_12 (by decide) ?_
      refine J_goto E 17 dX6_hasThing_13 (by decide) ?_
      exact J_zret E hr (Bd.z (Bd.lit 1 1 (by decide)) (by decide)) dX6_hasThing_17 ⟨rfl, rfl, ((Bd.lit 1 1 (by decide)).w 0 1 (by decide)), (Or.inr b8)⟩

abbrev rm_X6_isHeldIn : Room := { frames := 2, cells := 0, slots := 0, locals := 44 }
set_option maxHeartbeats 4000000 in
set_option maxRecDepth 100000 in
theorem ct_X6_isHeldIn (l : Launch) (D : va_G) (dA : Nat → ClassId) (G : Gm) (v : Mv) (w : Mw) (hOk : Ok G v w) (h0 : Nat) (S0 : S_X6 G h0) (h_0 : Nat) (S_0 : S_X2 G h_0) (x_1 : Int32) (bx_1 : Bd x_1 0 6) : CtI l yX6_isHeldIn cX6_isHeldIn 4 (some .boolean) rm_X6_isHeldIn D dA G [.ref h0, .ref h_0, .int x_1] v w (fun r v1 w1 => v1 = v ∧ w1 = w ∧ Bd r 0 1 ∧ True) := by
  refine CtI.of RX6 [(0, .ref h0), (1, .ref h_0), (2, .int x_1)] (Nat.le_of_ble_eq_true rfl) rfl (by decide) rfl ?_
  intro p e s m args below meth c E hr
  refine J_aload_n E dX6_isHeldIn_0 1 rfl ?_
  refine J_getRN E in_X2 rfl (S_X2.h S_0) 1 (by decide) wd153 rfl dX6_isHeldIn_1 ?_
  refine J_iload_n E dX6_isHeldIn_4 2 rfl ?_
  refine J_iald1 E (S_X2.f1 S_0) (Bd.in bx_1 (by decide)) dX6_isHeldIn_5 (fun x1 e2 => ?_)
  refine J_istore_n E [(3, .int x1), (0, .ref h0), (1, .ref h_0), (2, .int x_1)] dX6_isHeldIn_6 rfl (by decide) rfl ?_
  refine J_aload_n E dX6_isHeldIn_7 1 rfl ?_
  refine J_iload_n E dX6_isHeldIn_8 0 rfl ?_
  refine J_callVI E cal_X6_hasThing wd526 rfl (S_X6.h S0) [.int x1] [] (ct_X6_hasThing l D dA G v w (hOk) h0 S0 x1) rfl rfl (Nat.le_of_ble_eq_true rfl) ⟨rfl, rfl⟩ ⟨Nat.le_of_ble_eq_true rfl, Nat.le_of_ble_eq_true rfl⟩ dX6_isHeldIn_9 (fun x6 v3 w4 p5 => ?_)
  rw [p5.1, p5.2.1]
  have b7 : Bd x6 0 1 := p5.2.2.1
  refine J_if_eq E 62 dX6_isHeldIn_12 (by decide) (fun c8 => ?_) (fun c8 => ?_)
  · have b9 : Bd x6 0 0 := Bd.eq_l c8 b7 (Bd.lit 0 0 (by decide)) 0 0 (by decide)
    refine J_iconst E 0 dX6_isHeldIn_62 (by decide) ?_
    exact J_zret E hr (Bd.z (Bd.lit 0 0 (by decide)) (by decide)) dX6_isHeldIn_63 ⟨rfl, rfl, ((Bd.lit 0 0 (by decide)).w 0 1 (by decide)), trivial⟩
  · have b10 : Bd x6 1 1 := (Bd.ne_lo c8 b7 (Bd.lit 0 0 (by decide))).w _ _ (by decide)
    have b11 : Bd x1 0 6 := (p5.2.2.2).resolve_left c8
    refine J_aload_n E dX6_isHeldIn_15 1 rfl ?_
    refine J_getR E in_X6 rfl (S_X6.h S0) 1 (by decide) wd195 rfl dX6_isHeldIn_16 ?_
    refine J_iload_n E dX6_isHeldIn_19 0 rfl ?_
    refine J_iald1 E (S_X6.f1 S0) (Bd.in b11 (by decide)) dX6_isHeldIn_20 (fun x12 e13 => ?_)
    refine J_aload_n E dX6_isHeldIn_21 1 rfl ?_
    refine J_getR E in_X6 rfl (S_X6.h S0) 2 (by decide) wd197 rfl dX6_isHeldIn_22 ?_
    refine J_iload_n E dX6_isHeldIn_25 0 rfl ?_
    refine J_iald1 E (S_X6.f2 S0) (Bd.in b11 (by decide)) dX6_isHeldIn_26 (fun x14 e15 => ?_)
    refine J_aload_n E dX6_isHeldIn_27 2 rfl ?_
    refine J_getIN E in_X2 rfl (S_X2.h S_0) 3 (by decide) wd159 rfl dX6_isHeldIn_28 (fun x16 e17 => ?_)
    refine J_callSNI E cal_X5_thingWeighs wd530 [.int x12, .int x14, .int x16] [] (ct_X5_thingWeighs l D dA G v w (hOk) x12 x14 x16) rfl rfl (Nat.le_of_ble_eq_true rfl) ⟨rfl, rfl⟩ ⟨Nat.le_of_ble_eq_true rfl, Nat.le_of_ble_eq_true rfl⟩ dX6_isHeldIn_31 (fun x21 v18 w19 p20 => ?_)
    rw [p20.1, p20.2.1]
    refine J_aload_n E dX6_isHeldIn_34 1 rfl ?_
    refine J_getR E in_X6 rfl (S_X6.h S0) 4 (by decide) wd203 rfl dX6_isHeldIn_35 ?_
    refine J_iload_n E dX6_isHeldIn_38 3 rfl ?_
    refine J_iald1 E (S_X6.f4 S0) (Bd.in bx_1 (by decide)) dX6_isHeldIn_39 (fun x22 e23 => ?_)
    refine J_aload_n E dX6_isHeldIn_40 1 rfl ?_
    refine J_getR E in_X6 rfl (S_X6.h S0) 5 (by decide) wd205 rfl dX6_isHeldIn_41 ?_
    refine J_iload_n E dX6_isHeldIn_44 3 rfl ?_
    refine J_iald1 E (S_X6.f5 S0) (Bd.in bx_1 (by decide)) dX6_isHeldIn_45 (fun x24 e25 => ?_)
    refine J_aload_n E dX6_isHeldIn_46 2 rfl ?_
    refine J_getRN E in_X2 rfl (S_X2.h S_0) 0 (by decide) wd151 rfl dX6_isHeldIn_47 ?_
    refine J_iload_n E dX6_isHeldIn_50 3 rfl ?_
    refine J_iald1 E (S_X2.f0 S_0) (Bd.in bx_1 (by decide)) dX6_isHeldIn_51 (fun x26 e27 => ?_)
    refine J_callSNI E cal_X5_oneLifts wd542 [.int x22, .int x24, .int x26] [.int x21] (ct_X5_oneLifts l D dA G v w (hOk) x22 x24 x26) rfl rfl (Nat.le_of_ble_eq_true rfl) ⟨rfl, rfl⟩ ⟨Nat.le_of_ble_eq_true rfl, Nat.le_of_ble_eq_true rfl⟩ dX6_isHeldIn_52 (fun x31 v28 w29 p30 => ?_)
    rw [p30.1, p30.2.1]
    refine J_icmp_le E 62 dX6_isHeldIn_55 (by decide) (fun c32 => ?_) (fun c32 => ?_)
    · refine J_iconst E 0 dX6_isHeldIn_62 (by decide) ?_
      exact J_zret E hr (Bd.z (Bd.lit 0 0 (by decide)) (by decide)) dX6_isHeldIn_63 ⟨rfl, rfl, ((Bd.lit 0 0 (by decide)).w 0 1 (by decide)), trivial⟩
    · refine J_iconst E 1 dX6_isHeldIn_58 (by decide) ?_
      refine J_goto E 63 dX6_isHeldIn_59 (by decide) ?_
      exact J_zret E hr (Bd.z (Bd.lit 1 1 (by decide)) (by decide)) dX6_isHeldIn_63 ⟨rfl, rfl, ((Bd.lit 1 1 (by decide)).w 0 1 (by decide)), trivial⟩

abbrev rm_X6_passYears : Room := { frames := 3, cells := 0, slots := 0, locals := 67 }
set_option maxHeartbeats 4000000 in
set_option maxRecDepth 100000 in
theorem ct_X6_passYears (l : Launch) (D : va_G) (dA : Nat → ClassId) (G : Gm) (v : Mv) (w : Mw) (hOk : Ok G v w) (h0 : Nat) (S0 : S_X6 G h0) (h_0 : Nat) (S_0 : S_X2 G h_0) (x_1 : Int32) (bx_1 : Bd x_1 0 60) (x_2 : Int32) (bx_2 : Bd x_2 999 1059) : CtV l yX6_passYears cX6_passYears 6 none rm_X6_passYears D dA G [.ref h0, .ref h_0, .int x_1, .int x_2] v w (fun v1 w1 => Ok G v1 w1 ∧ Kp G v v1 ∧ Fr G [2, 107] v v1) := by
  refine CtV.of RX6 [(0, .ref h0), (1, .ref h_0), (2, .int x_1), (3, .int x_2)] (Nat.le_of_ble_eq_true rfl) rfl (by decide) rfl ?_
  intro p e s m args below meth c E hr
  have J3 : ∀ n : Nat, ∀ (v1 : Mv) (w2 : Mw), Ok G v1 w2 → Kp G v v1 → Fr G [2, 107] v v1 → Bd x_1 0 60 → Bd x_2 999 1059 → ∀ x8 : Int32, Bd x8 0 61 → Mu x8 61 n → J p l e rm_X6_passYears s m args below meth c 0 0 (MQ below (QcV D dA G (fun v1 w1 => Ok G v1 w1 ∧ Kp G v v1 ∧ Fr G [2, 107] v v1)) args s 0 0 (dm G)) D dA G (dm G) s.heap 6 v1 w2 [(0, .ref h0), (1, .ref h_0), (2, .int x_1), (3, .int x_2), (4, .int x8)] 3 [] := by
    intro n
    induction n with
    | zero => intro v1 w2 o3 k4 f5 b6 b7 x8 b9 hm; exact hm.zero b9 (by decide)
    | succ n ih3 =>
      intro v1 w2 o3 k4 f5 b6 b7 x8 b9 hmu3
      have J20 : ∀ n : Nat, ∀ (v10 : Mv) (w11 : Mw), Ok G v10 w11 → Kp G v v10 → Fr G [2, 107] v v10 → Bd x_1 1 60 → Bd x_2 999 1059 → Bd x8 0 60 → ∀ x18 : Int32, Bd x18 0 7 → Mu x18 7 n → J p l e rm_X6_passYears s m args below meth c 0 0 (MQ below (QcV D dA G (fun v1 w1 => Ok G v1 w1 ∧ Kp G v v1 ∧ Fr G [2, 107] v v1)) args s 0 0 (dm G)) D dA G (dm G) s.heap 6 v10 w11 [(0, .ref h0), (1, .ref h_0), (2, .int x_1), (3, .int x_2), (4, .int x8), (5, .int x18)] 20 [] := by
        intro n
        induction n with
        | zero => intro v10 w11 o12 k13 f14 b15 b16 b17 x18 b19 hm; exact hm.zero b19 (by decide)
        | succ n ih20 =>
          intro v10 w11 o12 k13 f14 b15 b16 b17 x18 b19 hmu20
          have J66 : ∀ (v20 : Mv) (w21 : Mw), Ok G v20 w21 → Kp G v v20 → Fr G [2, 107] v v20 → Bd x_1 1 60 → Bd x_2 999 1059 → Bd x8 0 60 → Bd x18 0 6 → J p l e rm_X6_passYears s m args below meth c 0 0 (MQ below (QcV D dA G (fun v1 w1 => Ok G v1 w1 ∧ Kp G v v1 ∧ Fr G [2, 107] v v1)) args s 0 0 (dm G)) D dA G (dm G) s.heap 6 v20 w21 [(0, .ref h0), (1, .ref h_0), (2, .int x_1), (3, .int x_2), (4, .int x8), (5, .int x18)] 66 [] := by
            intro v20 w21 o22 k23 f24 b25 b26 b27 b28
            refine J_iinc E 5 1 (fun z => [(5, .int z), (0, .ref h0), (1, .ref h_0), (2, .int x_1), (3, .int x_2), (4, .int x8)]) dX6_passYears_66 rfl (by decide) (by decide) (fun _ => rfl) (fun x29 e30 => ?_)
            have b31 : Bd x29 1 7 := (Bd.add e30 b28 (Bd.lit 1 1 (by decide)) (by decide)).w _ _ (by decide)
            refine J_goto E 20 dX6_passYears_69 (by decide) ?_
            exact J.sub [1, 2, 3, 4, 5, 0] rfl (ih20 v20 w21 (o22) (k23) f24 b25 b26 b27 x29 (b31.w 0 7 (by decide)) (Mu.step hmu20 e30 b28 (Bd.lit 1 1 (by decide)) (by decide)))
          refine J_iload E dX6_passYears_20 5 rfl ?_
          refine J_aload_n E dX6_passYears_22 0 rfl ?_
          refine J_getI E in_X6 rfl (S_X6.h S0) 3 (by decide) wd201 rfl dX6_passYears_23 (fun x32 e33 => ?_)
          have b34 : Bd x32 0 7 := Ok.fd o12 e33 (S_X6.h S0) rfl
          refine J_icmp_ge E 72 dX6_passYears_26 (by decide) (fun c35 => ?_) (fun c35 => ?_)
          · refine J_aload_n E dX6_passYears_72 1 rfl ?_
            refine J_dup E dX6_passYears_73 rfl ?_
            refine J_getIN E in_X2 rfl (S_X2.h S_0) 3 (by decide) wd159 rfl dX6_passYears_74 (fun x36 e37 => ?_)
            refine J_iconst E 1 dX6_passYears_77 (by decide) ?_
            refine J_iadd E dX6_passYears_78 (fun x38 e39 => ?_)
            refine J_pIN E in_X2 rfl (S_X2.h S_0) 3 (by decide) wd159 tyX2 tyX2_ok nmX2 rfl rfl .int (by decide +kernel) rfl rfl dX6_passYears_79 (fun v40 e41 => ?_)
            have o42 : Ok G v40 w11 := Ok.pf o12 e41 (S_X2.h S_0) rfl (Bd.any x38)
            have k43 : Kp G v v40 := Kp.pf k13 e41 (S_X2.h S_0) rfl
            have e44 : x32 = v40 h0 3 := by rw [e41, stv_a (tg_ne (S_X6.h S0) (S_X2.h S_0) rfl)]; exact e33
            have f45 : Fr G [2, 107] v v40 := Fr.st f14 e41 (S_X2.h S_0) rfl
            have e46 : x38 = v40 h_0 3 := by rw [e41, stv_s]
            refine J_iinc E 4 1 (fun z => [(4, .int z), (0, .ref h0), (1, .ref h_0), (2, .int x_1), (3, .int x_2), (5, .int x18)]) dX6_passYears_82 rfl (by decide) (by decide) (fun _ => rfl) (fun x47 e48 => ?_)
            have b49 : Bd x47 1 61 := (Bd.add e48 b17 (Bd.lit 1 1 (by decide)) (by decide)).w _ _ (by decide)
            refine J_goto E 3 dX6_passYears_85 (by decide) ?_
            exact J.sub [1, 2, 3, 4, 0] rfl (ih3 v40 w11 (o42) (k43) f45 (b15.w 0 60 (by decide)) b16 x47 (b49.w 0 61 (by decide)) (Mu.step hmu3 e48 b17 (Bd.lit 1 1 (by decide)) (by decide)))
          · have b50 : Bd x18 0 6 := Bd.lt_l (nle c35) b19 b34 6 (by decide)
            have b51 : Bd x32 1 7 := Bd.lt_r (nle c35) b19 b34 1 (by decide)
            refine J_aload_n E dX6_passYears_29 1 rfl ?_
            refine J_iload E dX6_passYears_30 5 rfl ?_
            refine J_callVNI E cal_X2_isHere wd496 rfl (S_X2.h S_0) [.int x18] [] (ct_X2_isHere l D dA G v10 w11 (o12) h_0 S_0 x18 b50) rfl rfl (Nat.le_of_ble_eq_true rfl) ⟨rfl, rfl⟩ ⟨Nat.le_of_ble_eq_true rfl, Nat.le_of_ble_eq_true rfl⟩ dX6_passYears_32 (fun x55 v52 w53 p54 => ?_)
            rw [p54.1, p54.2.1]
            have b56 : Bd x55 0 1 := p54.2.2.1
            refine J_if_ne E 41 dX6_passYears_35 (by decide) (fun c57 => ?_) (fun c57 => ?_)
            · have b58 : Bd x55 1 1 := (Bd.ne_lo c57 b56 (Bd.lit 0 0 (by decide))).w _ _ (by decide)
              refine J_aload_n E dX6_passYears_41 0 rfl ?_
              refine J_aload_n E dX6_passYears_42 1 rfl ?_
              refine J_iload E dX6_passYears_43 5 rfl ?_
              refine J_callVI E cal_X6_isHeldIn wd522 rfl (S_X6.h S0) [.ref h_0, .int x18] [] (ct_X6_isHeldIn l D dA G v10 w11 (o12) h0 S0 h_0 S_0 x18 b50) rfl rfl (Nat.le_of_ble_eq_true rfl) ⟨rfl, rfl⟩ ⟨Nat.le_of_ble_eq_true rfl, Nat.le_of_ble_eq_true rfl⟩ dX6_passYears_45 (fun x62 v59 w60 p61 => ?_)
              rw [p61.1, p61.2.1]
              have b63 : Bd x62 0 1 := p61.2.2.1
              refine J_if_eq E 60 dX6_passYears_48 (by decide) (fun c64 => ?_) (fun c64 => ?_)
              · have b65 : Bd x62 0 0 := Bd.eq_l c64 b63 (Bd.lit 0 0 (by decide)) 0 0 (by decide)
                refine J_aload_n E dX6_passYears_60 1 rfl ?_
                refine J_iload E dX6_passYears_61 5 rfl ?_
                refine J_callVNV E cal_X2_lose wd559 rfl (S_X2.h S_0) [.int x18] [] (ct_X2_lose l D dA G v10 w11 (o12) h_0 S_0 x18 b50) rfl rfl (Nat.le_of_ble_eq_true rfl) ⟨rfl, rfl⟩ ⟨Nat.le_of_ble_eq_true rfl, Nat.le_of_ble_eq_true rfl⟩ dX6_passYears_63 (fun v66 w67 p68 => ?_)
                have o70 := p68.1
                have k71 : Kp G v v66 := (k13).tr p68.2.1
                have f72 : Fr G [2, 107] v v66 := Fr.tr f14 (p68.2.2) (by decide)
                exact J.sub [0, 1, 2, 3, 4, 5] rfl (J66 v66 w67 (o70) (k71) f72 b15 b16 b17 b50)
              · have b73 : Bd x62 1 1 := (Bd.ne_lo c64 b63 (Bd.lit 0 0 (by decide))).w _ _ (by decide)
                refine J_aload_n E dX6_passYears_51 1 rfl ?_
                refine J_iload E dX6_passYears_52 5 rfl ?_
                refine J_callVNV E cal_X2_growOlder wd554 rfl (S_X2.h S_0) [.int x18] [] (ct_X2_growOlder l D dA G v10 w11 (o12) h_0 S_0 x18 b50) rfl rfl (Nat.le_of_ble_eq_true rfl) ⟨rfl, rfl⟩ ⟨Nat.le_of_ble_eq_true rfl, Nat.le_of_ble_eq_true rfl⟩ dX6_passYears_54 (fun v74 w75 p76 => ?_)
                have o78 := p76.1
                have k79 : Kp G v v74 := (k13).tr p76.2.1
                have f80 : Fr G [2, 107] v v74 := Fr.tr f14 (p76.2.2) (by decide)
                refine J_goto E 66 dX6_passYears_57 (by decide) ?_
                exact J.sub [0, 1, 2, 3, 4, 5] rfl (J66 v74 w75 (o78) (k79) f80 b15 b16 b17 b50)
            · have b81 : Bd x55 0 0 := Bd.eq_l c57 b56 (Bd.lit 0 0 (by decide)) 0 0 (by decide)
              refine J_goto E 66 dX6_passYears_38 (by decide) ?_
              exact J.sub [0, 1, 2, 3, 4, 5] rfl (J66 v10 w11 (o12) (k13) f14 b15 b16 b17 b50)
      refine J_iload E dX6_passYears_3 4 rfl ?_
      refine J_iload_n E dX6_passYears_5 2 rfl ?_
      refine J_icmp_ge E 88 dX6_passYears_6 (by decide) (fun c82 => ?_) (fun c82 => ?_)
      · exact J_vret E hr dX6_passYears_88 ⟨o3, k4, f5⟩
      · have b83 : Bd x8 0 59 := Bd.lt_l (nle c82) b9 b6 59 (by decide)
        have b84 : Bd x_1 1 60 := Bd.lt_r (nle c82) b9 b6 1 (by decide)
        refine J_aload_n E dX6_passYears_9 1 rfl ?_
        refine J_getIN E in_X2 rfl (S_X2.h S_0) 3 (by decide) wd159 rfl dX6_passYears_10 (fun x85 e86 => ?_)
        refine J_iload_n E dX6_passYears_13 3 rfl ?_
        refine J_icmp_ge E 88 dX6_passYears_14 (by decide) (fun c87 => ?_) (fun c87 => ?_)
        · have b88 : Bd x85 999 I1 := Bd.le_r c87 b7 (Bd.any x85) 999 (by decide)
          exact J_vret E hr dX6_passYears_88 ⟨o3, k4, f5⟩
        · have b89 : Bd x85 I0 1058 := Bd.lt_l (nle c87) (Bd.any x85) b7 1058 (by decide)
          refine J_iconst E 0 dX6_passYears_17 (by decide) ?_
          refine J_istore E [(5, .int 0), (0, .ref h0), (1, .ref h_0), (2, .int x_1), (3, .int x_2), (4, .int x8)] dX6_passYears_18 (by decide) rfl ?_
          exact J.sub [1, 2, 3, 4, 5, 0] rfl (J20 8 v1 w2 (o3) (k4) f5 b84 b7 (b83.w 0 60 (by decide)) 0 ((Bd.lit 0 0 (by decide)).w 0 7 (by decide)) (Mu.start _ (Bd.lit 0 0 (by decide)) (by decide)))
  refine J_iconst E 0 dX6_passYears_0 (by decide) ?_
  refine J_istore E [(4, .int 0), (0, .ref h0), (1, .ref h_0), (2, .int x_1), (3, .int x_2)] dX6_passYears_1 (by decide) rfl ?_
  exact J.sub [1, 2, 3, 4, 0] rfl (J3 62 v w (hOk) (Kp.rf) Fr.rf bx_1 bx_2 0 ((Bd.lit 0 0 (by decide)).w 0 61 (by decide)) (Mu.start _ (Bd.lit 0 0 (by decide)) (by decide)))

abbrev rm_X3_takeStop : Room := { frames := 3, cells := 0, slots := 0, locals := 64 }
set_option maxHeartbeats 4000000 in
set_option maxRecDepth 100000 in
theorem ct_X3_takeStop (l : Launch) (D : va_G) (dA : Nat → ClassId) (G : Gm) (v : Mv) (w : Mw) (hOk : Ok G v w) (h0 : Nat) (S0 : S_X3 G h0) : CtI l yX3_takeStop cX3_takeStop 1 (some .boolean) rm_X3_takeStop D dA G [.ref h0] v w (fun r v1 w1 => Ok G v1 w1 ∧ Kp G v v1 ∧ Bd r 0 1 ∧ Fr G [3] v v1) := by
  refine CtI.of RX3 [(0, .ref h0)] (Nat.le_of_ble_eq_true rfl) rfl (by decide) rfl ?_
  intro p e s m args below meth c E hr
  refine J_aload_n E dX3_takeStop_0 0 rfl ?_
  refine J_callVV E cal_X3_nextToken wd405 rfl (S_X3.h S0) [] [] (ct_X3_nextToken l D dA G v w (hOk) h0 S0) rfl rfl (Nat.le_of_ble_eq_true rfl) ⟨rfl, rfl⟩ ⟨Nat.le_of_ble_eq_true rfl, Nat.le_of_ble_eq_true rfl⟩ dX3_takeStop_1 (fun v1 w2 p3 => ?_)
  have o5 := p3.1
  have k6 : Kp G v v1 := (Kp.rf).tr p3.2.1
  have f7 : Fr G [3] v v1 := Fr.tr Fr.rf (p3.2.2) (by decide)
  refine J_aload_n E dX3_takeStop_4 0 rfl ?_
  refine J_getI E in_X3 rfl (S_X3.h S0) 3 (by decide) wd256 rfl dX3_takeStop_5 (fun x8 e9 => ?_)
  refine J_iconst E 3 dX3_takeStop_8 (by decide) ?_
  refine J_icmp_ne E 16 dX3_takeStop_9 (by decide) (fun c10 => ?_) (fun c10 => ?_)
  · refine J_iconst E 0 dX3_takeStop_16 (by decide) ?_
    exact J_zret E hr (Bd.z (Bd.lit 0 0 (by decide)) (by decide)) dX3_takeStop_17 ⟨o5, k6, ((Bd.lit 0 0 (by decide)).w 0 1 (by decide)), f7⟩
  · have b11 : Bd x8 3 3 := Bd.eq_l c10 (Bd.any x8) (Bd.lit 3 3 (by decide)) 3 3 (by decide)
    refine J_iconst E 1 dX3_takeStop_12 (by decide) ?_
    refine J_goto E 17 dX3_takeStop_13 (by decide) ?_
    exact J_zret E hr (Bd.z (Bd.lit 1 1 (by decide)) (by decide)) dX3_takeStop_17 ⟨o5, k6, ((Bd.lit 1 1 (by decide)).w 0 1 (by decide)), f7⟩

abbrev rm_X4_isFull_5 : Room := { frames := 0, cells := 0, slots := 0, locals := 0 }
set_option maxHeartbeats 4000000 in
set_option maxRecDepth 100000 in
theorem ct_X4_isFull_5 (l : Launch) (D : va_G) (dA : Nat → ClassId) (G : Gm) (v : Mv) (w : Mw) (hOk : Ok G v w) (h0 : Nat) (S0 : S_X4 G h0 5) : CtI l yX4_isFull cX4_isFull 1 (some .boolean) rm_X4_isFull_5 D dA G [.ref h0] v w (fun r v1 w1 => v1 = v ∧ w1 = w ∧ Bd r 0 1 ∧ (¬ r = 0 ∨ Bd (v h0 2) 0 4)) := by
  refine CtI.of RX4 [(0, .ref h0)] (Nat.le_of_ble_eq_true rfl) rfl (by decide) rfl ?_
  intro p e s m args below meth c E hr
  refine J_aload_n E dX4_isFull_0 0 rfl ?_
  refine J_getI E in_X4 rfl (S_X4.h S0) 2 (by decide) wd181 rfl dX4_isFull_1 (fun x1 e2 => ?_)
  have b3 : Bd x1 0 5 := Ok.fd hOk e2 (S_X4.h S0) rfl
  refine J_aload_n E dX4_isFull_4 0 rfl ?_
  refine J_getI E in_X4 rfl (S_X4.h S0) 0 (by decide) wd179 rfl dX4_isFull_5 (fun x4 e5 => ?_)
  have b6 : Bd x4 5 5 := Ok.fd hOk e5 (S_X4.h S0) rfl
  refine J_icmp_lt E 15 dX4_isFull_8 (by decide) (fun c7 => ?_) (fun c7 => ?_)
  · have b8 : Bd x1 0 4 := Bd.lt_l c7 b3 b6 4 (by decide)
    refine J_iconst E 0 dX4_isFull_15 (by decide) ?_
    exact J_zret E hr (Bd.z (Bd.lit 0 0 (by decide)) (by decide)) dX4_isFull_16 ⟨rfl, rfl, ((Bd.lit 0 0 (by decide)).w 0 1 (by decide)), (Or.inr (Bd.e b8 (e2).symm))⟩
  · have b9 : Bd x1 5 5 := Bd.le_r (nlt c7) b6 b3 5 (by decide)
    refine J_iconst E 1 dX4_isFull_11 (by decide) ?_
    refine J_goto E 16 dX4_isFull_12 (by decide) ?_
    exact J_zret E hr (Bd.z (Bd.lit 1 1 (by decide)) (by decide)) dX4_isFull_16 ⟨rfl, rfl, ((Bd.lit 1 1 (by decide)).w 0 1 (by decide)), (Or.inl (by decide))⟩

abbrev rm_X4_isFull_6 : Room := { frames := 0, cells := 0, slots := 0, locals := 0 }
set_option maxHeartbeats 4000000 in
set_option maxRecDepth 100000 in
theorem ct_X4_isFull_6 (l : Launch) (D : va_G) (dA : Nat → ClassId) (G : Gm) (v : Mv) (w : Mw) (hOk : Ok G v w) (h0 : Nat) (S0 : S_X4 G h0 6) : CtI l yX4_isFull cX4_isFull 1 (some .boolean) rm_X4_isFull_6 D dA G [.ref h0] v w (fun r v1 w1 => v1 = v ∧ w1 = w ∧ Bd r 0 1 ∧ (¬ r = 0 ∨ Bd (v h0 2) 0 5)) := by
  refine CtI.of RX4 [(0, .ref h0)] (Nat.le_of_ble_eq_true rfl) rfl (by decide) rfl ?_
  intro p e s m args below meth c E hr
  refine J_aload_n E dX4_isFull_0 0 rfl ?_
  refine J_getI E in_X4 rfl (S_X4.h S0) 2 (by decide) wd181 rfl dX4_isFull_1 (fun x1 e2 => ?_)
  have b3 : Bd x1 0 6 := Ok.fd hOk e2 (S_X4.h S0) rfl
  refine J_aload_n E dX4_isFull_4 0 rfl ?_
  refine J_getI E in_X4 rfl (S_X4.h S0) 0 (by decide) wd179 rfl dX4_isFull_5 (fun x4 e5 => ?_)
  have b6 : Bd x4 6 6 := Ok.fd hOk e5 (S_X4.h S0) rfl
  refine J_icmp_lt E 15 dX4_isFull_8 (by decide) (fun c7 => ?_) (fun c7 => ?_)
  · have b8 : Bd x1 0 5 := Bd.lt_l c7 b3 b6 5 (by decide)
    refine J_iconst E 0 dX4_isFull_15 (by decide) ?_
    exact J_zret E hr (Bd.z (Bd.lit 0 0 (by decide)) (by decide)) dX4_isFull_16 ⟨rfl, rfl, ((Bd.lit 0 0 (by decide)).w 0 1 (by decide)), (Or.inr (Bd.e b8 (e2).symm))⟩
  · have b9 : Bd x1 6 6 := Bd.le_r (nlt c7) b6 b3 6 (by decide)
    refine J_iconst E 1 dX4_isFull_11 (by decide) ?_
    refine J_goto E 16 dX4_isFull_12 (by decide) ?_
    exact J_zret E hr (Bd.z (Bd.lit 1 1 (by decide)) (by decide)) dX4_isFull_16 ⟨rfl, rfl, ((Bd.lit 1 1 (by decide)).w 0 1 (by decide)), (Or.inl (by decide))⟩

abbrev rm_X4_add_5 : Room := { frames := 0, cells := 0, slots := 0, locals := 0 }
set_option maxHeartbeats 4000000 in
set_option maxRecDepth 100000 in
theorem ct_X4_add_5 (l : Launch) (D : va_G) (dA : Nat → ClassId) (G : Gm) (v : Mv) (w : Mw) (hOk : Ok G v w) (h0 : Nat) (S0 : S_X4 G h0 5) (x_0 : Int32) (bx_0 : Bd x_0 0 6) (x_1 : Int32) (bx_1 : Bd x_1 0 99) (x_2 : Int32) (bx_2 : Bd x_2 0 60) (x_3 : Int32) (bx_3 : Bd x_3 0 1) (z_0 : Int32) (ez_0 : z_0 = v h0 2) (pre0 : Bd z_0 0 4) : CtI l yX4_add cX4_add 6 (some .int) rm_X4_add_5 D dA G [.ref h0, .int x_0, .int x_1, .int x_2, .int x_3] v w (fun r v1 w1 => Ok G v1 w1 ∧ Kp G v v1 ∧ Bd r 1 5 ∧ Fr G [4, 120, 124] v v1) := by
  refine CtI.of RX4 [(0, .ref h0), (1, .int x_0), (2, .int x_1), (3, .int x_2), (4, .int x_3)] (Nat.le_of_ble_eq_true rfl) rfl (by decide) rfl ?_
  intro p e s m args below meth c E hr
  refine J_iconst E 4 dX4_add_0 (by decide) ?_
  refine J_aload_n E dX4_add_1 0 rfl ?_
  refine J_getI E in_X4 rfl (S_X4.h S0) 2 (by decide) wd181 rfl dX4_add_2 (fun x1 e2 => ?_)
  rw [show x1 = z_0 from e2.trans (ez_0).symm]
  refine J_imul E dX4_add_5 (fun x3 e4 => ?_)
  have b5 : Bd x3 0 16 := Bd.mul e4 (Bd.lit 4 4 (by decide)) pre0 (by decide)
  refine J_istore E [(5, .int x3), (0, .ref h0), (1, .int x_0), (2, .int x_1), (3, .int x_2), (4, .int x_3)] dX4_add_6 (by decide) rfl ?_
  refine J_aload_n E dX4_add_8 1 rfl ?_
  refine J_getR E in_X4 rfl (S_X4.h S0) 1 (by decide) wd180 rfl dX4_add_9 ?_
  refine J_iload E dX4_add_12 0 rfl ?_
  refine J_iload_n E dX4_add_14 2 rfl ?_
  refine J_iast1 E (S_X4.f1 S0) (Bd.in b5 (by decide)) dX4_add_15 (fun v6 e7 => ?_)
  have o8 : Ok G v6 w := by rw [e7]; exact Ok.sv hOk (S_X4.f1 S0) b5 bx_0 0 17 (by decide) (by decide +kernel)
  have k9 : Kp G v v6 := by rw [e7]; exact Kp.sv Kp.rf (S_X4.f1 S0) b5 0 17 0 6 (by decide) (by decide +kernel)
  have f10 : Fr G [4, 120, 124] v v6 := Fr.st Fr.rf e7 (S_X4.f1 S0) rfl
  have e11 : z_0 = v6 h0 2 := by rw [e7, stv_a (tg_ne (S_X4.h S0) ((S_X4.f1 S0)) rfl)]; exact ez_0
  refine J_aload_n E dX4_add_16 1 rfl ?_
  refine J_getR E in_X4 rfl (S_X4.h S0) 1 (by decide) wd180 rfl dX4_add_17 ?_
  refine J_iload E dX4_add_20 0 rfl ?_
  refine J_iconst E 1 dX4_add_22 (by decide) ?_
  refine J_iadd E dX4_add_23 (fun x12 e13 => ?_)
  have b14 : Bd x12 1 17 := (Bd.add e13 b5 (Bd.lit 1 1 (by decide)) (by decide)).w _ _ (by decide)
  refine J_iload_n E dX4_add_24 3 rfl ?_
  refine J_iast1 E (S_X4.f1 S0) (Bd.in b14 (by decide)) dX4_add_25 (fun v15 e16 => ?_)
  have o17 : Ok G v15 w := by rw [e16]; exact Ok.sv o8 (S_X4.f1 S0) b14 bx_1 1 17 (by decide) (by decide +kernel)
  have k18 : Kp G v v15 := by rw [e16]; exact Kp.sv k9 (S_X4.f1 S0) b14 1 17 0 99 (by decide) (by decide +kernel)
  have f19 : Fr G [4, 120, 124] v v15 := Fr.st f10 e16 (S_X4.f1 S0) rfl
  have e20 : z_0 = v15 h0 2 := by rw [e16, stv_a (tg_ne (S_X4.h S0) ((S_X4.f1 S0)) rfl)]; exact e11
  refine J_aload_n E dX4_add_26 1 rfl ?_
  refine J_getR E in_X4 rfl (S_X4.h S0) 1 (by decide) wd180 rfl dX4_add_27 ?_
  refine J_iload E dX4_add_30 0 rfl ?_
  refine J_iconst E 2 dX4_add_32 (by decide) ?_
  refine J_iadd E dX4_add_33 (fun x21 e22 => ?_)
  have b23 : Bd x21 2 18 := (Bd.add e22 b5 (Bd.lit 2 2 (by decide)) (by decide)).w _ _ (by decide)
  refine J_iload_n E dX4_add_34 4 rfl ?_
  refine J_iast1 E (S_X4.f1 S0) (Bd.in b23 (by decide)) dX4_add_35 (fun v24 e25 => ?_)
  have o26 : Ok G v24 w := by rw [e25]; exact Ok.sv o17 (S_X4.f1 S0) b23 bx_2 2 17 (by decide) (by decide +kernel)
  have k27 : Kp G v v24 := by rw [e25]; exact Kp.sv k18 (S_X4.f1 S0) b23 2 17 0 60 (by decide) (by decide +kernel)
  have f28 : Fr G [4, 120, 124] v v24 := Fr.st f19 e25 (S_X4.f1 S0) rfl
  have e29 : z_0 = v24 h0 2 := by rw [e25, stv_a (tg_ne (S_X4.h S0) ((S_X4.f1 S0)) rfl)]; exact e20
  refine J_aload_n E dX4_add_36 1 rfl ?_
  refine J_getR E in_X4 rfl (S_X4.h S0) 1 (by decide) wd180 rfl dX4_add_37 ?_
  refine J_iload E dX4_add_40 0 rfl ?_
  refine J_iconst E 3 dX4_add_42 (by decide) ?_
  refine J_iadd E dX4_add_43 (fun x30 e31 => ?_)
  have b32 : Bd x30 3 19 := (Bd.add e31 b5 (Bd.lit 3 3 (by decide)) (by decide)).w _ _ (by decide)
  refine J_iload E dX4_add_44 5 rfl ?_
  refine J_iast1 E (S_X4.f1 S0) (Bd.in b32 (by decide)) dX4_add_46 (fun v33 e34 => ?_)
  have o35 : Ok G v33 w := by rw [e34]; exact Ok.sv o26 (S_X4.f1 S0) b32 bx_3 3 17 (by decide) (by decide +kernel)
  have k36 : Kp G v v33 := by rw [e34]; exact Kp.sv k27 (S_X4.f1 S0) b32 3 17 0 1 (by decide) (by decide +kernel)
  have f37 : Fr G [4, 120, 124] v v33 := Fr.st f28 e34 (S_X4.f1 S0) rfl
  have e38 : z_0 = v33 h0 2 := by rw [e34, stv_a (tg_ne (S_X4.h S0) ((S_X4.f1 S0)) rfl)]; exact e29
  refine J_aload_n E dX4_add_47 1 rfl ?_
  refine J_dup E dX4_add_48 rfl ?_
  refine J_getI E in_X4 rfl (S_X4.h S0) 2 (by decide) wd181 rfl dX4_add_49 (fun x39 e40 => ?_)
  rw [show x39 = z_0 from e40.trans (e38).symm]
  refine J_iconst E 1 dX4_add_52 (by decide) ?_
  refine J_iadd E dX4_add_53 (fun x41 e42 => ?_)
  have b43 : Bd x41 1 5 := (Bd.add e42 pre0 (Bd.lit 1 1 (by decide)) (by decide)).w _ _ (by decide)
  refine J_pI E in_X4 rfl (S_X4.h S0) 2 (by decide) wd181 tyX4 tyX4_ok nmX4 rfl rfl .int (by decide +kernel) rfl rfl dX4_add_54 (fun v44 e45 => ?_)
  have o46 : Ok G v44 w := Ok.pf o35 e45 (S_X4.h S0) rfl (b43.w 0 5 (by decide))
  have k47 : Kp G v v44 := Kp.pf k36 e45 (S_X4.h S0) rfl
  have f48 : Fr G [4, 120, 124] v v44 := Fr.st f37 e45 (S_X4.h S0) rfl
  have e49 : x41 = v44 h0 2 := by rw [e45, stv_s]
  refine J_aload_n E dX4_add_57 1 rfl ?_
  refine J_getI E in_X4 rfl (S_X4.h S0) 2 (by decide) wd181 rfl dX4_add_58 (fun x50 e51 => ?_)
  rw [show x50 = x41 from e51.trans (e49).symm]
  exact J_iret E hr dX4_add_61 ⟨o46, k47, b43, f48⟩

abbrev rm_X4_add_6 : Room := { frames := 0, cells := 0, slots := 0, locals := 0 }
set_option maxHeartbeats 4000000 in
set_option maxRecDepth 100000 in
theorem ct_X4_add_6 (l : Launch) (D : va_G) (dA : Nat → ClassId) (G : Gm) (v : Mv) (w : Mw) (hOk : Ok G v w) (h0 : Nat) (S0 : S_X4 G h0 6) (x_0 : Int32) (bx_0 : Bd x_0 0 6) (x_1 : Int32) (bx_1 : Bd x_1 1 30) (x_2 : Int32) (bx_2 : Bd x_2 0 99) (x_3 : Int32) (bx_3 : Bd x_3 0 99) (z_0 : Int32) (ez_0 : z_0 = v h0 2) (pre0 : Bd z_0 0 5) : CtI l yX4_add cX4_add 6 (some .int) rm_X4_add_6 D dA G [.ref h0, .int x_0, .int x_1, .int x_2, .int x_3] v w (fun r v1 w1 => Ok G v1 w1 ∧ Kp G v v1 ∧ Bd r 1 6 ∧ Fr G [4, 120, 124] v v1) := by
  refine CtI.of RX4 [(0, .ref h0), (1, .int x_0), (2, .int x_1), (3, .int x_2), (4, .int x_3)] (Nat.le_of_ble_eq_true rfl) rfl (by decide) rfl ?_
  intro p e s m args below meth c E hr
  refine J_iconst E 4 dX4_add_0 (by decide) ?_
  refine J_aload_n E dX4_add_1 0 rfl ?_
  refine J_getI E in_X4 rfl (S_X4.h S0) 2 (by decide) wd181 rfl dX4_add_2 (fun x1 e2 => ?_)
  rw [show x1 = z_0 from e2.trans (ez_0).symm]
  refine J_imul E dX4_add_5 (fun x3 e4 => ?_)
  have b5 : Bd x3 0 20 := Bd.mul e4 (Bd.lit 4 4 (by decide)) pre0 (by decide)
  refine J_istore E [(5, .int x3), (0, .ref h0), (1, .int x_0), (2, .int x_1), (3, .int x_2), (4, .int x_3)] dX4_add_6 (by decide) rfl ?_
  refine J_aload_n E dX4_add_8 1 rfl ?_
  refine J_getR E in_X4 rfl (S_X4.h S0) 1 (by decide) wd180 rfl dX4_add_9 ?_
  refine J_iload E dX4_add_12 0 rfl ?_
  refine J_iload_n E dX4_add_14 2 rfl ?_
  refine J_iast1 E (S_X4.f1 S0) (Bd.in b5 (by decide)) dX4_add_15 (fun v6 e7 => ?_)
  have o8 : Ok G v6 w := by rw [e7]; exact Ok.sv hOk (S_X4.f1 S0) b5 bx_0 0 21 (by decide) (by decide +kernel)
  have k9 : Kp G v v6 := by rw [e7]; exact Kp.sv Kp.rf (S_X4.f1 S0) b5 0 21 0 6 (by decide) (by decide +kernel)
  have f10 : Fr G [4, 120, 124] v v6 := Fr.st Fr.rf e7 (S_X4.f1 S0) rfl
  have e11 : z_0 = v6 h0 2 := by rw [e7, stv_a (tg_ne (S_X4.h S0) ((S_X4.f1 S0)) rfl)]; exact ez_0
  refine J_aload_n E dX4_add_16 1 rfl ?_
  refine J_getR E in_X4 rfl (S_X4.h S0) 1 (by decide) wd180 rfl dX4_add_17 ?_
  refine J_iload E dX4_add_20 0 rfl ?_
  refine J_iconst E 1 dX4_add_22 (by decide) ?_
  refine J_iadd E dX4_add_23 (fun x12 e13 => ?_)
  have b14 : Bd x12 1 21 := (Bd.add e13 b5 (Bd.lit 1 1 (by decide)) (by decide)).w _ _ (by decide)
  refine J_iload_n E dX4_add_24 3 rfl ?_
  refine J_iast1 E (S_X4.f1 S0) (Bd.in b14 (by decide)) dX4_add_25 (fun v15 e16 => ?_)
  have o17 : Ok G v15 w := by rw [e16]; exact Ok.sv o8 (S_X4.f1 S0) b14 bx_1 1 21 (by decide) (by decide +kernel)
  have k18 : Kp G v v15 := by rw [e16]; exact Kp.sv k9 (S_X4.f1 S0) b14 1 21 1 30 (by decide) (by decide +kernel)
  have f19 : Fr G [4, 120, 124] v v15 := Fr.st f10 e16 (S_X4.f1 S0) rfl
  have e20 : z_0 = v15 h0 2 := by rw [e16, stv_a (tg_ne (S_X4.h S0) ((S_X4.f1 S0)) rfl)]; exact e11
  refine J_aload_n E dX4_add_26 1 rfl ?_
  refine J_getR E in_X4 rfl (S_X4.h S0) 1 (by decide) wd180 rfl dX4_add_27 ?_
  refine J_iload E dX4_add_30 0 rfl ?_
  refine J_iconst E 2 dX4_add_32 (by decide) ?_
  refine J_iadd E dX4_add_33 (fun x21 e22 => ?_)
  have b23 : Bd x21 2 22 := (Bd.add e22 b5 (Bd.lit 2 2 (by decide)) (by decide)).w _ _ (by decide)
  refine J_iload_n E dX4_add_34 4 rfl ?_
  refine J_iast1 E (S_X4.f1 S0) (Bd.in b23 (by decide)) dX4_add_35 (fun v24 e25 => ?_)
  have o26 : Ok G v24 w := by rw [e25]; exact Ok.sv o17 (S_X4.f1 S0) b23 bx_2 2 21 (by decide) (by decide +kernel)
  have k27 : Kp G v v24 := by rw [e25]; exact Kp.sv k18 (S_X4.f1 S0) b23 2 21 0 99 (by decide) (by decide +kernel)
  have f28 : Fr G [4, 120, 124] v v24 := Fr.st f19 e25 (S_X4.f1 S0) rfl
  have e29 : z_0 = v24 h0 2 := by rw [e25, stv_a (tg_ne (S_X4.h S0) ((S_X4.f1 S0)) rfl)]; exact e20
  refine J_aload_n E dX4_add_36 1 rfl ?_
  refine J_getR E in_X4 rfl (S_X4.h S0) 1 (by decide) wd180 rfl dX4_add_37 ?_
  refine J_iload E dX4_add_40 0 rfl ?_
  refine J_iconst E 3 dX4_add_42 (by decide) ?_
  refine J_iadd E dX4_add_43 (fun x30 e31 => ?_)
  have b32 : Bd x30 3 23 := (Bd.add e31 b5 (Bd.lit 3 3 (by decide)) (by decide)).w _ _ (by decide)
  refine J_iload E dX4_add_44 5 rfl ?_
  refine J_iast1 E (S_X4.f1 S0) (Bd.in b32 (by decide)) dX4_add_46 (fun v33 e34 => ?_)
  have o35 : Ok G v33 w := by rw [e34]; exact Ok.sv o26 (S_X4.f1 S0) b32 bx_3 3 21 (by decide) (by decide +kernel)
  have k36 : Kp G v v33 := by rw [e34]; exact Kp.sv k27 (S_X4.f1 S0) b32 3 21 0 99 (by decide) (by decide +kernel)
  have f37 : Fr G [4, 120, 124] v v33 := Fr.st f28 e34 (S_X4.f1 S0) rfl
  have e38 : z_0 = v33 h0 2 := by rw [e34, stv_a (tg_ne (S_X4.h S0) ((S_X4.f1 S0)) rfl)]; exact e29
  refine J_aload_n E dX4_add_47 1 rfl ?_
  refine J_dup E dX4_add_48 rfl ?_
  refine J_getI E in_X4 rfl (S_X4.h S0) 2 (by decide) wd181 rfl dX4_add_49 (fun x39 e40 => ?_)
  rw [show x39 = z_0 from e40.trans (e38).symm]
  refine J_iconst E 1 dX4_add_52 (by decide) ?_
  refine J_iadd E dX4_add_53 (fun x41 e42 => ?_)
  have b43 : Bd x41 1 6 := (Bd.add e42 pre0 (Bd.lit 1 1 (by decide)) (by decide)).w _ _ (by decide)
  refine J_pI E in_X4 rfl (S_X4.h S0) 2 (by decide) wd181 tyX4 tyX4_ok nmX4 rfl rfl .int (by decide +kernel) rfl rfl dX4_add_54 (fun v44 e45 => ?_)
  have o46 : Ok G v44 w := Ok.pf o35 e45 (S_X4.h S0) rfl (b43.w 0 6 (by decide))
  have k47 : Kp G v v44 := Kp.pf k36 e45 (S_X4.h S0) rfl
  have f48 : Fr G [4, 120, 124] v v44 := Fr.st f37 e45 (S_X4.h S0) rfl
  have e49 : x41 = v44 h0 2 := by rw [e45, stv_s]
  refine J_aload_n E dX4_add_57 1 rfl ?_
  refine J_getI E in_X4 rfl (S_X4.h S0) 2 (by decide) wd181 rfl dX4_add_58 (fun x50 e51 => ?_)
  rw [show x50 = x41 from e51.trans (e49).symm]
  exact J_iret E hr dX4_add_61 ⟨o46, k47, b43, f48⟩

abbrev rm_X4_cell_5 : Room := { frames := 0, cells := 0, slots := 0, locals := 0 }
set_option maxHeartbeats 4000000 in
set_option maxRecDepth 100000 in
theorem ct_X4_cell_5 (l : Launch) (D : va_G) (dA : Nat → ClassId) (G : Gm) (v : Mv) (w : Mw) (hOk : Ok G v w) (h0 : Nat) (S0 : S_X4 G h0 5) (x_0 : Int32) (bx_0 : Bd x_0 0 4) (x_1 : Int32) (bx_1 : Bd x_1 0 3) : CtI l yX4_cell cX4_cell 3 (some .int) rm_X4_cell_5 D dA G [.ref h0, .int x_0, .int x_1] v w (fun r v1 w1 => v1 = v ∧ w1 = w ∧ True ∧ True) := by
  refine CtI.of RX4 [(0, .ref h0), (1, .int x_0), (2, .int x_1)] (Nat.le_of_ble_eq_true rfl) rfl (by decide) rfl ?_
  intro p e s m args below meth c E hr
  refine J_aload_n E dX4_cell_0 0 rfl ?_
  refine J_getR E in_X4 rfl (S_X4.h S0) 1 (by decide) wd180 rfl dX4_cell_1 ?_
  refine J_iconst E 4 dX4_cell_4 (by decide) ?_
  refine J_iload_n E dX4_cell_5 1 rfl ?_
  refine J_imul E dX4_cell_6 (fun x1 e2 => ?_)
  have b3 : Bd x1 0 16 := Bd.mul e2 (Bd.lit 4 4 (by decide)) bx_0 (by decide)
  refine J_iload_n E dX4_cell_7 2 rfl ?_
  refine J_iadd E dX4_cell_8 (fun x4 e5 => ?_)
  have b6 : Bd x4 0 19 := (Bd.add e5 b3 bx_1 (by decide)).w _ _ (by decide)
  refine J_iald1 E (S_X4.f1 S0) (Bd.in b6 (by decide)) dX4_cell_9 (fun x7 e8 => ?_)
  exact J_iret E hr dX4_cell_10 ⟨rfl, rfl, trivial, trivial⟩

abbrev rm_X4_cell_6 : Room := { frames := 0, cells := 0, slots := 0, locals := 0 }
set_option maxHeartbeats 4000000 in
set_option maxRecDepth 100000 in
theorem ct_X4_cell_6 (l : Launch) (D : va_G) (dA : Nat → ClassId) (G : Gm) (v : Mv) (w : Mw) (hOk : Ok G v w) (h0 : Nat) (S0 : S_X4 G h0 6) (x_0 : Int32) (bx_0 : Bd x_0 0 5) (x_1 : Int32) (bx_1 : Bd x_1 0 3) : CtI l yX4_cell cX4_cell 3 (some .int) rm_X4_cell_6 D dA G [.ref h0, .int x_0, .int x_1] v w (fun r v1 w1 => v1 = v ∧ w1 = w ∧ True ∧ True) := by
  refine CtI.of RX4 [(0, .ref h0), (1, .int x_0), (2, .int x_1)] (Nat.le_of_ble_eq_true rfl) rfl (by decide) rfl ?_
  intro p e s m args below meth c E hr
  refine J_aload_n E dX4_cell_0 0 rfl ?_
  refine J_getR E in_X4 rfl (S_X4.h S0) 1 (by decide) wd180 rfl dX4_cell_1 ?_
  refine J_iconst E 4 dX4_cell_4 (by decide) ?_
  refine J_iload_n E dX4_cell_5 1 rfl ?_
  refine J_imul E dX4_cell_6 (fun x1 e2 => ?_)
  have b3 : Bd x1 0 20 := Bd.mul e2 (Bd.lit 4 4 (by decide)) bx_0 (by decide)
  refine J_iload_n E dX4_cell_7 2 rfl ?_
  refine J_iadd E dX4_cell_8 (fun x4 e5 => ?_)
  have b6 : Bd x4 0 23 := (Bd.add e5 b3 bx_1 (by decide)).w _ _ (by decide)
  refine J_iald1 E (S_X4.f1 S0) (Bd.in b6 (by decide)) dX4_cell_9 (fun x7 e8 => ?_)
  exact J_iret E hr dX4_cell_10 ⟨rfl, rfl, trivial, trivial⟩

abbrev rm_X4_copyFrom_5 : Room := { frames := 0, cells := 0, slots := 0, locals := 0 }
set_option maxHeartbeats 4000000 in
set_option maxRecDepth 100000 in
theorem ct_X4_copyFrom_5 (l : Launch) (D : va_G) (dA : Nat → ClassId) (G : Gm) (v : Mv) (w : Mw) (hOk : Ok G v w) (h0 : Nat) (S0 : S_X4 G h0 5) (h_0 : Nat) (S_0 : S_X4 G h_0 5) : CtV l yX4_copyFrom cX4_copyFrom 3 none rm_X4_copyFrom_5 D dA G [.ref h0, .ref h_0] v w (fun v1 w1 => Ok G v1 w1 ∧ Kp G v v1 ∧ Fr G [4, 120, 124] v v1) := by
  refine CtV.of RX4 [(0, .ref h0), (1, .ref h_0)] (Nat.le_of_ble_eq_true rfl) rfl (by decide) rfl ?_
  intro p e s m args below meth c E hr
  have J10 : ∀ n : Nat, ∀ (v1 : Mv) (w2 : Mw), Ok G v1 w2 → Kp G v v1 → Fr G [4, 120, 124] v v1 → ∀ x6 : Int32, Bd x6 0 60 → Mu x6 60 n → J p l e rm_X4_copyFrom_5 s m args below meth c 0 0 (MQ below (QcV D dA G (fun v1 w1 => Ok G v1 w1 ∧ Kp G v v1 ∧ Fr G [4, 120, 124] v v1)) args s 0 0 (dm G)) D dA G (dm G) s.heap 3 v1 w2 [(0, .ref h0), (1, .ref h_0), (2, .int x6)] 10 [] := by
    intro n
    induction n with
    | zero => intro v1 w2 o3 k4 f5 x6 b7 hm; exact hm.zero b7 (by decide)
    | succ n ih10 =>
      intro v1 w2 o3 k4 f5 x6 b7 hmu10
      refine J_iload_n E dX4_copyFrom_10 2 rfl ?_
      refine J_iconst E 4 dX4_copyFrom_11 (by decide) ?_
      refine J_aload_n E dX4_copyFrom_12 0 rfl ?_
      refine J_getI E in_X4 rfl (S_X4.h S0) 2 (by decide) wd181 rfl dX4_copyFrom_13 (fun x8 e9 => ?_)
      have b10 : Bd x8 0 5 := Ok.fd o3 e9 (S_X4.h S0) rfl
      refine J_imul E dX4_copyFrom_16 (fun x11 e12 => ?_)
      have b13 : Bd x11 0 20 := Bd.mul e12 (Bd.lit 4 4 (by decide)) b10 (by decide)
      refine J_icmp_ge E 38 dX4_copyFrom_17 (by decide) (fun c14 => ?_) (fun c14 => ?_)
      · exact J_vret E hr dX4_copyFrom_38 ⟨o3, k4, f5⟩
      · have b15 : Bd x6 0 19 := Bd.lt_l (nle c14) b7 b13 19 (by decide)
        have b16 : Bd x11 1 20 := Bd.lt_r (nle c14) b7 b13 1 (by decide)
        refine J_aload_n E dX4_copyFrom_20 0 rfl ?_
        refine J_getR E in_X4 rfl (S_X4.h S0) 1 (by decide) wd180 rfl dX4_copyFrom_21 ?_
        refine J_iload_n E dX4_copyFrom_24 2 rfl ?_
        refine J_aload_n E dX4_copyFrom_25 1 rfl ?_
        refine J_getR E in_X4 rfl (S_X4.h S_0) 1 (by decide) wd180 rfl dX4_copyFrom_26 ?_
        refine J_iload_n E dX4_copyFrom_29 2 rfl ?_
        refine J_iald1 E (S_X4.f1 S_0) (Bd.in b15 (by decide)) dX4_copyFrom_30 (fun x17 e18 => ?_)
        refine J_iast1 E (S_X4.f1 S0) (Bd.in b15 (by decide)) dX4_copyFrom_31 (fun v19 e20 => ?_)
        have o21 : Ok G v19 w2 := by rw [e20]; exact Ok.sv o3 (S_X4.f1 S0) b15 (Bd.any x17) 0 20 (by decide) (by decide +kernel)
        have k22 : Kp G v v19 := by rw [e20]; exact Kp.sv k4 (S_X4.f1 S0) b15 0 20 I0 I1 (by decide) (by decide +kernel)
        have f23 : Fr G [4, 120, 124] v v19 := Fr.st f5 e20 (S_X4.f1 S0) rfl
        have e24 : x8 = v19 h0 2 := by rw [e20, stv_a (tg_ne (S_X4.h S0) ((S_X4.f1 S0)) rfl)]; exact e9
        refine J_iinc E 2 1 (fun z => [(2, .int z), (0, .ref h0), (1, .ref h_0)]) dX4_copyFrom_32 rfl (by decide) (by decide) (fun _ => rfl) (fun x25 e26 => ?_)
        have b27 : Bd x25 1 20 := (Bd.add e26 b15 (Bd.lit 1 1 (by decide)) (by decide)).w _ _ (by decide)
        refine J_goto E 10 dX4_copyFrom_35 (by decide) ?_
        exact J.sub [1, 2, 0] rfl (ih10 v19 w2 (o21) (k22) f23 x25 (b27.w 0 60 (by decide)) (Mu.step hmu10 e26 b15 (Bd.lit 1 1 (by decide)) (by decide)))
  refine J_aload_n E dX4_copyFrom_0 0 rfl ?_
  refine J_aload_n E dX4_copyFrom_1 1 rfl ?_
  refine J_getI E in_X4 rfl (S_X4.h S_0) 2 (by decide) wd181 rfl dX4_copyFrom_2 (fun x28 e29 => ?_)
  have b30 : Bd x28 0 5 := Ok.fd hOk e29 (S_X4.h S_0) rfl
  refine J_pI E in_X4 rfl (S_X4.h S0) 2 (by decide) wd181 tyX4 tyX4_ok nmX4 rfl rfl .int (by decide +kernel) rfl rfl dX4_copyFrom_5 (fun v31 e32 => ?_)
  have o33 : Ok G v31 w := Ok.pf hOk e32 (S_X4.h S0) rfl b30
  have k34 : Kp G v v31 := Kp.pf Kp.rf e32 (S_X4.h S0) rfl
  have f35 : Fr G [4, 120, 124] v v31 := Fr.st Fr.rf e32 (S_X4.h S0) rfl
  have e36 : x28 = v31 h0 2 := by rw [e32, stv_s]
  refine J_iconst E 0 dX4_copyFrom_8 (by decide) ?_
  refine J_istore_n E [(2, .int 0), (0, .ref h0), (1, .ref h_0)] dX4_copyFrom_9 rfl (by decide) rfl ?_
  exact J.sub [1, 2, 0] rfl (J10 61 v31 w (o33) (k34) f35 0 ((Bd.lit 0 0 (by decide)).w 0 60 (by decide)) (Mu.start _ (Bd.lit 0 0 (by decide)) (by decide)))

abbrev rm_X4_copyFrom_6 : Room := { frames := 0, cells := 0, slots := 0, locals := 0 }
set_option maxHeartbeats 4000000 in
set_option maxRecDepth 100000 in
theorem ct_X4_copyFrom_6 (l : Launch) (D : va_G) (dA : Nat → ClassId) (G : Gm) (v : Mv) (w : Mw) (hOk : Ok G v w) (h0 : Nat) (S0 : S_X4 G h0 6) (h_0 : Nat) (S_0 : S_X4 G h_0 6) : CtV l yX4_copyFrom cX4_copyFrom 3 none rm_X4_copyFrom_6 D dA G [.ref h0, .ref h_0] v w (fun v1 w1 => Ok G v1 w1 ∧ Kp G v v1 ∧ Fr G [4, 120, 124] v v1) := by
  refine CtV.of RX4 [(0, .ref h0), (1, .ref h_0)] (Nat.le_of_ble_eq_true rfl) rfl (by decide) rfl ?_
  intro p e s m args below meth c E hr
  have J10 : ∀ n : Nat, ∀ (v1 : Mv) (w2 : Mw), Ok G v1 w2 → Kp G v v1 → Fr G [4, 120, 124] v v1 → ∀ x6 : Int32, Bd x6 0 60 → Mu x6 60 n → J p l e rm_X4_copyFrom_6 s m args below meth c 0 0 (MQ below (QcV D dA G (fun v1 w1 => Ok G v1 w1 ∧ Kp G v v1 ∧ Fr G [4, 120, 124] v v1)) args s 0 0 (dm G)) D dA G (dm G) s.heap 3 v1 w2 [(0, .ref h0), (1, .ref h_0), (2, .int x6)] 10 [] := by
    intro n
    induction n with
    | zero => intro v1 w2 o3 k4 f5 x6 b7 hm; exact hm.zero b7 (by decide)
    | succ n ih10 =>
      intro v1 w2 o3 k4 f5 x6 b7 hmu10
      refine J_iload_n E dX4_copyFrom_10 2 rfl ?_
      refine J_iconst E 4 dX4_copyFrom_11 (by decide) ?_
      refine J_aload_n E dX4_copyFrom_12 0 rfl ?_
      refine J_getI E in_X4 rfl (S_X4.h S0) 2 (by decide) wd181 rfl dX4_copyFrom_13 (fun x8 e9 => ?_)
      have b10 : Bd x8 0 6 := Ok.fd o3 e9 (S_X4.h S0) rfl
      refine J_imul E dX4_copyFrom_16 (fun x11 e12 => ?_)
      have b13 : Bd x11 0 24 := Bd.mul e12 (Bd.lit 4 4 (by decide)) b10 (by decide)
      refine J_icmp_ge E 38 dX4_copyFrom_17 (by decide) (fun c14 => ?_) (fun c14 => ?_)
      · exact J_vret E hr dX4_copyFrom_38 ⟨o3, k4, f5⟩
      · have b15 : Bd x6 0 23 := Bd.lt_l (nle c14) b7 b13 23 (by decide)
        have b16 : Bd x11 1 24 := Bd.lt_r (nle c14) b7 b13 1 (by decide)
        refine J_aload_n E dX4_copyFrom_20 0 rfl ?_
        refine J_getR E in_X4 rfl (S_X4.h S0) 1 (by decide) wd180 rfl dX4_copyFrom_21 ?_
        refine J_iload_n E dX4_copyFrom_24 2 rfl ?_
        refine J_aload_n E dX4_copyFrom_25 1 rfl ?_
        refine J_getR E in_X4 rfl (S_X4.h S_0) 1 (by decide) wd180 rfl dX4_copyFrom_26 ?_
        refine J_iload_n E dX4_copyFrom_29 2 rfl ?_
        refine J_iald1 E (S_X4.f1 S_0) (Bd.in b15 (by decide)) dX4_copyFrom_30 (fun x17 e18 => ?_)
        refine J_iast1 E (S_X4.f1 S0) (Bd.in b15 (by decide)) dX4_copyFrom_31 (fun v19 e20 => ?_)
        have o21 : Ok G v19 w2 := by rw [e20]; exact Ok.sv o3 (S_X4.f1 S0) b15 (Bd.any x17) 0 24 (by decide) (by decide +kernel)
        have k22 : Kp G v v19 := by rw [e20]; exact Kp.sv k4 (S_X4.f1 S0) b15 0 24 I0 I1 (by decide) (by decide +kernel)
        have f23 : Fr G [4, 120, 124] v v19 := Fr.st f5 e20 (S_X4.f1 S0) rfl
        have e24 : x8 = v19 h0 2 := by rw [e20, stv_a (tg_ne (S_X4.h S0) ((S_X4.f1 S0)) rfl)]; exact e9
        refine J_iinc E 2 1 (fun z => [(2, .int z), (0, .ref h0), (1, .ref h_0)]) dX4_copyFrom_32 rfl (by decide) (by decide) (fun _ => rfl) (fun x25 e26 => ?_)
        have b27 : Bd x25 1 24 := (Bd.add e26 b15 (Bd.lit 1 1 (by decide)) (by decide)).w _ _ (by decide)
        refine J_goto E 10 dX4_copyFrom_35 (by decide) ?_
        exact J.sub [1, 2, 0] rfl (ih10 v19 w2 (o21) (k22) f23 x25 (b27.w 0 60 (by decide)) (Mu.step hmu10 e26 b15 (Bd.lit 1 1 (by decide)) (by decide)))
  refine J_aload_n E dX4_copyFrom_0 0 rfl ?_
  refine J_aload_n E dX4_copyFrom_1 1 rfl ?_
  refine J_getI E in_X4 rfl (S_X4.h S_0) 2 (by decide) wd181 rfl dX4_copyFrom_2 (fun x28 e29 => ?_)
  have b30 : Bd x28 0 6 := Ok.fd hOk e29 (S_X4.h S_0) rfl
  refine J_pI E in_X4 rfl (S_X4.h S0) 2 (by decide) wd181 tyX4 tyX4_ok nmX4 rfl rfl .int (by decide +kernel) rfl rfl dX4_copyFrom_5 (fun v31 e32 => ?_)
  have o33 : Ok G v31 w := Ok.pf hOk e32 (S_X4.h S0) rfl b30
  have k34 : Kp G v v31 := Kp.pf Kp.rf e32 (S_X4.h S0) rfl
  have f35 : Fr G [4, 120, 124] v v31 := Fr.st Fr.rf e32 (S_X4.h S0) rfl
  have e36 : x28 = v31 h0 2 := by rw [e32, stv_s]
  refine J_iconst E 0 dX4_copyFrom_8 (by decide) ?_
  refine J_istore_n E [(2, .int 0), (0, .ref h0), (1, .ref h_0)] dX4_copyFrom_9 rfl (by decide) rfl ?_
  exact J.sub [1, 2, 0] rfl (J10 61 v31 w (o33) (k34) f35 0 ((Bd.lit 0 0 (by decide)).w 0 60 (by decide)) (Mu.start _ (Bd.lit 0 0 (by decide)) (by decide)))

abbrev rm_X4_mixInto_5 : Room := { frames := 0, cells := 0, slots := 0, locals := 0 }
set_option maxHeartbeats 4000000 in
set_option maxRecDepth 100000 in
theorem ct_X4_mixInto_5 (l : Launch) (D : va_G) (dA : Nat → ClassId) (G : Gm) (v : Mv) (w : Mw) (hOk : Ok G v w) (h0 : Nat) (S0 : S_X4 G h0 5) (y_0 : Int64) : CtL l yX4_mixInto cX4_mixInto 6 (some .long) rm_X4_mixInto_5 D dA G [.ref h0, .long y_0] v w (fun _ v1 w1 => v1 = v ∧ w1 = w ∧ True) := by
  refine CtL.of RX4 [(0, .ref h0), (1, .long y_0)] (Nat.le_of_ble_eq_true rfl) rfl (by decide) rfl ?_
  intro p e s m args below meth c E hr
  have J5 : ∀ n : Nat, ∀ y1 : Int64, ∀ x2 : Int32, Bd x2 0 60 → Mu x2 60 n → J p l e rm_X4_mixInto_5 s m args below meth c 0 0 (MQ below (QcL D dA G (fun _ v1 w1 => v1 = v ∧ w1 = w ∧ True)) args s 0 0 (dm G)) D dA G (dm G) s.heap 6 v w [(0, .ref h0), (3, .long y1), (5, .int x2)] 5 [] := by
    intro n
    induction n with
    | zero => intro y1 x2 b3 hm; exact hm.zero b3 (by decide)
    | succ n ih5 =>
      intro y1 x2 b3 hmu5
      refine J_iload E dX4_mixInto_5 2 rfl ?_
      refine J_iconst E 4 dX4_mixInto_7 (by decide) ?_
      refine J_aload_n E dX4_mixInto_8 0 rfl ?_
      refine J_getI E in_X4 rfl (S_X4.h S0) 2 (by decide) wd181 rfl dX4_mixInto_9 (fun x4 e5 => ?_)
      have b6 : Bd x4 0 5 := Ok.fd hOk e5 (S_X4.h S0) rfl
      refine J_imul E dX4_mixInto_12 (fun x7 e8 => ?_)
      have b9 : Bd x7 0 20 := Bd.mul e8 (Bd.lit 4 4 (by decide)) b6 (by decide)
      refine J_icmp_ge E 37 dX4_mixInto_13 (by decide) (fun c10 => ?_) (fun c10 => ?_)
      · refine J_lload_n E dX4_mixInto_37 1 rfl ?_
        exact J_lret E hr dX4_mixInto_38 ⟨rfl, rfl, trivial⟩
      · have b11 : Bd x2 0 19 := Bd.lt_l (nle c10) b3 b9 19 (by decide)
        have b12 : Bd x7 1 20 := Bd.lt_r (nle c10) b3 b9 1 (by decide)
        refine J_ldc2 E wd924 dX4_mixInto_16 ?_
        refine J_lload_n E dX4_mixInto_19 1 rfl ?_
        refine J_lmul E dX4_mixInto_20 (fun y13 e14 => ?_)
        refine J_aload_n E dX4_mixInto_21 0 rfl ?_
        refine J_getR E in_X4 rfl (S_X4.h S0) 1 (by decide) wd180 rfl dX4_mixInto_22 ?_
        refine J_iload E dX4_mixInto_25 2 rfl ?_
        refine J_iald1 E (S_X4.f1 S0) (Bd.in b11 (by decide)) dX4_mixInto_27 (fun x15 e16 => ?_)
        refine J_i2l E dX4_mixInto_28 (fun y17 e18 => ?_)
        refine J_ladd E dX4_mixInto_29 (fun y19 e20 => ?_)
        refine J_lstore_n E [(3, .long y19), (0, .ref h0), (5, .int x2)] dX4_mixInto_30 rfl (by decide) rfl ?_
        refine J_iinc E 2 1 (fun z => [(5, .int z), (3, .long y19), (0, .ref h0)]) dX4_mixInto_31 rfl (by decide) (by decide) (fun _ => rfl) (fun x21 e22 => ?_)
        have b23 : Bd x21 1 20 := (Bd.add e22 b11 (Bd.lit 1 1 (by decide)) (by decide)).w _ _ (by decide)
        refine J_goto E 5 dX4_mixInto_34 (by decide) ?_
        exact J.sub [2, 1, 0] rfl (ih5 y19 x21 (b23.w 0 60 (by decide)) (Mu.step hmu5 e22 b11 (Bd.lit 1 1 (by decide)) (by decide)))
  refine J_lload_n E dX4_mixInto_0 1 rfl ?_
  refine J_lstore_n E [(3, .long y_0), (0, .ref h0), (1, .long y_0)] dX4_mixInto_1 rfl (by decide) rfl ?_
  refine J_iconst E 0 dX4_mixInto_2 (by decide) ?_
  refine J_istore E [(5, .int 0), (3, .long y_0), (0, .ref h0), (1, .long y_0)] dX4_mixInto_3 (by decide) rfl ?_
  exact J.sub [2, 1, 0] rfl (J5 61 y_0 0 ((Bd.lit 0 0 (by decide)).w 0 60 (by decide)) (Mu.start _ (Bd.lit 0 0 (by decide)) (by decide)))

abbrev rm_X4_mixInto_6 : Room := { frames := 0, cells := 0, slots := 0, locals := 0 }
set_option maxHeartbeats 4000000 in
set_option maxRecDepth 100000 in
theorem ct_X4_mixInto_6 (l : Launch) (D : va_G) (dA : Nat → ClassId) (G : Gm) (v : Mv) (w : Mw) (hOk : Ok G v w) (h0 : Nat) (S0 : S_X4 G h0 6) (y_0 : Int64) : CtL l yX4_mixInto cX4_mixInto 6 (some .long) rm_X4_mixInto_6 D dA G [.ref h0, .long y_0] v w (fun _ v1 w1 => v1 = v ∧ w1 = w ∧ True) := by
  refine CtL.of RX4 [(0, .ref h0), (1, .long y_0)] (Nat.le_of_ble_eq_true rfl) rfl (by decide) rfl ?_
  intro p e s m args below meth c E hr
  have J5 : ∀ n : Nat, ∀ y1 : Int64, ∀ x2 : Int32, Bd x2 0 60 → Mu x2 60 n → J p l e rm_X4_mixInto_6 s m args below meth c 0 0 (MQ below (QcL D dA G (fun _ v1 w1 => v1 = v ∧ w1 = w ∧ True)) args s 0 0 (dm G)) D dA G (dm G) s.heap 6 v w [(0, .ref h0), (3, .long y1), (5, .int x2)] 5 [] := by
    intro n
    induction n with
    | zero => intro y1 x2 b3 hm; exact hm.zero b3 (by decide)
    | succ n ih5 =>
      intro y1 x2 b3 hmu5
      refine J_iload E dX4_mixInto_5 2 rfl ?_
      refine J_iconst E 4 dX4_mixInto_7 (by decide) ?_
      refine J_aload_n E dX4_mixInto_8 0 rfl ?_
      refine J_getI E in_X4 rfl (S_X4.h S0) 2 (by decide) wd181 rfl dX4_mixInto_9 (fun x4 e5 => ?_)
      have b6 : Bd x4 0 6 := Ok.fd hOk e5 (S_X4.h S0) rfl
      refine J_imul E dX4_mixInto_12 (fun x7 e8 => ?_)
      have b9 : Bd x7 0 24 := Bd.mul e8 (Bd.lit 4 4 (by decide)) b6 (by decide)
      refine J_icmp_ge E 37 dX4_mixInto_13 (by decide) (fun c10 => ?_) (fun c10 => ?_)
      · refine J_lload_n E dX4_mixInto_37 1 rfl ?_
        exact J_lret E hr dX4_mixInto_38 ⟨rfl, rfl, trivial⟩
      · have b11 : Bd x2 0 23 := Bd.lt_l (nle c10) b3 b9 23 (by decide)
        have b12 : Bd x7 1 24 := Bd.lt_r (nle c10) b3 b9 1 (by decide)
        refine J_ldc2 E wd924 dX4_mixInto_16 ?_
        refine J_lload_n E dX4_mixInto_19 1 rfl ?_
        refine J_lmul E dX4_mixInto_20 (fun y13 e14 => ?_)
        refine J_aload_n E dX4_mixInto_21 0 rfl ?_
        refine J_getR E in_X4 rfl (S_X4.h S0) 1 (by decide) wd180 rfl dX4_mixInto_22 ?_
        refine J_iload E dX4_mixInto_25 2 rfl ?_
        refine J_iald1 E (S_X4.f1 S0) (Bd.in b11 (by decide)) dX4_mixInto_27 (fun x15 e16 => ?_)
        refine J_i2l E dX4_mixInto_28 (fun y17 e18 => ?_)
        refine J_ladd E dX4_mixInto_29 (fun y19 e20 => ?_)
        refine J_lstore_n E [(3, .long y19), (0, .ref h0), (5, .int x2)] dX4_mixInto_30 rfl (by decide) rfl ?_
        refine J_iinc E 2 1 (fun z => [(5, .int z), (3, .long y19), (0, .ref h0)]) dX4_mixInto_31 rfl (by decide) (by decide) (fun _ => rfl) (fun x21 e22 => ?_)
        have b23 : Bd x21 1 24 := (Bd.add e22 b11 (Bd.lit 1 1 (by decide)) (by decide)).w _ _ (by decide)
        refine J_goto E 5 dX4_mixInto_34 (by decide) ?_
        exact J.sub [2, 1, 0] rfl (ih5 y19 x21 (b23.w 0 60 (by decide)) (Mu.step hmu5 e22 b11 (Bd.lit 1 1 (by decide)) (by decide)))
  refine J_lload_n E dX4_mixInto_0 1 rfl ?_
  refine J_lstore_n E [(3, .long y_0), (0, .ref h0), (1, .long y_0)] dX4_mixInto_1 rfl (by decide) rfl ?_
  refine J_iconst E 0 dX4_mixInto_2 (by decide) ?_
  refine J_istore E [(5, .int 0), (3, .long y_0), (0, .ref h0), (1, .long y_0)] dX4_mixInto_3 (by decide) rfl ?_
  exact J.sub [2, 1, 0] rfl (J5 61 y_0 0 ((Bd.lit 0 0 (by decide)).w 0 60 (by decide)) (Mu.start _ (Bd.lit 0 0 (by decide)) (by decide)))

abbrev rm_X6_copyFrom : Room := { frames := 1, cells := 0, slots := 0, locals := 22 }
set_option maxHeartbeats 4000000 in
set_option maxRecDepth 100000 in
theorem ct_X6_copyFrom (l : Launch) (D : va_G) (dA : Nat → ClassId) (G : Gm) (v : Mv) (w : Mw) (hOk : Ok G v w) (h0 : Nat) (S0 : S_X6 G h0) (h_0 : Nat) (S_0 : S_X6 G h_0) : CtV l yX6_copyFrom cX6_copyFrom 3 none rm_X6_copyFrom D dA G [.ref h0, .ref h_0] v w (fun v1 w1 => Ok G v1 w1 ∧ Kp G v v1 ∧ Fr G [2, 4, 6, 107, 120, 124] v v1) := by
  refine CtV.of RX6 [(0, .ref h0), (1, .ref h_0)] (Nat.le_of_ble_eq_true rfl) rfl (by decide) rfl ?_
  intro p e s m args below meth c E hr
  have J113 : ∀ n : Nat, ∀ (v1 : Mv) (w2 : Mw), Ok G v1 w2 → Kp G v v1 → Fr G [2, 4, 6, 107, 120, 124] v v1 → ∀ x6 : Int32, Bd x6 0 8 → Mu x6 8 n → J p l e rm_X6_copyFrom s m args below meth c 0 0 (MQ below (QcV D dA G (fun v1 w1 => Ok G v1 w1 ∧ Kp G v v1 ∧ Fr G [2, 4, 6, 107, 120, 124] v v1)) args s 0 0 (dm G)) D dA G (dm G) s.heap 3 v1 w2 [(0, .ref h0), (1, .ref h_0), (2, .int x6)] 113 [] := by
    intro n
    induction n with
    | zero => intro v1 w2 o3 k4 f5 x6 b7 hm; exact hm.zero b7 (by decide)
    | succ n ih113 =>
      intro v1 w2 o3 k4 f5 x6 b7 hmu113
      refine J_iload_n E dX6_copyFrom_113 2 rfl ?_
      refine J_aload_n E dX6_copyFrom_114 0 rfl ?_
      refine J_getI E in_X6 rfl (S_X6.h S0) 8 (by decide) wd211 rfl dX6_copyFrom_115 (fun x8 e9 => ?_)
      have b10 : Bd x8 0 8 := Ok.fd o3 e9 (S_X6.h S0) rfl
      refine J_icmp_ge E 142 dX6_copyFrom_118 (by decide) (fun c11 => ?_) (fun c11 => ?_)
      · refine J_aload_n E dX6_copyFrom_142 0 rfl ?_
        refine J_getR E in_X6 rfl (S_X6.h S0) 9 (by decide) wd213 rfl dX6_copyFrom_143 ?_
        refine J_aload_n E dX6_copyFrom_146 1 rfl ?_
        refine J_getR E in_X6 rfl (S_X6.h S_0) 9 (by decide) wd213 rfl dX6_copyFrom_147 ?_
        refine J_callVNV E cal_X4_copyFrom wd575 rfl (S_X4.h (S_X6.f9 S0)) [.ref (rf G h_0 9)] [] (ct_X4_copyFrom_5 l D dA G v1 w2 (o3) (rf G h0 9) (S_X6.f9 S0) (rf G h_0 9) (S_X6.f9 S_0)) rfl rfl (Nat.le_of_ble_eq_true rfl) ⟨rfl, rfl⟩ ⟨Nat.le_of_ble_eq_true rfl, Nat.le_of_ble_eq_true rfl⟩ dX6_copyFrom_150 (fun v12 w13 p14 => ?_)
        have o16 := p14.1
        have k17 : Kp G v v12 := (k4).tr p14.2.1
        have f18 : Fr G [2, 4, 6, 107, 120, 124] v v12 := Fr.tr f5 (p14.2.2) (by decide)
        refine J_aload_n E dX6_copyFrom_153 0 rfl ?_
        refine J_getR E in_X6 rfl (S_X6.h S0) 10 (by decide) wd215 rfl dX6_copyFrom_154 ?_
        refine J_aload_n E dX6_copyFrom_157 1 rfl ?_
        refine J_getR E in_X6 rfl (S_X6.h S_0) 10 (by decide) wd215 rfl dX6_copyFrom_158 ?_
        refine J_callVNV E cal_X4_copyFrom wd575 rfl (S_X4.h (S_X6.f10 S0)) [.ref (rf G h_0 10)] [] (ct_X4_copyFrom_6 l D dA G v12 w13 (o16) (rf G h0 10) (S_X6.f10 S0) (rf G h_0 10) (S_X6.f10 S_0)) rfl rfl (Nat.le_of_ble_eq_true rfl) ⟨rfl, rfl⟩ ⟨Nat.le_of_ble_eq_true rfl, Nat.le_of_ble_eq_true rfl⟩ dX6_copyFrom_161 (fun v19 w20 p21 => ?_)
        have o23 := p21.1
        have k24 : Kp G v v19 := (k17).tr p21.2.1
        have f25 : Fr G [2, 4, 6, 107, 120, 124] v v19 := Fr.tr f18 (p21.2.2) (by decide)
        refine J_aload_n E dX6_copyFrom_164 0 rfl ?_
        refine J_getR E in_X6 rfl (S_X6.h S0) 11 (by decide) wd217 rfl dX6_copyFrom_165 ?_
        refine J_aload_n E dX6_copyFrom_168 1 rfl ?_
        refine J_getR E in_X6 rfl (S_X6.h S_0) 11 (by decide) wd217 rfl dX6_copyFrom_169 ?_
        refine J_callVNV E cal_X4_copyFrom wd575 rfl (S_X4.h (S_X6.f11 S0)) [.ref (rf G h_0 11)] [] (ct_X4_copyFrom_6 l D dA G v19 w20 (o23) (rf G h0 11) (S_X6.f11 S0) (rf G h_0 11) (S_X6.f11 S_0)) rfl rfl (Nat.le_of_ble_eq_true rfl) ⟨rfl, rfl⟩ ⟨Nat.le_of_ble_eq_true rfl, Nat.le_of_ble_eq_true rfl⟩ dX6_copyFrom_172 (fun v26 w27 p28 => ?_)
        have o30 := p28.1
        have k31 : Kp G v v26 := (k24).tr p28.2.1
        have f32 : Fr G [2, 4, 6, 107, 120, 124] v v26 := Fr.tr f25 (p28.2.2) (by decide)
        exact J_vret E hr dX6_copyFrom_175 ⟨o30, k31, f32⟩
      · have b33 : Bd x6 0 7 := Bd.lt_l (nle c11) b7 b10 7 (by decide)
        have b34 : Bd x8 1 8 := Bd.lt_r (nle c11) b7 b10 1 (by decide)
        refine J_aload_n E dX6_copyFrom_121 0 rfl ?_
        refine J_getR E in_X6 rfl (S_X6.h S0) 7 (by decide) wd210 rfl dX6_copyFrom_122 ?_
        refine J_iload_n E dX6_copyFrom_125 2 rfl ?_
        have hi38 := Bd.in (n := 8) b33 (by decide)
        obtain ⟨q35, hq36, hw37⟩ := Ok.el o3 (S_X6.f7 S0).1 hi38
        refine J_aald4 E (S_X6.f7 S0).1 hi38 hw37 dX6_copyFrom_126 ?_
        have S39 := (S_X6.f7 S0).2 q35 hq36
        refine J_aload_n E dX6_copyFrom_127 1 rfl ?_
        refine J_getR E in_X6 rfl (S_X6.h S_0) 7 (by decide) wd210 rfl dX6_copyFrom_128 ?_
        refine J_iload_n E dX6_copyFrom_131 2 rfl ?_
        have hi43 := Bd.in (n := 8) b33 (by decide)
        obtain ⟨q40, hq41, hw42⟩ := Ok.el o3 (S_X6.f7 S_0).1 hi43
        refine J_aald4 E (S_X6.f7 S_0).1 hi43 hw42 dX6_copyFrom_132 ?_
        have S44 := (S_X6.f7 S_0).2 q40 hq41
        refine J_callVNV E cal_X2_copyFrom wd571 rfl (S_X2.h S39) [.ref q40] [] (ct_X2_copyFrom l D dA G v1 w2 (o3) q35 S39 q40 S44) rfl rfl (Nat.le_of_ble_eq_true rfl) ⟨rfl, rfl⟩ ⟨Nat.le_of_ble_eq_true rfl, Nat.le_of_ble_eq_true rfl⟩ dX6_copyFrom_133 (fun v45 w46 p47 => ?_)
        have o49 := p47.1
        have k50 : Kp G v v45 := (k4).tr p47.2.1
        have f51 : Fr G [2, 4, 6, 107, 120, 124] v v45 := Fr.tr f5 (p47.2.2) (by decide)
        refine J_iinc E 2 1 (fun z => [(2, .int z), (0, .ref h0), (1, .ref h_0)]) dX6_copyFrom_136 rfl (by decide) (by decide) (fun _ => rfl) (fun x52 e53 => ?_)
        have b54 : Bd x52 1 8 := (Bd.add e53 b33 (Bd.lit 1 1 (by decide)) (by decide)).w _ _ (by decide)
        refine J_goto E 113 dX6_copyFrom_139 (by decide) ?_
        exact J.sub [1, 2, 0] rfl (ih113 v45 w46 (o49) (k50) f51 x52 (b54.w 0 8 (by decide)) (Mu.step hmu113 e53 b33 (Bd.lit 1 1 (by decide)) (by decide)))
  have J56 : ∀ n : Nat, ∀ (v55 : Mv) (w56 : Mw), Ok G v55 w56 → Kp G v v55 → Fr G [2, 4, 6, 107, 120, 124] v v55 → ∀ x60 : Int32, Bd x60 0 7 → Mu x60 7 n → J p l e rm_X6_copyFrom s m args below meth c 0 0 (MQ below (QcV D dA G (fun v1 w1 => Ok G v1 w1 ∧ Kp G v v1 ∧ Fr G [2, 4, 6, 107, 120, 124] v v1)) args s 0 0 (dm G)) D dA G (dm G) s.heap 3 v55 w56 [(0, .ref h0), (1, .ref h_0), (2, .int x60)] 56 [] := by
    intro n
    induction n with
    | zero => intro v55 w56 o57 k58 f59 x60 b61 hm; exact hm.zero b61 (by decide)
    | succ n ih56 =>
      intro v55 w56 o57 k58 f59 x60 b61 hmu56
      refine J_iload_n E dX6_copyFrom_56 2 rfl ?_
      refine J_bipush E 7 dX6_copyFrom_57 (by decide) ?_
      refine J_icmp_ge E 92 dX6_copyFrom_59 (by decide) (fun c62 => ?_) (fun c62 => ?_)
      · have b63 : Bd x60 7 7 := Bd.le_r c62 (Bd.lit 7 7 (by decide)) b61 7 (by decide)
        refine J_aload_n E dX6_copyFrom_92 0 rfl ?_
        refine J_getR E in_X6 rfl (S_X6.h S0) 6 (by decide) wd207 rfl dX6_copyFrom_93 ?_
        refine J_aload_n E dX6_copyFrom_96 1 rfl ?_
        refine J_getR E in_X6 rfl (S_X6.h S_0) 6 (by decide) wd207 rfl dX6_copyFrom_97 ?_
        refine J_callVNV E cal_X2_copyFrom wd571 rfl (S_X2.h (S_X6.f6 S0)) [.ref (rf G h_0 6)] [] (ct_X2_copyFrom l D dA G v55 w56 (o57) (rf G h0 6) (S_X6.f6 S0) (rf G h_0 6) (S_X6.f6 S_0)) rfl rfl (Nat.le_of_ble_eq_true rfl) ⟨rfl, rfl⟩ ⟨Nat.le_of_ble_eq_true rfl, Nat.le_of_ble_eq_true rfl⟩ dX6_copyFrom_100 (fun v64 w65 p66 => ?_)
        have o68 := p66.1
        have k69 : Kp G v v64 := (k58).tr p66.2.1
        have f70 : Fr G [2, 4, 6, 107, 120, 124] v v64 := Fr.tr f59 (p66.2.2) (by decide)
        refine J_aload_n E dX6_copyFrom_103 0 rfl ?_
        refine J_aload_n E dX6_copyFrom_104 1 rfl ?_
        refine J_getI E in_X6 rfl (S_X6.h S_0) 8 (by decide) wd211 rfl dX6_copyFrom_105 (fun x71 e72 => ?_)
        have b73 : Bd x71 0 8 := Ok.fd o68 e72 (S_X6.h S_0) rfl
        refine J_pI E in_X6 rfl (S_X6.h S0) 8 (by decide) wd211 tyX6 tyX6_ok nmX6 rfl rfl .int (by decide +kernel) rfl rfl dX6_copyFrom_108 (fun v74 e75 => ?_)
        have o76 : Ok G v74 w65 := Ok.pf o68 e75 (S_X6.h S0) rfl b73
        have k77 : Kp G v v74 := Kp.pf k69 e75 (S_X6.h S0) rfl
        have f78 : Fr G [2, 4, 6, 107, 120, 124] v v74 := Fr.st f70 e75 (S_X6.h S0) rfl
        have e79 : x71 = v74 h0 8 := by rw [e75, stv_s]
        refine J_iconst E 0 dX6_copyFrom_111 (by decide) ?_
        refine J_istore_n E [(2, .int 0), (0, .ref h0), (1, .ref h_0)] dX6_copyFrom_112 rfl (by decide) rfl ?_
        exact J.sub [1, 2, 0] rfl (J113 9 v74 w65 (o76) (k77) f78 0 ((Bd.lit 0 0 (by decide)).w 0 8 (by decide)) (Mu.start _ (Bd.lit 0 0 (by decide)) (by decide)))
      · have b80 : Bd x60 0 6 := Bd.lt_l (nle c62) b61 (Bd.lit 7 7 (by decide)) 6 (by decide)
        refine J_aload_n E dX6_copyFrom_62 0 rfl ?_
        refine J_getR E in_X6 rfl (S_X6.h S0) 4 (by decide) wd203 rfl dX6_copyFrom_63 ?_
        refine J_iload_n E dX6_copyFrom_66 2 rfl ?_
        refine J_aload_n E dX6_copyFrom_67 1 rfl ?_
        refine J_getR E in_X6 rfl (S_X6.h S_0) 4 (by decide) wd203 rfl dX6_copyFrom_68 ?_
        refine J_iload_n E dX6_copyFrom_71 2 rfl ?_
        refine J_iald1 E (S_X6.f4 S_0) (Bd.in b80 (by decide)) dX6_copyFrom_72 (fun x81 e82 => ?_)
        refine J_iast1 E (S_X6.f4 S0) (Bd.in b80 (by decide)) dX6_copyFrom_73 (fun v83 e84 => ?_)
        have o85 : Ok G v83 w56 := by rw [e84]; exact Ok.sv o57 (S_X6.f4 S0) b80 (Bd.any x81) 0 7 (by decide) (by decide +kernel)
        have k86 : Kp G v v83 := by rw [e84]; exact Kp.sv k58 (S_X6.f4 S0) b80 0 7 I0 I1 (by decide) (by decide +kernel)
        have f87 : Fr G [2, 4, 6, 107, 120, 124] v v83 := Fr.st f59 e84 (S_X6.f4 S0) rfl
        refine J_aload_n E dX6_copyFrom_74 0 rfl ?_
        refine J_getR E in_X6 rfl (S_X6.h S0) 5 (by decide) wd205 rfl dX6_copyFrom_75 ?_
        refine J_iload_n E dX6_copyFrom_78 2 rfl ?_
        refine J_aload_n E dX6_copyFrom_79 1 rfl ?_
        refine J_getR E in_X6 rfl (S_X6.h S_0) 5 (by decide) wd205 rfl dX6_copyFrom_80 ?_
        refine J_iload_n E dX6_copyFrom_83 2 rfl ?_
        refine J_iald1 E (S_X6.f5 S_0) (Bd.in b80 (by decide)) dX6_copyFrom_84 (fun x88 e89 => ?_)
        refine J_iast1 E (S_X6.f5 S0) (Bd.in b80 (by decide)) dX6_copyFrom_85 (fun v90 e91 => ?_)
        have o92 : Ok G v90 w56 := by rw [e91]; exact Ok.sv o85 (S_X6.f5 S0) b80 (Bd.any x88) 0 7 (by decide) (by decide +kernel)
        have k93 : Kp G v v90 := by rw [e91]; exact Kp.sv k86 (S_X6.f5 S0) b80 0 7 I0 I1 (by decide) (by decide +kernel)
        have f94 : Fr G [2, 4, 6, 107, 120, 124] v v90 := Fr.st f87 e91 (S_X6.f5 S0) rfl
        refine J_iinc E 2 1 (fun z => [(2, .int z), (0, .ref h0), (1, .ref h_0)]) dX6_copyFrom_86 rfl (by decide) (by decide) (fun _ => rfl) (fun x95 e96 => ?_)
        have b97 : Bd x95 1 7 := (Bd.add e96 b80 (Bd.lit 1 1 (by decide)) (by decide)).w _ _ (by decide)
        refine J_goto E 56 dX6_copyFrom_89 (by decide) ?_
        exact J.sub [1, 2, 0] rfl (ih56 v90 w56 (o92) (k93) f94 x95 (b97.w 0 7 (by decide)) (Mu.step hmu56 e96 b80 (Bd.lit 1 1 (by decide)) (by decide)))
  have J18 : ∀ n : Nat, ∀ (v98 : Mv) (w99 : Mw), Ok G v98 w99 → Kp G v v98 → Fr G [2, 4, 6, 107, 120, 124] v v98 → ∀ x103 : Int32, Bd x103 0 7 → Mu x103 7 n → J p l e rm_X6_copyFrom s m args below meth c 0 0 (MQ below (QcV D dA G (fun v1 w1 => Ok G v1 w1 ∧ Kp G v v1 ∧ Fr G [2, 4, 6, 107, 120, 124] v v1)) args s 0 0 (dm G)) D dA G (dm G) s.heap 3 v98 w99 [(0, .ref h0), (1, .ref h_0), (2, .int x103)] 18 [] := by
    intro n
    induction n with
    | zero => intro v98 w99 o100 k101 f102 x103 b104 hm; exact hm.zero b104 (by decide)
    | succ n ih18 =>
      intro v98 w99 o100 k101 f102 x103 b104 hmu18
      refine J_iload_n E dX6_copyFrom_18 2 rfl ?_
      refine J_bipush E 7 dX6_copyFrom_19 (by decide) ?_
      refine J_icmp_ge E 54 dX6_copyFrom_21 (by decide) (fun c105 => ?_) (fun c105 => ?_)
      · have b106 : Bd x103 7 7 := Bd.le_r c105 (Bd.lit 7 7 (by decide)) b104 7 (by decide)
        refine J_iconst E 0 dX6_copyFrom_54 (by decide) ?_
        refine J_istore_n E [(2, .int 0), (0, .ref h0), (1, .ref h_0)] dX6_copyFrom_55 rfl (by decide) rfl ?_
        exact J.sub [1, 2, 0] rfl (J56 8 v98 w99 (o100) (k101) f102 0 ((Bd.lit 0 0 (by decide)).w 0 7 (by decide)) (Mu.start _ (Bd.lit 0 0 (by decide)) (by decide)))
      · have b107 : Bd x103 0 6 := Bd.lt_l (nle c105) b104 (Bd.lit 7 7 (by decide)) 6 (by decide)
        refine J_aload_n E dX6_copyFrom_24 0 rfl ?_
        refine J_getR E in_X6 rfl (S_X6.h S0) 1 (by decide) wd195 rfl dX6_copyFrom_25 ?_
        refine J_iload_n E dX6_copyFrom_28 2 rfl ?_
        refine J_aload_n E dX6_copyFrom_29 1 rfl ?_
        refine J_getR E in_X6 rfl (S_X6.h S_0) 1 (by decide) wd195 rfl dX6_copyFrom_30 ?_
        refine J_iload_n E dX6_copyFrom_33 2 rfl ?_
        refine J_iald1 E (S_X6.f1 S_0) (Bd.in b107 (by decide)) dX6_copyFrom_34 (fun x108 e109 => ?_)
        refine J_iast1 E (S_X6.f1 S0) (Bd.in b107 (by decide)) dX6_copyFrom_35 (fun v110 e111 => ?_)
        have o112 : Ok G v110 w99 := by rw [e111]; exact Ok.sv o100 (S_X6.f1 S0) b107 (Bd.any x108) 0 7 (by decide) (by decide +kernel)
        have k113 : Kp G v v110 := by rw [e111]; exact Kp.sv k101 (S_X6.f1 S0) b107 0 7 I0 I1 (by decide) (by decide +kernel)
        have f114 : Fr G [2, 4, 6, 107, 120, 124] v v110 := Fr.st f102 e111 (S_X6.f1 S0) rfl
        refine J_aload_n E dX6_copyFrom_36 0 rfl ?_
        refine J_getR E in_X6 rfl (S_X6.h S0) 2 (by decide) wd197 rfl dX6_copyFrom_37 ?_
        refine J_iload_n E dX6_copyFrom_40 2 rfl ?_
        refine J_aload_n E dX6_copyFrom_41 1 rfl ?_
        refine J_getR E in_X6 rfl (S_X6.h S_0) 2 (by decide) wd197 rfl dX6_copyFrom_42 ?_
        refine J_iload_n E dX6_copyFrom_45 2 rfl ?_
        refine J_iald1 E (S_X6.f2 S_0) (Bd.in b107 (by decide)) dX6_copyFrom_46 (fun x115 e116 => ?_)
        refine J_iast1 E (S_X6.f2 S0) (Bd.in b107 (by decide)) dX6_copyFrom_47 (fun v117 e118 => ?_)
        have o119 : Ok G v117 w99 := by rw [e118]; exact Ok.sv o112 (S_X6.f2 S0) b107 (Bd.any x115) 0 7 (by decide) (by decide +kernel)
        have k120 : Kp G v v117 := by rw [e118]; exact Kp.sv k113 (S_X6.f2 S0) b107 0 7 I0 I1 (by decide) (by decide +kernel)
        have f121 : Fr G [2, 4, 6, 107, 120, 124] v v117 := Fr.st f114 e118 (S_X6.f2 S0) rfl
        refine J_iinc E 2 1 (fun z => [(2, .int z), (0, .ref h0), (1, .ref h_0)]) dX6_copyFrom_48 rfl (by decide) (by decide) (fun _ => rfl) (fun x122 e123 => ?_)
        have b124 : Bd x122 1 7 := (Bd.add e123 b107 (Bd.lit 1 1 (by decide)) (by decide)).w _ _ (by decide)
        refine J_goto E 18 dX6_copyFrom_51 (by decide) ?_
        exact J.sub [1, 2, 0] rfl (ih18 v117 w99 (o119) (k120) f121 x122 (b124.w 0 7 (by decide)) (Mu.step hmu18 e123 b107 (Bd.lit 1 1 (by decide)) (by decide)))
  refine J_aload_n E dX6_copyFrom_0 0 rfl ?_
  refine J_aload_n E dX6_copyFrom_1 1 rfl ?_
  refine J_getI E in_X6 rfl (S_X6.h S_0) 0 (by decide) wd191 rfl dX6_copyFrom_2 (fun x125 e126 => ?_)
  have b127 : Bd x125 0 7 := Ok.fd hOk e126 (S_X6.h S_0) rfl
  refine J_pI E in_X6 rfl (S_X6.h S0) 0 (by decide) wd191 tyX6 tyX6_ok nmX6 rfl rfl .int (by decide +kernel) rfl rfl dX6_copyFrom_5 (fun v128 e129 => ?_)
  have o130 : Ok G v128 w := Ok.pf hOk e129 (S_X6.h S0) rfl b127
  have k131 : Kp G v v128 := Kp.pf Kp.rf e129 (S_X6.h S0) rfl
  have f132 : Fr G [2, 4, 6, 107, 120, 124] v v128 := Fr.st Fr.rf e129 (S_X6.h S0) rfl
  have e133 : x125 = v128 h0 0 := by rw [e129, stv_s]
  refine J_aload_n E dX6_copyFrom_8 0 rfl ?_
  refine J_aload_n E dX6_copyFrom_9 1 rfl ?_
  refine J_getI E in_X6 rfl (S_X6.h S_0) 3 (by decide) wd201 rfl dX6_copyFrom_10 (fun x134 e135 => ?_)
  have b136 : Bd x134 0 7 := Ok.fd o130 e135 (S_X6.h S_0) rfl
  refine J_pI E in_X6 rfl (S_X6.h S0) 3 (by decide) wd201 tyX6 tyX6_ok nmX6 rfl rfl .int (by decide +kernel) rfl rfl dX6_copyFrom_13 (fun v137 e138 => ?_)
  have o139 : Ok G v137 w := Ok.pf o130 e138 (S_X6.h S0) rfl b136
  have k140 : Kp G v v137 := Kp.pf k131 e138 (S_X6.h S0) rfl
  have e141 : x125 = v137 h0 0 := by rw [e138, stv_k (by decide)]; exact e133
  have f142 : Fr G [2, 4, 6, 107, 120, 124] v v137 := Fr.st f132 e138 (S_X6.h S0) rfl
  have e143 : x134 = v137 h0 3 := by rw [e138, stv_s]
  refine J_iconst E 0 dX6_copyFrom_16 (by decide) ?_
  refine J_istore_n E [(2, .int 0), (0, .ref h0), (1, .ref h_0)] dX6_copyFrom_17 rfl (by decide) rfl ?_
  exact J.sub [1, 2, 0] rfl (J18 8 v137 w (o139) (k140) f142 0 ((Bd.lit 0 0 (by decide)).w 0 7 (by decide)) (Mu.start _ (Bd.lit 0 0 (by decide)) (by decide)))

abbrev rm_X6_hasOne : Room := { frames := 0, cells := 0, slots := 0, locals := 0 }
set_option maxHeartbeats 4000000 in
set_option maxRecDepth 100000 in
theorem ct_X6_hasOne (l : Launch) (D : va_G) (dA : Nat → ClassId) (G : Gm) (v : Mv) (w : Mw) (hOk : Ok G v w) (h0 : Nat) (S0 : S_X6 G h0) (x_0 : Int32) : CtI l yX6_hasOne cX6_hasOne 2 (some .boolean) rm_X6_hasOne D dA G [.ref h0, .int x_0] v w (fun r v1 w1 => v1 = v ∧ w1 = w ∧ Bd r 0 1 ∧ (r = 0 ∨ Bd x_0 0 6)) := by
  refine CtI.of RX6 [(0, .ref h0), (1, .int x_0)] (Nat.le_of_ble_eq_true rfl) rfl (by decide) rfl ?_
  intro p e s m args below meth c E hr
  refine J_iload_n E dX6_hasOne_0 1 rfl ?_
  refine J_if_lt E 16 dX6_hasOne_1 (by decide) (fun c1 => ?_) (fun c1 => ?_)
  · have b2 : Bd x_0 I0 (-1) := Bd.lt_l c1 (Bd.any x_0) (Bd.lit 0 0 (by decide)) (-1) (by decide)
    refine J_iconst E 0 dX6_hasOne_16 (by decide) ?_
    exact J_zret E hr (Bd.z (Bd.lit 0 0 (by decide)) (by decide)) dX6_hasOne_17 ⟨rfl, rfl, ((Bd.lit 0 0 (by decide)).w 0 1 (by decide)), (Or.inl rfl)⟩
  · have b3 : Bd x_0 0 I1 := Bd.le_r (nlt c1) (Bd.lit 0 0 (by decide)) (Bd.any x_0) 0 (by decide)
    refine J_iload_n E dX6_hasOne_4 1 rfl ?_
    refine J_aload_n E dX6_hasOne_5 0 rfl ?_
    refine J_getI E in_X6 rfl (S_X6.h S0) 3 (by decide) wd201 rfl dX6_hasOne_6 (fun x4 e5 => ?_)
    have b6 : Bd x4 0 7 := Ok.fd hOk e5 (S_X6.h S0) rfl
    refine J_icmp_ge E 16 dX6_hasOne_9 (by decide) (fun c7 => ?_) (fun c7 => ?_)
    · refine J_iconst E 0 dX6_hasOne_16 (by decide) ?_
      exact J_zret E hr (Bd.z (Bd.lit 0 0 (by decide)) (by decide)) dX6_hasOne_17 ⟨rfl, rfl, ((Bd.lit 0 0 (by decide)).w 0 1 (by decide)), (Or.inl rfl)⟩
    · have b8 : Bd x_0 0 6 := Bd.lt_l (nle c7) b3 b6 6 (by decide)
      have b9 : Bd x4 1 7 := Bd.lt_r (nle c7) b3 b6 1 (by decide)
      refine J_iconst E 1 dX6_hasOne_12 (by decide) ?_
      refine J_goto E 17 dX6_hasOne_13 (by decide) ?_
      exact J_zret E hr (Bd.z (Bd.lit 1 1 (by decide)) (by decide)) dX6_hasOne_17 ⟨rfl, rfl, ((Bd.lit 1 1 (by decide)).w 0 1 (by decide)), (Or.inr b8)⟩

abbrev rm_X6_remember : Room := { frames := 1, cells := 0, slots := 0, locals := 22 }
set_option maxHeartbeats 4000000 in
set_option maxRecDepth 100000 in
theorem ct_X6_remember (l : Launch) (D : va_G) (dA : Nat → ClassId) (G : Gm) (v : Mv) (w : Mw) (hOk : Ok G v w) (h0 : Nat) (S0 : S_X6 G h0) : CtV l yX6_remember cX6_remember 3 none rm_X6_remember D dA G [.ref h0] v w (fun v1 w1 => Ok G v1 w1 ∧ Kp G v v1 ∧ Fr G [2, 6, 107, 40108] v v1) := by
  refine CtV.of RX6 [(0, .ref h0)] (Nat.le_of_ble_eq_true rfl) rfl (by decide) rfl ?_
  intro p e s m args below meth c E hr
  have J58 : ∀ (v1 : Mv) (w2 : Mw), Ok G v1 w2 → Kp G v v1 → Fr G [2, 6, 107, 40108] v v1 → ∀ x7 : Int32, x7 = v1 h0 8 → Bd x7 0 7 → J p l e rm_X6_remember s m args below meth c 0 0 (MQ below (QcV D dA G (fun v1 w1 => Ok G v1 w1 ∧ Kp G v v1 ∧ Fr G [2, 6, 107, 40108] v v1)) args s 0 0 (dm G)) D dA G (dm G) s.heap 3 v1 w2 [(0, .ref h0)] 58 [] := by
    intro v1 w2 o3 k4 f5 x7 e8 b6
    refine J_aload_n E dX6_remember_58 0 rfl ?_
    refine J_getR E in_X6 rfl (S_X6.h S0) 7 (by decide) wd210 rfl dX6_remember_59 ?_
    refine J_aload_n E dX6_remember_62 0 rfl ?_
    refine J_getI E in_X6 rfl (S_X6.h S0) 8 (by decide) wd211 rfl dX6_remember_63 (fun x9 e10 => ?_)
    rw [show x9 = x7 from e10.trans (e8).symm]
    have hi14 := Bd.in (n := 8) b6 (by decide)
    obtain ⟨q11, hq12, hw13⟩ := Ok.el o3 (S_X6.f7 S0).1 hi14
    refine J_aald4 E (S_X6.f7 S0).1 hi14 hw13 dX6_remember_66 ?_
    have S15 := (S_X6.f7 S0).2 q11 hq12
    refine J_aload_n E dX6_remember_67 0 rfl ?_
    refine J_getR E in_X6 rfl (S_X6.h S0) 6 (by decide) wd207 rfl dX6_remember_68 ?_
    refine J_callVNV E cal_X2_copyFrom wd571 rfl (S_X2.h S15) [.ref (rf G h0 6)] [] (ct_X2_copyFrom l D dA G v1 w2 (o3) q11 S15 (rf G h0 6) (S_X6.f6 S0)) rfl rfl (Nat.le_of_ble_eq_true rfl) ⟨rfl, rfl⟩ ⟨Nat.le_of_ble_eq_true rfl, Nat.le_of_ble_eq_true rfl⟩ dX6_remember_71 (fun v16 w17 p18 => ?_)
    have o20 := p18.1
    have k21 : Kp G v v16 := (k4).tr p18.2.1
    have f22 : Fr G [2, 6, 107, 40108] v v16 := Fr.tr f5 (p18.2.2) (by decide)
    refine J_aload_n E dX6_remember_74 0 rfl ?_
    refine J_dup E dX6_remember_75 rfl ?_
    refine J_getI E in_X6 rfl (S_X6.h S0) 8 (by decide) wd211 rfl dX6_remember_76 (fun x23 e24 => ?_)
    rw [show x23 = x7 from e24.trans (((e8).trans (Fr.at (p18.2.2) (S_X6.h S0) rfl 8).symm)).symm]
    refine J_iconst E 1 dX6_remember_79 (by decide) ?_
    refine J_iadd E dX6_remember_80 (fun x25 e26 => ?_)
    have b27 : Bd x25 1 8 := (Bd.add e26 b6 (Bd.lit 1 1 (by decide)) (by decide)).w _ _ (by decide)
    refine J_pI E in_X6 rfl (S_X6.h S0) 8 (by decide) wd211 tyX6 tyX6_ok nmX6 rfl rfl .int (by decide +kernel) rfl rfl dX6_remember_81 (fun v28 e29 => ?_)
    have o30 : Ok G v28 w17 := Ok.pf o20 e29 (S_X6.h S0) rfl (b27.w 0 8 (by decide))
    have k31 : Kp G v v28 := Kp.pf k21 e29 (S_X6.h S0) rfl
    have f32 : Fr G [2, 6, 107, 40108] v v28 := Fr.st f22 e29 (S_X6.h S0) rfl
    have e33 : x25 = v28 h0 8 := by rw [e29, stv_s]
    exact J_vret E hr dX6_remember_84 ⟨o30, k31, f32⟩
  have J18 : ∀ n : Nat, ∀ (v34 : Mv) (w35 : Mw), Ok G v34 w35 → Kp G v v34 → Fr G [2, 6, 107, 40108] v v34 → ∀ q39 : Nat, q39 ∈ rl G (rf G h0 7) → ∀ x41 : Int32, Bd x41 1 8 → Mu x41 8 n → J p l e rm_X6_remember s m args below meth c 0 0 (MQ below (QcV D dA G (fun v1 w1 => Ok G v1 w1 ∧ Kp G v v1 ∧ Fr G [2, 6, 107, 40108] v v1)) args s 0 0 (dm G)) D dA G (dm G) s.heap 3 v34 w35 [(0, .ref h0), (1, .ref q39), (2, .int x41)] 18 [] := by
    intro n
    induction n with
    | zero => intro v34 w35 o36 k37 f38 q39 hq40 x41 b42 hm; exact hm.zero b42 (by decide)
    | succ n ih18 =>
      intro v34 w35 o36 k37 f38 q39 hq40 x41 b42 hmu18
      refine J_iload_n E dX6_remember_18 2 rfl ?_
      refine J_bipush E 8 dX6_remember_19 (by decide) ?_
      refine J_icmp_ge E 44 dX6_remember_21 (by decide) (fun c43 => ?_) (fun c43 => ?_)
      · have b44 : Bd x41 8 8 := Bd.le_r c43 (Bd.lit 8 8 (by decide)) b42 8 (by decide)
        refine J_aload_n E dX6_remember_44 0 rfl ?_
        refine J_getR E in_X6 rfl (S_X6.h S0) 7 (by decide) wd210 rfl dX6_remember_45 ?_
        refine J_bipush E 7 dX6_remember_48 (by decide) ?_
        refine J_aload_n E dX6_remember_50 1 rfl ?_
        refine J_aast41 E (S_X6.f7 S0).1 (S_X2.h ((S_X6.f7 S0).2 q39 hq40)) (Bd.in (Bd.lit 7 7 (by decide)) (by decide)) dX6_remember_51 (fun w45 e46 => ?_)
        have o47 : Ok G v34 w45 := by rw [e46]; exact Ok.stu o36 (S_X6.f7 S0).1 hq40
        refine J_aload_n E dX6_remember_52 0 rfl ?_
        refine J_bipush E 7 dX6_remember_53 (by decide) ?_
        refine J_pI E in_X6 rfl (S_X6.h S0) 8 (by decide) wd211 tyX6 tyX6_ok nmX6 rfl rfl .int (by decide +kernel) rfl rfl dX6_remember_55 (fun v48 e49 => ?_)
        have o50 : Ok G v48 w45 := Ok.pf o47 e49 (S_X6.h S0) rfl ((Bd.lit 7 7 (by decide)).w 0 8 (by decide))
        have k51 : Kp G v v48 := Kp.pf k37 e49 (S_X6.h S0) rfl
        have f52 : Fr G [2, 6, 107, 40108] v v48 := Fr.st f38 e49 (S_X6.h S0) rfl
        have e53 : (7 : Int32) = v48 h0 8 := by rw [e49, stv_s]
        exact J.sub [0] rfl (J58 v48 w45 (o50) (k51) f52 7 (e53) ((Bd.lit 7 7 (by decide)).w 0 7 (by decide)))
      · have b54 : Bd x41 1 7 := Bd.lt_l (nle c43) b42 (Bd.lit 8 8 (by decide)) 7 (by decide)
        refine J_aload_n E dX6_remember_24 0 rfl ?_
        refine J_getR E in_X6 rfl (S_X6.h S0) 7 (by decide) wd210 rfl dX6_remember_25 ?_
        refine J_iload_n E dX6_remember_28 2 rfl ?_
        refine J_iconst E 1 dX6_remember_29 (by decide) ?_
        refine J_isub E dX6_remember_30 (fun x55 e56 => ?_)
        have b57 : Bd x55 0 6 := (Bd.sub e56 b54 (Bd.lit 1 1 (by decide)) (by decide)).w _ _ (by decide)
        refine J_aload_n E dX6_remember_31 0 rfl ?_
        refine J_getR E in_X6 rfl (S_X6.h S0) 7 (by decide) wd210 rfl dX6_remember_32 ?_
        refine J_iload_n E dX6_remember_35 2 rfl ?_
        have hi61 := Bd.in (n := 8) b54 (by decide)
        obtain ⟨q58, hq59, hw60⟩ := Ok.el o36 (S_X6.f7 S0).1 hi61
        refine J_aald4 E (S_X6.f7 S0).1 hi61 hw60 dX6_remember_36 ?_
        have S62 := (S_X6.f7 S0).2 q58 hq59
        refine J_aast41 E (S_X6.f7 S0).1 (S_X2.h S62) (Bd.in b57 (by decide)) dX6_remember_37 (fun w63 e64 => ?_)
        have o65 : Ok G v34 w63 := by rw [e64]; exact Ok.stu o36 (S_X6.f7 S0).1 hq59
        refine J_iinc E 2 1 (fun z => [(2, .int z), (0, .ref h0), (1, .ref q39)]) dX6_remember_38 rfl (by decide) (by decide) (fun _ => rfl) (fun x66 e67 => ?_)
        have b68 : Bd x66 2 8 := (Bd.add e67 b54 (Bd.lit 1 1 (by decide)) (by decide)).w _ _ (by decide)
        refine J_goto E 18 dX6_remember_41 (by decide) ?_
        exact J.sub [1, 2, 0] rfl (ih18 v34 w63 (o65) (k37) f38 q39 hq40 x66 (b68.w 1 8 (by decide)) (Mu.step hmu18 e67 b54 (Bd.lit 1 1 (by decide)) (by decide)))
  refine J_aload_n E dX6_remember_0 0 rfl ?_
  refine J_getI E in_X6 rfl (S_X6.h S0) 8 (by decide) wd211 rfl dX6_remember_1 (fun x69 e70 => ?_)
  have b71 : Bd x69 0 8 := Ok.fd hOk e70 (S_X6.h S0) rfl
  refine J_bipush E 8 dX6_remember_4 (by decide) ?_
  refine J_icmp_lt E 58 dX6_remember_6 (by decide) (fun c72 => ?_) (fun c72 => ?_)
  · have b73 : Bd x69 0 7 := Bd.lt_l c72 b71 (Bd.lit 8 8 (by decide)) 7 (by decide)
    exact J.sub [0] rfl (J58 v w (hOk) (Kp.rf) Fr.rf x69 (e70) b73)
  · have b74 : Bd x69 8 8 := Bd.le_r (nlt c72) (Bd.lit 8 8 (by decide)) b71 8 (by decide)
    refine J_aload_n E dX6_remember_9 0 rfl ?_
    refine J_getR E in_X6 rfl (S_X6.h S0) 7 (by decide) wd210 rfl dX6_remember_10 ?_
    refine J_iconst E 0 dX6_remember_13 (by decide) ?_
    have hi78 := Bd.in (n := 8) (Bd.lit 0 0 (by decide)) (by decide)
    obtain ⟨q75, hq76, hw77⟩ := Ok.el hOk (S_X6.f7 S0).1 hi78
    refine J_aald4 E (S_X6.f7 S0).1 hi78 hw77 dX6_remember_14 ?_
    have S79 := (S_X6.f7 S0).2 q75 hq76
    refine J_astore_n E [(1, .ref q75), (0, .ref h0)] dX6_remember_15 rfl (by decide) rfl ?_
    refine J_iconst E 1 dX6_remember_16 (by decide) ?_
    refine J_istore_n E [(2, .int 1), (1, .ref q75), (0, .ref h0)] dX6_remember_17 rfl (by decide) rfl ?_
    exact J.sub [2, 1, 0] rfl (J18 8 v w (hOk) (Kp.rf) Fr.rf q75 hq76 1 ((Bd.lit 1 1 (by decide)).w 1 8 (by decide)) (Mu.start _ (Bd.lit 1 1 (by decide)) (by decide)))

abbrev rm_X6_bringBack : Room := { frames := 1, cells := 0, slots := 0, locals := 22 }
set_option maxHeartbeats 4000000 in
set_option maxRecDepth 100000 in
theorem ct_X6_bringBack (l : Launch) (D : va_G) (dA : Nat → ClassId) (G : Gm) (v : Mv) (w : Mw) (hOk : Ok G v w) (h0 : Nat) (S0 : S_X6 G h0) (z_0 : Int32) (ez_0 : z_0 = v h0 8) (pre0 : Bd z_0 1 8) : CtV l yX6_bringBack cX6_bringBack 1 none rm_X6_bringBack D dA G [.ref h0] v w (fun v1 w1 => Ok G v1 w1 ∧ Kp G v v1 ∧ Fr G [2, 6, 107] v v1) := by
  refine CtV.of RX6 [(0, .ref h0)] (Nat.le_of_ble_eq_true rfl) rfl (by decide) rfl ?_
  intro p e s m args below meth c E hr
  refine J_aload_n E dX6_bringBack_0 0 rfl ?_
  refine J_dup E dX6_bringBack_1 rfl ?_
  refine J_getI E in_X6 rfl (S_X6.h S0) 8 (by decide) wd211 rfl dX6_bringBack_2 (fun x1 e2 => ?_)
  rw [show x1 = z_0 from e2.trans (ez_0).symm]
  refine J_iconst E 1 dX6_bringBack_5 (by decide) ?_
  refine J_isub E dX6_bringBack_6 (fun x3 e4 => ?_)
  have b5 : Bd x3 0 7 := (Bd.sub e4 pre0 (Bd.lit 1 1 (by decide)) (by decide)).w _ _ (by decide)
  refine J_pI E in_X6 rfl (S_X6.h S0) 8 (by decide) wd211 tyX6 tyX6_ok nmX6 rfl rfl .int (by decide +kernel) rfl rfl dX6_bringBack_7 (fun v6 e7 => ?_)
  have o8 : Ok G v6 w := Ok.pf hOk e7 (S_X6.h S0) rfl (b5.w 0 8 (by decide))
  have k9 : Kp G v v6 := Kp.pf Kp.rf e7 (S_X6.h S0) rfl
  have f10 : Fr G [2, 6, 107] v v6 := Fr.st Fr.rf e7 (S_X6.h S0) rfl
  have e11 : x3 = v6 h0 8 := by rw [e7, stv_s]
  refine J_aload_n E dX6_bringBack_10 0 rfl ?_
  refine J_getR E in_X6 rfl (S_X6.h S0) 6 (by decide) wd207 rfl dX6_bringBack_11 ?_
  refine J_aload_n E dX6_bringBack_14 0 rfl ?_
  refine J_getR E in_X6 rfl (S_X6.h S0) 7 (by decide) wd210 rfl dX6_bringBack_15 ?_
  refine J_aload_n E dX6_bringBack_18 0 rfl ?_
  refine J_getI E in_X6 rfl (S_X6.h S0) 8 (by decide) wd211 rfl dX6_bringBack_19 (fun x12 e13 => ?_)
  rw [show x12 = x3 from e13.trans (e11).symm]
  have hi17 := Bd.in (n := 8) b5 (by decide)
  obtain ⟨q14, hq15, hw16⟩ := Ok.el o8 (S_X6.f7 S0).1 hi17
  refine J_aald4 E (S_X6.f7 S0).1 hi17 hw16 dX6_bringBack_22 ?_
  have S18 := (S_X6.f7 S0).2 q14 hq15
  refine J_callVNV E cal_X2_copyFrom wd571 rfl (S_X2.h (S_X6.f6 S0)) [.ref q14] [] (ct_X2_copyFrom l D dA G v6 w (o8) (rf G h0 6) (S_X6.f6 S0) q14 S18) rfl rfl (Nat.le_of_ble_eq_true rfl) ⟨rfl, rfl⟩ ⟨Nat.le_of_ble_eq_true rfl, Nat.le_of_ble_eq_true rfl⟩ dX6_bringBack_23 (fun v19 w20 p21 => ?_)
  have o23 := p21.1
  have k24 : Kp G v v19 := (k9).tr p21.2.1
  have f25 : Fr G [2, 6, 107] v v19 := Fr.tr f10 (p21.2.2) (by decide)
  exact J_vret E hr dX6_bringBack_26 ⟨o23, k24, f25⟩

abbrev rm_X6_countOwned : Room := { frames := 0, cells := 0, slots := 0, locals := 0 }
set_option maxHeartbeats 4000000 in
set_option maxRecDepth 100000 in
theorem ct_X6_countOwned (l : Launch) (D : va_G) (dA : Nat → ClassId) (G : Gm) (v : Mv) (w : Mw) (hOk : Ok G v w) (h0 : Nat) (S0 : S_X6 G h0) : CtI l yX6_countOwned cX6_countOwned 3 (some .int) rm_X6_countOwned D dA G [.ref h0] v w (fun r v1 w1 => v1 = v ∧ w1 = w ∧ True ∧ True) := by
  refine CtI.of RX6 [(0, .ref h0)] (Nat.le_of_ble_eq_true rfl) rfl (by decide) rfl ?_
  intro p e s m args below meth c E hr
  have J4 : ∀ n : Nat, ∀ x1 : Int32, ∀ x2 : Int32, Bd x2 0 7 → Mu x2 7 n → J p l e rm_X6_countOwned s m args below meth c 0 0 (MQ below (QcI D dA G (fun r v1 w1 => v1 = v ∧ w1 = w ∧ True ∧ True)) args s 0 0 (dm G)) D dA G (dm G) s.heap 3 v w [(0, .ref h0), (1, .int x1), (2, .int x2)] 4 [] := by
    intro n
    induction n with
    | zero => intro x1 x2 b3 hm; exact hm.zero b3 (by decide)
    | succ n ih4 =>
      intro x1 x2 b3 hmu4
      have J28 : ∀ x4 : Int32, Bd x2 0 6 → J p l e rm_X6_countOwned s m args below meth c 0 0 (MQ below (QcI D dA G (fun r v1 w1 => v1 = v ∧ w1 = w ∧ True ∧ True)) args s 0 0 (dm G)) D dA G (dm G) s.heap 3 v w [(0, .ref h0), (1, .int x4), (2, .int x2)] 28 [] := by
        intro x4 b5
        refine J_iinc E 2 1 (fun z => [(2, .int z), (0, .ref h0), (1, .int x4)]) dX6_countOwned_28 rfl (by decide) (by decide) (fun _ => rfl) (fun x6 e7 => ?_)
        have b8 : Bd x6 1 7 := (Bd.add e7 b5 (Bd.lit 1 1 (by decide)) (by decide)).w _ _ (by decide)
        refine J_goto E 4 dX6_countOwned_31 (by decide) ?_
        exact J.sub [1, 2, 0] rfl (ih4 x4 x6 (b8.w 0 7 (by decide)) (Mu.step hmu4 e7 b5 (Bd.lit 1 1 (by decide)) (by decide)))
      refine J_iload_n E dX6_countOwned_4 2 rfl ?_
      refine J_aload_n E dX6_countOwned_5 0 rfl ?_
      refine J_getI E in_X6 rfl (S_X6.h S0) 3 (by decide) wd201 rfl dX6_countOwned_6 (fun x9 e10 => ?_)
      have b11 : Bd x9 0 7 := Ok.fd hOk e10 (S_X6.h S0) rfl
      refine J_icmp_ge E 34 dX6_countOwned_9 (by decide) (fun c12 => ?_) (fun c12 => ?_)
      · refine J_iload_n E dX6_countOwned_34 1 rfl ?_
        exact J_iret E hr dX6_countOwned_35 ⟨rfl, rfl, trivial, trivial⟩
      · have b13 : Bd x2 0 6 := Bd.lt_l (nle c12) b3 b11 6 (by decide)
        have b14 : Bd x9 1 7 := Bd.lt_r (nle c12) b3 b11 1 (by decide)
        refine J_aload_n E dX6_countOwned_12 0 rfl ?_
        refine J_getR E in_X6 rfl (S_X6.h S0) 6 (by decide) wd207 rfl dX6_countOwned_13 ?_
        refine J_getRN E in_X2 rfl (S_X2.h (S_X6.f6 S0)) 1 (by decide) wd153 rfl dX6_countOwned_16 ?_
        refine J_iload_n E dX6_countOwned_19 2 rfl ?_
        refine J_iald1 E (S_X2.f1 (S_X6.f6 S0)) (Bd.in b13 (by decide)) dX6_countOwned_20 (fun x15 e16 => ?_)
        refine J_iconst E (-1) dX6_countOwned_21 (by decide) ?_
        refine J_icmp_eq E 28 dX6_countOwned_22 (by decide) (fun c17 => ?_) (fun c17 => ?_)
        · have b18 : Bd x15 (-1) (-1) := Bd.eq_l c17 (Bd.any x15) (Bd.lit (-1) (-1) (by decide)) (-1) (-1) (by decide)
          exact J.sub [0, 1, 2] rfl (J28 x1 b13)
        · refine J_iinc E 1 1 (fun z => [(1, .int z), (0, .ref h0), (2, .int x2)]) dX6_countOwned_25 rfl (by decide) (by decide) (fun _ => rfl) (fun x19 e20 => ?_)
          exact J.sub [1, 0, 2] rfl (J28 x19 b13)
  refine J_iconst E 0 dX6_countOwned_0 (by decide) ?_
  refine J_istore_n E [(1, .int 0), (0, .ref h0)] dX6_countOwned_1 rfl (by decide) rfl ?_
  refine J_iconst E 0 dX6_countOwned_2 (by decide) ?_
  refine J_istore_n E [(2, .int 0), (1, .int 0), (0, .ref h0)] dX6_countOwned_3 rfl (by decide) rfl ?_
  exact J.sub [2, 1, 0] rfl (J4 8 0 0 ((Bd.lit 0 0 (by decide)).w 0 7 (by decide)) (Mu.start _ (Bd.lit 0 0 (by decide)) (by decide)))
