abbrev rm_X4_drop_6 : Room := { frames := 0, cells := 0, slots := 0, locals := 0 }
set_option maxHeartbeats 4000000 in
set_option maxRecDepth 100000 in
theorem ct_X4_drop_6 (l : Launch) (D : va_G) (dA : Nat → ClassId) (G : Gm) (v : Mv) (w : Mw) (hOk : Ok G v w) (h0 : Nat) (S0 : S_X4 G h0 6) : CtI l yX4_drop cX4_drop 2 (some .int) rm_X4_drop_6 D dA G [.ref h0] v w (fun r v1 w1 => Ok G v1 w1 ∧ Kp G v v1 ∧ Bd r 0 6 ∧ True) := by
  refine CtI.of RX4 [(0, .ref h0)] (Nat.le_of_ble_eq_true rfl) rfl (by decide) rfl ?_
  intro p e s m args below meth c E hr
  refine J_aload_n E dX4_drop_0 0 rfl ?_
  refine J_getI E in_X4 rfl (S_X4.h S0) 2 (by decide) wd181 rfl dX4_drop_1 (fun x1 e2 => ?_)
  have b3 : Bd x1 0 6 := Ok.fd hOk e2 (S_X4.h S0) rfl
  refine J_istore_n E [(1, .int x1), (0, .ref h0)] dX4_drop_4 rfl (by decide) rfl ?_
  refine J_aload_n E dX4_drop_5 1 rfl ?_
  refine J_iconst E 0 dX4_drop_6 (by decide) ?_
  refine J_pI E in_X4 rfl (S_X4.h S0) 2 (by decide) wd181 tyX4 tyX4_ok nmX4 rfl rfl .int (by decide +kernel) rfl rfl dX4_drop_7 (fun v4 e5 => ?_)
  have o6 : Ok G v4 w := Ok.pf hOk e5 (S_X4.h S0) rfl ((Bd.lit 0 0 (by decide)).w 0 6 (by decide))
  have k7 : Kp G v v4 := Kp.pf Kp.rf e5 (S_X4.h S0) rfl
  have e8 : (0 : Int32) = v4 h0 2 := by rw [e5, stv_s]
  refine J_iload_n E dX4_drop_10 0 rfl ?_
  exact J_iret E hr dX4_drop_11 ⟨o6, k7, b3, trivial⟩

abbrev rm_X6_startAnew : Room := { frames := 1, cells := 0, slots := 0, locals := 21 }
set_option maxHeartbeats 4000000 in
set_option maxRecDepth 100000 in
theorem ct_X6_startAnew (l : Launch) (D : va_G) (dA : Nat → ClassId) (G : Gm) (v : Mv) (w : Mw) (hOk : Ok G v w) (h0 : Nat) (S0 : S_X6 G h0) : CtV l yX6_startAnew cX6_startAnew 1 none rm_X6_startAnew D dA G [.ref h0] v w (fun v1 w1 => Ok G v1 w1 ∧ Kp G v v1 ∧ True) := by
  refine CtV.of RX6 [(0, .ref h0)] (Nat.le_of_ble_eq_true rfl) rfl (by decide) rfl ?_
  intro p e s m args below meth c E hr
  refine J_aload_n E dX6_startAnew_0 0 rfl ?_
  refine J_iconst E 0 dX6_startAnew_1 (by decide) ?_
  refine J_pI E in_X6 rfl (S_X6.h S0) 0 (by decide) wd191 tyX6 tyX6_ok nmX6 rfl rfl .int (by decide +kernel) rfl rfl dX6_startAnew_2 (fun v1 e2 => ?_)
  have o3 : Ok G v1 w := Ok.pf hOk e2 (S_X6.h S0) rfl ((Bd.lit 0 0 (by decide)).w 0 7 (by decide))
  have k4 : Kp G v v1 := Kp.pf Kp.rf e2 (S_X6.h S0) rfl
  have e5 : (0 : Int32) = v1 h0 0 := by rw [e2, stv_s]
  refine J_aload_n E dX6_startAnew_5 0 rfl ?_
  refine J_iconst E 0 dX6_startAnew_6 (by decide) ?_
  refine J_pI E in_X6 rfl (S_X6.h S0) 3 (by decide) wd201 tyX6 tyX6_ok nmX6 rfl rfl .int (by decide +kernel) rfl rfl dX6_startAnew_7 (fun v6 e7 => ?_)
  have o8 : Ok G v6 w := Ok.pf o3 e7 (S_X6.h S0) rfl ((Bd.lit 0 0 (by decide)).w 0 7 (by decide))
  have k9 : Kp G v v6 := Kp.pf k4 e7 (S_X6.h S0) rfl
  have e10 : 0 = v6 h0 0 := by rw [e7, stv_k (by decide)]; exact e5
  have e11 : (0 : Int32) = v6 h0 3 := by rw [e7, stv_s]
  refine J_aload_n E dX6_startAnew_10 0 rfl ?_
  refine J_getR E in_X6 rfl (S_X6.h S0) 6 (by decide) wd207 rfl dX6_startAnew_11 ?_
  refine J_iconst E 0 dX6_startAnew_14 (by decide) ?_
  refine J_pIN E in_X2 rfl (S_X2.h (S_X6.f6 S0)) 2 (by decide) wd156 tyX2 tyX2_ok nmX2 rfl rfl .int (by decide +kernel) rfl rfl dX6_startAnew_15 (fun v12 e13 => ?_)
  have o14 : Ok G v12 w := Ok.pf o8 e13 (S_X2.h (S_X6.f6 S0)) rfl ((Bd.lit 0 0 (by decide)).w I0 I1 (by decide))
  have k15 : Kp G v v12 := Kp.pf k9 e13 (S_X2.h (S_X6.f6 S0)) rfl
  have e16 : 0 = v12 h0 0 := by rw [e13, stv_k (by decide)]; exact e10
  have e17 : 0 = v12 h0 3 := by rw [e13, stv_k (by decide)]; exact e11
  have e18 : (0 : Int32) = v12 (rf G h0 6) 2 := by rw [e13, stv_s]
  refine J_aload_n E dX6_startAnew_18 0 rfl ?_
  refine J_getR E in_X6 rfl (S_X6.h S0) 6 (by decide) wd207 rfl dX6_startAnew_19 ?_
  refine J_iconst E 0 dX6_startAnew_22 (by decide) ?_
  refine J_pIN E in_X2 rfl (S_X2.h (S_X6.f6 S0)) 3 (by decide) wd159 tyX2 tyX2_ok nmX2 rfl rfl .int (by decide +kernel) rfl rfl dX6_startAnew_23 (fun v19 e20 => ?_)
  have o21 : Ok G v19 w := Ok.pf o14 e20 (S_X2.h (S_X6.f6 S0)) rfl ((Bd.lit 0 0 (by decide)).w I0 I1 (by decide))
  have k22 : Kp G v v19 := Kp.pf k15 e20 (S_X2.h (S_X6.f6 S0)) rfl
  have e23 : 0 = v19 h0 0 := by rw [e20, stv_k (by decide)]; exact e16
  have e24 : 0 = v19 h0 3 := by rw [e20, stv_a (tg_ne (S_X6.h S0) (S_X2.h (S_X6.f6 S0)) rfl)]; exact e17
  have e25 : 0 = v19 (rf G h0 6) 2 := by rw [e20, stv_k (by decide)]; exact e18
  have e26 : (0 : Int32) = v19 (rf G h0 6) 3 := by rw [e20, stv_s]
  refine J_aload_n E dX6_startAnew_26 0 rfl ?_
  refine J_iconst E 0 dX6_startAnew_27 (by decide) ?_
  refine J_pI E in_X6 rfl (S_X6.h S0) 8 (by decide) wd211 tyX6 tyX6_ok nmX6 rfl rfl .int (by decide +kernel) rfl rfl dX6_startAnew_28 (fun v27 e28 => ?_)
  have o29 : Ok G v27 w := Ok.pf o21 e28 (S_X6.h S0) rfl ((Bd.lit 0 0 (by decide)).w 0 8 (by decide))
  have k30 : Kp G v v27 := Kp.pf k22 e28 (S_X6.h S0) rfl
  have e31 : 0 = v27 h0 0 := by rw [e28, stv_k (by decide)]; exact e23
  have e32 : 0 = v27 h0 3 := by rw [e28, stv_k (by decide)]; exact e24
  have e33 : 0 = v27 (rf G h0 6) 2 := by rw [e28, stv_k (by decide)]; exact e25
  have e34 : 0 = v27 (rf G h0 6) 3 := by rw [e28, stv_k (by decide)]; exact e26
  have e35 : (0 : Int32) = v27 h0 8 := by rw [e28, stv_s]
  refine J_aload_n E dX6_startAnew_31 0 rfl ?_
  refine J_getR E in_X6 rfl (S_X6.h S0) 9 (by decide) wd213 rfl dX6_startAnew_32 ?_
  refine J_callVNI E cal_X4_drop wd353 rfl (S_X4.h (S_X6.f9 S0)) [] [] (ct_X4_drop_5 l D dA G v27 w (o29) (rf G h0 9) (S_X6.f9 S0)) rfl rfl (Nat.le_of_ble_eq_true rfl) ⟨rfl, rfl⟩ ⟨Nat.le_of_ble_eq_true rfl, Nat.le_of_ble_eq_true rfl⟩ dX6_startAnew_35 (fun x39 v36 w37 p38 => ?_)
  have o40 := p38.1
  have k41 : Kp G v v36 := (k30).tr p38.2.1
  have b42 : Bd x39 0 5 := p38.2.2.1
  refine J_pop E dX6_startAnew_38 rfl ?_
  refine J_aload_n E dX6_startAnew_39 0 rfl ?_
  refine J_getR E in_X6 rfl (S_X6.h S0) 10 (by decide) wd215 rfl dX6_startAnew_40 ?_
  refine J_callVNI E cal_X4_drop wd353 rfl (S_X4.h (S_X6.f10 S0)) [] [] (ct_X4_drop_6 l D dA G v36 w37 (o40) (rf G h0 10) (S_X6.f10 S0)) rfl rfl (Nat.le_of_ble_eq_true rfl) ⟨rfl, rfl⟩ ⟨Nat.le_of_ble_eq_true rfl, Nat.le_of_ble_eq_true rfl⟩ dX6_startAnew_43 (fun x46 v43 w44 p45 => ?_)
  have o47 := p45.1
  have k48 : Kp G v v43 := (k41).tr p45.2.1
  have b49 : Bd x46 0 6 := p45.2.2.1
  refine J_pop E dX6_startAnew_46 rfl ?_
  refine J_aload_n E dX6_startAnew_47 0 rfl ?_
  refine J_getR E in_X6 rfl (S_X6.h S0) 11 (by decide) wd217 rfl dX6_startAnew_48 ?_
  refine J_callVNI E cal_X4_drop wd353 rfl (S_X4.h (S_X6.f11 S0)) [] [] (ct_X4_drop_6 l D dA G v43 w44 (o47) (rf G h0 11) (S_X6.f11 S0)) rfl rfl (Nat.le_of_ble_eq_true rfl) ⟨rfl, rfl⟩ ⟨Nat.le_of_ble_eq_true rfl, Nat.le_of_ble_eq_true rfl⟩ dX6_startAnew_51 (fun x53 v50 w51 p52 => ?_)
  have o54 := p52.1
  have k55 : Kp G v v50 := (k48).tr p52.2.1
  have b56 : Bd x53 0 6 := p52.2.2.1
  refine J_pop E dX6_startAnew_54 rfl ?_
  exact J_vret E hr dX6_startAnew_55 ⟨o54, k55, trivial⟩

abbrev rm_X7_isWithin : Room := { frames := 0, cells := 0, slots := 0, locals := 0 }
set_option maxHeartbeats 4000000 in
set_option maxRecDepth 100000 in
theorem ct_X7_isWithin (l : Launch) (D : va_G) (dA : Nat → ClassId) (G : Gm) (v : Mv) (w : Mw) (hOk : Ok G v w) (x_0 : Int32) (x_1 : Int32) (x_2 : Int32) : CtI l yX7_isWithin cX7_isWithin 3 (some .boolean) rm_X7_isWithin D dA G [.int x_0, .int x_1, .int x_2] v w (fun r v1 w1 => v1 = v ∧ w1 = w ∧ Bd r 0 1 ∧ (r = 0 ∨ (x_1 ≤ x_0 ∧ x_0 ≤ x_2))) := by
  refine CtI.of RX7 [(0, .int x_0), (1, .int x_1), (2, .int x_2)] (Nat.le_of_ble_eq_true rfl) rfl (by decide) rfl ?_
  intro p e s m args below meth c E hr
  refine J_iload_n E dX7_isWithin_0 0 rfl ?_
  refine J_iload_n E dX7_isWithin_1 1 rfl ?_
  refine J_icmp_lt E 14 dX7_isWithin_2 (by decide) (fun c1 => ?_) (fun c1 => ?_)
  · refine J_iconst E 0 dX7_isWithin_14 (by decide) ?_
    exact J_zret E hr (Bd.z (Bd.lit 0 0 (by decide)) (by decide)) dX7_isWithin_15 ⟨rfl, rfl, ((Bd.lit 0 0 (by decide)).w 0 1 (by decide)), (Or.inl rfl)⟩
  · refine J_iload_n E dX7_isWithin_5 0 rfl ?_
    refine J_iload_n E dX7_isWithin_6 2 rfl ?_
    refine J_icmp_gt E 14 dX7_isWithin_7 (by decide) (fun c2 => ?_) (fun c2 => ?_)
    · refine J_iconst E 0 dX7_isWithin_14 (by decide) ?_
      exact J_zret E hr (Bd.z (Bd.lit 0 0 (by decide)) (by decide)) dX7_isWithin_15 ⟨rfl, rfl, ((Bd.lit 0 0 (by decide)).w 0 1 (by decide)), (Or.inl rfl)⟩
    · refine J_iconst E 1 dX7_isWithin_10 (by decide) ?_
      refine J_goto E 15 dX7_isWithin_11 (by decide) ?_
      exact J_zret E hr (Bd.z (Bd.lit 1 1 (by decide)) (by decide)) dX7_isWithin_15 ⟨rfl, rfl, ((Bd.lit 1 1 (by decide)).w 0 1 (by decide)), (Or.inr ⟨(nlt c1), (nlt c2)⟩)⟩

abbrev rm_X6_addThing : Room := { frames := 0, cells := 0, slots := 0, locals := 0 }
set_option maxHeartbeats 4000000 in
set_option maxRecDepth 100000 in
theorem ct_X6_addThing (l : Launch) (D : va_G) (dA : Nat → ClassId) (G : Gm) (v : Mv) (w : Mw) (hOk : Ok G v w) (h0 : Nat) (S0 : S_X6 G h0) (x_0 : Int32) (bx_0 : Bd x_0 0 5) (x_1 : Int32) (bx_1 : Bd x_1 1 30) (z_0 : Int32) (ez_0 : z_0 = v h0 0) (pre0 : Bd z_0 0 6) : CtI l yX6_addThing cX6_addThing 4 (some .int) rm_X6_addThing D dA G [.ref h0, .int x_0, .int x_1] v w (fun r v1 w1 => Ok G v1 w1 ∧ Kp G v v1 ∧ Bd r 0 6 ∧ True) := by
  refine CtI.of RX6 [(0, .ref h0), (1, .int x_0), (2, .int x_1)] (Nat.le_of_ble_eq_true rfl) rfl (by decide) rfl ?_
  intro p e s m args below meth c E hr
  refine J_aload_n E dX6_addThing_0 0 rfl ?_
  refine J_getI E in_X6 rfl (S_X6.h S0) 0 (by decide) wd191 rfl dX6_addThing_1 (fun x1 e2 => ?_)
  rw [show x1 = z_0 from e2.trans (ez_0).symm]
  refine J_istore_n E [(3, .int z_0), (0, .ref h0), (1, .int x_0), (2, .int x_1)] dX6_addThing_4 rfl (by decide) rfl ?_
  refine J_aload_n E dX6_addThing_5 1 rfl ?_
  refine J_getR E in_X6 rfl (S_X6.h S0) 1 (by decide) wd195 rfl dX6_addThing_6 ?_
  refine J_iload_n E dX6_addThing_9 0 rfl ?_
  refine J_iload_n E dX6_addThing_10 2 rfl ?_
  refine J_iast1 E (S_X6.f1 S0) (Bd.in pre0 (by decide)) dX6_addThing_11 (fun v3 e4 => ?_)
  have o5 : Ok G v3 w := by rw [e4]; exact Ok.sv hOk (S_X6.f1 S0) pre0 bx_0 0 7 (by decide) (by decide +kernel)
  have k6 : Kp G v v3 := by rw [e4]; exact Kp.sv Kp.rf (S_X6.f1 S0) pre0 0 7 0 5 (by decide) (by decide +kernel)
  have e7 : z_0 = v3 h0 0 := by rw [e4, stv_a (tg_ne (S_X6.h S0) ((S_X6.f1 S0)) rfl)]; exact ez_0
  refine J_aload_n E dX6_addThing_12 1 rfl ?_
  refine J_getR E in_X6 rfl (S_X6.h S0) 2 (by decide) wd197 rfl dX6_addThing_13 ?_
  refine J_iload_n E dX6_addThing_16 0 rfl ?_
  refine J_iload_n E dX6_addThing_17 3 rfl ?_
  refine J_iast1 E (S_X6.f2 S0) (Bd.in pre0 (by decide)) dX6_addThing_18 (fun v8 e9 => ?_)
  have o10 : Ok G v8 w := by rw [e9]; exact Ok.sv o5 (S_X6.f2 S0) pre0 bx_1 0 7 (by decide) (by decide +kernel)
  have k11 : Kp G v v8 := by rw [e9]; exact Kp.sv k6 (S_X6.f2 S0) pre0 0 7 1 30 (by decide) (by decide +kernel)
  have e12 : z_0 = v8 h0 0 := by rw [e9, stv_a (tg_ne (S_X6.h S0) ((S_X6.f2 S0)) rfl)]; exact e7
  refine J_aload_n E dX6_addThing_19 1 rfl ?_
  refine J_dup E dX6_addThing_20 rfl ?_
  refine J_getI E in_X6 rfl (S_X6.h S0) 0 (by decide) wd191 rfl dX6_addThing_21 (fun x13 e14 => ?_)
  rw [show x13 = z_0 from e14.trans (e12).symm]
  refine J_iconst E 1 dX6_addThing_24 (by decide) ?_
  refine J_iadd E dX6_addThing_25 (fun x15 e16 => ?_)
  have b17 : Bd x15 1 7 := (Bd.add e16 pre0 (Bd.lit 1 1 (by decide)) (by decide)).w _ _ (by decide)
  refine J_pI E in_X6 rfl (S_X6.h S0) 0 (by decide) wd191 tyX6 tyX6_ok nmX6 rfl rfl .int (by decide +kernel) rfl rfl dX6_addThing_26 (fun v18 e19 => ?_)
  have o20 : Ok G v18 w := Ok.pf o10 e19 (S_X6.h S0) rfl (b17.w 0 7 (by decide))
  have k21 : Kp G v v18 := Kp.pf k11 e19 (S_X6.h S0) rfl
  have e22 : x15 = v18 h0 0 := by rw [e19, stv_s]
  refine J_aload_n E dX6_addThing_29 1 rfl ?_
  refine J_iconst E 0 dX6_addThing_30 (by decide) ?_
  refine J_pI E in_X6 rfl (S_X6.h S0) 8 (by decide) wd211 tyX6 tyX6_ok nmX6 rfl rfl .int (by decide +kernel) rfl rfl dX6_addThing_31 (fun v23 e24 => ?_)
  have o25 : Ok G v23 w := Ok.pf o20 e24 (S_X6.h S0) rfl ((Bd.lit 0 0 (by decide)).w 0 8 (by decide))
  have k26 : Kp G v v23 := Kp.pf k21 e24 (S_X6.h S0) rfl
  have e27 : x15 = v23 h0 0 := by rw [e24, stv_k (by decide)]; exact e22
  have e28 : (0 : Int32) = v23 h0 8 := by rw [e24, stv_s]
  refine J_iload_n E dX6_addThing_34 0 rfl ?_
  exact J_iret E hr dX6_addThing_35 ⟨o25, k26, pre0, trivial⟩

abbrev rm_X6_addOne : Room := { frames := 0, cells := 0, slots := 0, locals := 0 }
set_option maxHeartbeats 4000000 in
set_option maxRecDepth 100000 in
theorem ct_X6_addOne (l : Launch) (D : va_G) (dA : Nat → ClassId) (G : Gm) (v : Mv) (w : Mw) (hOk : Ok G v w) (h0 : Nat) (S0 : S_X6 G h0) (x_0 : Int32) (bx_0 : Bd x_0 0 5) (x_1 : Int32) (bx_1 : Bd x_1 1 9) (x_2 : Int32) (bx_2 : Bd x_2 0 99) (z_0 : Int32) (ez_0 : z_0 = v h0 3) (pre0 : Bd z_0 0 6) : CtI l yX6_addOne cX6_addOne 5 (some .int) rm_X6_addOne D dA G [.ref h0, .int x_0, .int x_1, .int x_2] v w (fun r v1 w1 => Ok G v1 w1 ∧ Kp G v v1 ∧ Bd r 0 6 ∧ True) := by
  refine CtI.of RX6 [(0, .ref h0), (1, .int x_0), (2, .int x_1), (3, .int x_2)] (Nat.le_of_ble_eq_true rfl) rfl (by decide) rfl ?_
  intro p e s m args below meth c E hr
  refine J_aload_n E dX6_addOne_0 0 rfl ?_
  refine J_getI E in_X6 rfl (S_X6.h S0) 3 (by decide) wd201 rfl dX6_addOne_1 (fun x1 e2 => ?_)
  rw [show x1 = z_0 from e2.trans (ez_0).symm]
  refine J_istore E [(4, .int z_0), (0, .ref h0), (1, .int x_0), (2, .int x_1), (3, .int x_2)] dX6_addOne_4 (by decide) rfl ?_
  refine J_aload_n E dX6_addOne_6 1 rfl ?_
  refine J_getR E in_X6 rfl (S_X6.h S0) 4 (by decide) wd203 rfl dX6_addOne_7 ?_
  refine J_iload E dX6_addOne_10 0 rfl ?_
  refine J_iload_n E dX6_addOne_12 2 rfl ?_
  refine J_iast1 E (S_X6.f4 S0) (Bd.in pre0 (by decide)) dX6_addOne_13 (fun v3 e4 => ?_)
  have o5 : Ok G v3 w := by rw [e4]; exact Ok.sv hOk (S_X6.f4 S0) pre0 bx_0 0 7 (by decide) (by decide +kernel)
  have k6 : Kp G v v3 := by rw [e4]; exact Kp.sv Kp.rf (S_X6.f4 S0) pre0 0 7 0 5 (by decide) (by decide +kernel)
  have e7 : z_0 = v3 h0 3 := by rw [e4, stv_a (tg_ne (S_X6.h S0) ((S_X6.f4 S0)) rfl)]; exact ez_0
  refine J_aload_n E dX6_addOne_14 1 rfl ?_
  refine J_getR E in_X6 rfl (S_X6.h S0) 5 (by decide) wd205 rfl dX6_addOne_15 ?_
  refine J_iload E dX6_addOne_18 0 rfl ?_
  refine J_iload_n E dX6_addOne_20 3 rfl ?_
  refine J_iast1 E (S_X6.f5 S0) (Bd.in pre0 (by decide)) dX6_addOne_21 (fun v8 e9 => ?_)
  have o10 : Ok G v8 w := by rw [e9]; exact Ok.sv o5 (S_X6.f5 S0) pre0 bx_1 0 7 (by decide) (by decide +kernel)
  have k11 : Kp G v v8 := by rw [e9]; exact Kp.sv k6 (S_X6.f5 S0) pre0 0 7 1 9 (by decide) (by decide +kernel)
  have e12 : z_0 = v8 h0 3 := by rw [e9, stv_a (tg_ne (S_X6.h S0) ((S_X6.f5 S0)) rfl)]; exact e7
  refine J_aload_n E dX6_addOne_22 1 rfl ?_
  refine J_getR E in_X6 rfl (S_X6.h S0) 6 (by decide) wd207 rfl dX6_addOne_23 ?_
  refine J_getRN E in_X2 rfl (S_X2.h (S_X6.f6 S0)) 0 (by decide) wd151 rfl dX6_addOne_26 ?_
  refine J_iload E dX6_addOne_29 0 rfl ?_
  refine J_iload_n E dX6_addOne_31 4 rfl ?_
  refine J_iast1 E (S_X2.f0 (S_X6.f6 S0)) (Bd.in pre0 (by decide)) dX6_addOne_32 (fun v13 e14 => ?_)
  have o15 : Ok G v13 w := by rw [e14]; exact Ok.sv o10 (S_X2.f0 (S_X6.f6 S0)) pre0 bx_2 0 7 (by decide) (by decide +kernel)
  have k16 : Kp G v v13 := by rw [e14]; exact Kp.sv k11 (S_X2.f0 (S_X6.f6 S0)) pre0 0 7 0 99 (by decide) (by decide +kernel)
  have e17 : z_0 = v13 h0 3 := by rw [e14, stv_a (tg_ne (S_X6.h S0) ((S_X2.f0 (S_X6.f6 S0))) rfl)]; exact e12
  refine J_aload_n E dX6_addOne_33 1 rfl ?_
  refine J_getR E in_X6 rfl (S_X6.h S0) 6 (by decide) wd207 rfl dX6_addOne_34 ?_
  refine J_getRN E in_X2 rfl (S_X2.h (S_X6.f6 S0)) 1 (by decide) wd153 rfl dX6_addOne_37 ?_
  refine J_iload E dX6_addOne_40 0 rfl ?_
  refine J_iconst E (-1) dX6_addOne_42 (by decide) ?_
  refine J_iast1 E (S_X2.f1 (S_X6.f6 S0)) (Bd.in pre0 (by decide)) dX6_addOne_43 (fun v18 e19 => ?_)
  have o20 : Ok G v18 w := by rw [e19]; exact Ok.sv o15 (S_X2.f1 (S_X6.f6 S0)) pre0 (Bd.lit (-1) (-1) (by decide)) 0 7 (by decide) (by decide +kernel)
  have k21 : Kp G v v18 := by rw [e19]; exact Kp.sv k16 (S_X2.f1 (S_X6.f6 S0)) pre0 0 7 (-1) (-1) (by decide) (by decide +kernel)
  have e22 : z_0 = v18 h0 3 := by rw [e19, stv_a (tg_ne (S_X6.h S0) ((S_X2.f1 (S_X6.f6 S0))) rfl)]; exact e17
  refine J_aload_n E dX6_addOne_44 1 rfl ?_
  refine J_getR E in_X6 rfl (S_X6.h S0) 6 (by decide) wd207 rfl dX6_addOne_45 ?_
  refine J_dup E dX6_addOne_48 rfl ?_
  refine J_getIN E in_X2 rfl (S_X2.h (S_X6.f6 S0)) 2 (by decide) wd156 rfl dX6_addOne_49 (fun x23 e24 => ?_)
  refine J_iconst E 1 dX6_addOne_52 (by decide) ?_
  refine J_iload E dX6_addOne_53 0 rfl ?_
  refine J_ishl E dX6_addOne_55 (fun x25 e26 => ?_)
  have b27 : Bd x25 1 64 := Bd.shl1 e26 pre0 6 (by decide)
  refine J_ior E dX6_addOne_56 (fun x28 e29 => ?_)
  refine J_pIN E in_X2 rfl (S_X2.h (S_X6.f6 S0)) 2 (by decide) wd156 tyX2 tyX2_ok nmX2 rfl rfl .int (by decide +kernel) rfl rfl dX6_addOne_57 (fun v30 e31 => ?_)
  have o32 : Ok G v30 w := Ok.pf o20 e31 (S_X2.h (S_X6.f6 S0)) rfl (Bd.any x28)
  have k33 : Kp G v v30 := Kp.pf k21 e31 (S_X2.h (S_X6.f6 S0)) rfl
  have e34 : z_0 = v30 h0 3 := by rw [e31, stv_k (by decide)]; exact e22
  have e35 : x28 = v30 (rf G h0 6) 2 := by rw [e31, stv_s]
  refine J_aload_n E dX6_addOne_60 1 rfl ?_
  refine J_dup E dX6_addOne_61 rfl ?_
  refine J_getI E in_X6 rfl (S_X6.h S0) 3 (by decide) wd201 rfl dX6_addOne_62 (fun x36 e37 => ?_)
  rw [show x36 = z_0 from e37.trans (e34).symm]
  refine J_iconst E 1 dX6_addOne_65 (by decide) ?_
  refine J_iadd E dX6_addOne_66 (fun x38 e39 => ?_)
  have b40 : Bd x38 1 7 := (Bd.add e39 pre0 (Bd.lit 1 1 (by decide)) (by decide)).w _ _ (by decide)
  refine J_pI E in_X6 rfl (S_X6.h S0) 3 (by decide) wd201 tyX6 tyX6_ok nmX6 rfl rfl .int (by decide +kernel) rfl rfl dX6_addOne_67 (fun v41 e42 => ?_)
  have o43 : Ok G v41 w := Ok.pf o32 e42 (S_X6.h S0) rfl (b40.w 0 7 (by decide))
  have k44 : Kp G v v41 := Kp.pf k33 e42 (S_X6.h S0) rfl
  have e45 : x28 = v41 (rf G h0 6) 2 := by rw [e42, stv_k (by decide)]; exact e35
  have e46 : x38 = v41 h0 3 := by rw [e42, stv_s]
  refine J_aload_n E dX6_addOne_70 1 rfl ?_
  refine J_iconst E 0 dX6_addOne_71 (by decide) ?_
  refine J_pI E in_X6 rfl (S_X6.h S0) 8 (by decide) wd211 tyX6 tyX6_ok nmX6 rfl rfl .int (by decide +kernel) rfl rfl dX6_addOne_72 (fun v47 e48 => ?_)
  have o49 : Ok G v47 w := Ok.pf o43 e48 (S_X6.h S0) rfl ((Bd.lit 0 0 (by decide)).w 0 8 (by decide))
  have k50 : Kp G v v47 := Kp.pf k44 e48 (S_X6.h S0) rfl
  have e51 : x28 = v47 (rf G h0 6) 2 := by rw [e48, stv_k (by decide)]; exact e45
  have e52 : x38 = v47 h0 3 := by rw [e48, stv_k (by decide)]; exact e46
  have e53 : (0 : Int32) = v47 h0 8 := by rw [e48, stv_s]
  refine J_iload E dX6_addOne_75 0 rfl ?_
  exact J_iret E hr dX6_addOne_77 ⟨o49, k50, pre0, trivial⟩

abbrev rm_X6_mayGet : Room := { frames := 1, cells := 0, slots := 0, locals := 21 }
set_option maxHeartbeats 4000000 in
set_option maxRecDepth 100000 in
theorem ct_X6_mayGet (l : Launch) (D : va_G) (dA : Nat → ClassId) (G : Gm) (v : Mv) (w : Mw) (hOk : Ok G v w) (h0 : Nat) (S0 : S_X6 G h0) (x_0 : Int32) (bx_0 : Bd x_0 0 6) : CtI l yX6_mayGet cX6_mayGet 2 (some .boolean) rm_X6_mayGet D dA G [.ref h0, .int x_0] v w (fun r v1 w1 => v1 = v ∧ w1 = w ∧ Bd r 0 1 ∧ True) := by
  refine CtI.of RX6 [(0, .ref h0), (1, .int x_0)] (Nat.le_of_ble_eq_true rfl) rfl (by decide) rfl ?_
  intro p e s m args below meth c E hr
  refine J_aload_n E dX6_mayGet_0 0 rfl ?_
  refine J_getR E in_X6 rfl (S_X6.h S0) 6 (by decide) wd207 rfl dX6_mayGet_1 ?_
  refine J_iload_n E dX6_mayGet_4 1 rfl ?_
  refine J_callVNI E cal_X2_isHere wd496 rfl (S_X2.h (S_X6.f6 S0)) [.int x_0] [] (ct_X2_isHere l D dA G v w (hOk) (rf G h0 6) (S_X6.f6 S0) x_0 bx_0) rfl rfl (Nat.le_of_ble_eq_true rfl) ⟨rfl, rfl⟩ ⟨Nat.le_of_ble_eq_true rfl, Nat.le_of_ble_eq_true rfl⟩ dX6_mayGet_5 (fun x4 v1 w2 p3 => ?_)
  rw [p3.1, p3.2.1]
  have b5 : Bd x4 0 1 := p3.2.2.1
  refine J_if_eq E 28 dX6_mayGet_8 (by decide) (fun c6 => ?_) (fun c6 => ?_)
  · have b7 : Bd x4 0 0 := Bd.eq_l c6 b5 (Bd.lit 0 0 (by decide)) 0 0 (by decide)
    refine J_iconst E 0 dX6_mayGet_28 (by decide) ?_
    exact J_zret E hr (Bd.z (Bd.lit 0 0 (by decide)) (by decide)) dX6_mayGet_29 ⟨rfl, rfl, ((Bd.lit 0 0 (by decide)).w 0 1 (by decide)), trivial⟩
  · have b8 : Bd x4 1 1 := (Bd.ne_lo c6 b5 (Bd.lit 0 0 (by decide))).w _ _ (by decide)
    refine J_aload_n E dX6_mayGet_11 0 rfl ?_
    refine J_getR E in_X6 rfl (S_X6.h S0) 6 (by decide) wd207 rfl dX6_mayGet_12 ?_
    refine J_getRN E in_X2 rfl (S_X2.h (S_X6.f6 S0)) 1 (by decide) wd153 rfl dX6_mayGet_15 ?_
    refine J_iload_n E dX6_mayGet_18 1 rfl ?_
    refine J_iald1 E (S_X2.f1 (S_X6.f6 S0)) (Bd.in bx_0 (by decide)) dX6_mayGet_19 (fun x9 e10 => ?_)
    refine J_iconst E (-1) dX6_mayGet_20 (by decide) ?_
    refine J_icmp_ne E 28 dX6_mayGet_21 (by decide) (fun c11 => ?_) (fun c11 => ?_)
    · refine J_iconst E 0 dX6_mayGet_28 (by decide) ?_
      exact J_zret E hr (Bd.z (Bd.lit 0 0 (by decide)) (by decide)) dX6_mayGet_29 ⟨rfl, rfl, ((Bd.lit 0 0 (by decide)).w 0 1 (by decide)), trivial⟩
    · have b12 : Bd x9 (-1) (-1) := Bd.eq_l c11 (Bd.any x9) (Bd.lit (-1) (-1) (by decide)) (-1) (-1) (by decide)
      refine J_iconst E 1 dX6_mayGet_24 (by decide) ?_
      refine J_goto E 29 dX6_mayGet_25 (by decide) ?_
      exact J_zret E hr (Bd.z (Bd.lit 1 1 (by decide)) (by decide)) dX6_mayGet_29 ⟨rfl, rfl, ((Bd.lit 1 1 (by decide)).w 0 1 (by decide)), trivial⟩

abbrev rm_X6_ownerIn : Room := { frames := 0, cells := 0, slots := 0, locals := 0 }
set_option maxHeartbeats 4000000 in
set_option maxRecDepth 100000 in
theorem ct_X6_ownerIn (l : Launch) (D : va_G) (dA : Nat → ClassId) (G : Gm) (v : Mv) (w : Mw) (hOk : Ok G v w) (h0 : Nat) (S0 : S_X6 G h0) (h_0 : Nat) (S_0 : S_X2 G h_0) (x_1 : Int32) (bx_1 : Bd x_1 0 6) : CtI l yX6_ownerIn cX6_ownerIn 4 (some .int) rm_X6_ownerIn D dA G [.ref h0, .ref h_0, .int x_1] v w (fun r v1 w1 => v1 = v ∧ w1 = w ∧ Bd r (-1) 6 ∧ True) := by
  refine CtI.of RX6 [(0, .ref h0), (1, .ref h_0), (2, .int x_1)] (Nat.le_of_ble_eq_true rfl) rfl (by decide) rfl ?_
  intro p e s m args below meth c E hr
  have J2 : ∀ n : Nat, Bd x_1 0 6 → ∀ x2 : Int32, Bd x2 0 7 → Mu x2 7 n → J p l e rm_X6_ownerIn s m args below meth c 0 0 (MQ below (QcI D dA G (fun r v1 w1 => v1 = v ∧ w1 = w ∧ Bd r (-1) 6 ∧ True)) args s 0 0 (dm G)) D dA G (dm G) s.heap 4 v w [(0, .ref h0), (1, .ref h_0), (2, .int x_1), (3, .int x2)] 2 [] := by
    intro n
    induction n with
    | zero => intro b1 x2 b3 hm; exact hm.zero b3 (by decide)
    | succ n ih2 =>
      intro b1 x2 b3 hmu2
      refine J_iload_n E dX6_ownerIn_2 3 rfl ?_
      refine J_aload_n E dX6_ownerIn_3 0 rfl ?_
      refine J_getI E in_X6 rfl (S_X6.h S0) 3 (by decide) wd201 rfl dX6_ownerIn_4 (fun x4 e5 => ?_)
      have b6 : Bd x4 0 7 := Ok.fd hOk e5 (S_X6.h S0) rfl
      refine J_icmp_ge E 28 dX6_ownerIn_7 (by decide) (fun c7 => ?_) (fun c7 => ?_)
      · refine J_iconst E (-1) dX6_ownerIn_28 (by decide) ?_
        exact J_iret E hr dX6_ownerIn_29 ⟨rfl, rfl, ((Bd.lit (-1) (-1) (by decide)).w (-1) 6 (by decide)), trivial⟩
      · have b8 : Bd x2 0 6 := Bd.lt_l (nle c7) b3 b6 6 (by decide)
        have b9 : Bd x4 1 7 := Bd.lt_r (nle c7) b3 b6 1 (by decide)
        refine J_aload_n E dX6_ownerIn_10 1 rfl ?_
        refine J_getRN E in_X2 rfl (S_X2.h S_0) 1 (by decide) wd153 rfl dX6_ownerIn_11 ?_
        refine J_iload_n E dX6_ownerIn_14 3 rfl ?_
        refine J_iald1 E (S_X2.f1 S_0) (Bd.in b8 (by decide)) dX6_ownerIn_15 (fun x10 e11 => ?_)
        refine J_iload_n E dX6_ownerIn_16 2 rfl ?_
        refine J_icmp_ne E 22 dX6_ownerIn_17 (by decide) (fun c12 => ?_) (fun c12 => ?_)
        · refine J_iinc E 3 1 (fun z => [(3, .int z), (0, .ref h0), (1, .ref h_0), (2, .int x_1)]) dX6_ownerIn_22 rfl (by decide) (by decide) (fun _ => rfl) (fun x13 e14 => ?_)
          have b15 : Bd x13 1 7 := (Bd.add e14 b8 (Bd.lit 1 1 (by decide)) (by decide)).w _ _ (by decide)
          refine J_goto E 2 dX6_ownerIn_25 (by decide) ?_
          exact J.sub [1, 2, 3, 0] rfl (ih2 b1 x13 (b15.w 0 7 (by decide)) (Mu.step hmu2 e14 b8 (Bd.lit 1 1 (by decide)) (by decide)))
        · have b16 : Bd x10 0 6 := Bd.eq_l c12 (Bd.any x10) b1 0 6 (by decide)
          refine J_iload_n E dX6_ownerIn_20 3 rfl ?_
          exact J_iret E hr dX6_ownerIn_21 ⟨rfl, rfl, (b8.w (-1) 6 (by decide)), trivial⟩
  refine J_iconst E 0 dX6_ownerIn_0 (by decide) ?_
  refine J_istore_n E [(3, .int 0), (0, .ref h0), (1, .ref h_0), (2, .int x_1)] dX6_ownerIn_1 rfl (by decide) rfl ?_
  exact J.sub [1, 2, 3, 0] rfl (J2 8 bx_1 0 ((Bd.lit 0 0 (by decide)).w 0 7 (by decide)) (Mu.start _ (Bd.lit 0 0 (by decide)) (by decide)))

abbrev rm_X6_ownerOf : Room := { frames := 1, cells := 0, slots := 0, locals := 23 }
set_option maxHeartbeats 4000000 in
set_option maxRecDepth 100000 in
theorem ct_X6_ownerOf (l : Launch) (D : va_G) (dA : Nat → ClassId) (G : Gm) (v : Mv) (w : Mw) (hOk : Ok G v w) (h0 : Nat) (S0 : S_X6 G h0) (x_0 : Int32) (bx_0 : Bd x_0 0 6) : CtI l yX6_ownerOf cX6_ownerOf 2 (some .int) rm_X6_ownerOf D dA G [.ref h0, .int x_0] v w (fun r v1 w1 => v1 = v ∧ w1 = w ∧ True ∧ True) := by
  refine CtI.of RX6 [(0, .ref h0), (1, .int x_0)] (Nat.le_of_ble_eq_true rfl) rfl (by decide) rfl ?_
  intro p e s m args below meth c E hr
  refine J_aload_n E dX6_ownerOf_0 0 rfl ?_
  refine J_aload_n E dX6_ownerOf_1 0 rfl ?_
  refine J_getR E in_X6 rfl (S_X6.h S0) 6 (by decide) wd207 rfl dX6_ownerOf_2 ?_
  refine J_iload_n E dX6_ownerOf_5 1 rfl ?_
  refine J_callVI E cal_X6_ownerIn wd504 rfl (S_X6.h S0) [.ref (rf G h0 6), .int x_0] [] (ct_X6_ownerIn l D dA G v w (hOk) h0 S0 (rf G h0 6) (S_X6.f6 S0) x_0 bx_0) rfl rfl (Nat.le_of_ble_eq_true rfl) ⟨rfl, rfl⟩ ⟨Nat.le_of_ble_eq_true rfl, Nat.le_of_ble_eq_true rfl⟩ dX6_ownerOf_6 (fun x4 v1 w2 p3 => ?_)
  rw [p3.1, p3.2.1]
  have b5 : Bd x4 (-1) 6 := p3.2.2.1
  exact J_iret E hr dX6_ownerOf_9 ⟨rfl, rfl, trivial, trivial⟩

abbrev rm_X6_hasThing : Room := { frames := 0, cells := 0, slots := 0, locals := 0 }
set_option maxHeartbeats 4000000 in
set_option maxRecDepth 100000 in
theorem ct_X6_hasThing (l : Launch) (D : va_G) (dA : Nat → ClassId) (G : Gm) (v : Mv) (w : Mw) (hOk : Ok G v w) (h0 : Nat) (S0 : S_X6 G h0) (x_0 : Int32) : CtI l yX6_hasThing cX6_hasThing 2 (some .boolean) rm_X6_hasThing D dA G [.ref h0, .int x_0] v w (fun r v1 w1 => v1 = v ∧ w1 = w ∧ Bd r 0 1 ∧ (r = 0 ∨ Bd x_0 0 6)) := by
  refine CtI.of RX6 [(0, .ref h0), (1, .int x_0)] (Nat.le_of_ble_eq_true rfl) rfl (by decide) rfl ?_
  intro p e s m args below meth c E hr
  refine J_iload_n E dX6_hasThing_0 1 rfl ?_
  refine J_if_lt E 16 dX6_hasThing_1 (by decide) (fun c1 => ?_) (fun c1 => ?_)
  · have b2 : Bd x_0 I0 (-1) := Bd.lt_l c1 (Bd.any x_0) (Bd.lit 0 0 (by decide)) (-1) (by decide)
    refine J_iconst E 0 dX6_hasThing_16 (by decide) ?_
    exact J_zret E hr (Bd.z (Bd.lit 0 0 (by decide)) (by decide)) dX6_hasThing_17 ⟨rfl, rfl, ((Bd.lit 0 0 (by decide)).w 0 1 (by decide)), (Or.inl rfl)⟩
  · have b3 : Bd x_0 0 I1 := Bd.le_r (nlt c1) (Bd.lit 0 0 (by decide)) (Bd.any x_0) 0 (by decide)
    refine J_iload_n E dX6_hasThing_4 1 rfl ?_
    refine J_aload_n E dX6_hasThing_5 0 rfl ?_
    refine J_getI E in_X6 rfl (S_X6.h S0) 0 (by decide) wd191 rfl dX6_hasThing_6 (fun x4 e5 => ?_)
    have b6 : Bd x4 0 7 := Ok.fd hOk e5 (S_X6.h S0) rfl
    refine J_icmp_ge E 16 dX6_hasThing_9 (by decide) (fun c7 => ?_) (fun c7 => ?_)
    · refine J_iconst E 0 dX6_hasThing_16 (by decide) ?_
      exact J_zret E hr (Bd.z (Bd.lit 0 0 (by decide)) (by decide)) dX6_hasThing_17 ⟨rfl, rfl, ((Bd.lit 0 0 (by decide)).w 0 1 (by decide)), (Or.inl rfl)⟩
    · have b8 : Bd x_0 0 6 := Bd.lt_l (nle c7) b3 b6 6 (by decide)
      have b9 : Bd x4 1 7 := Bd.lt_r (nle c7) b3 b6 1 (by decide)
      refine J_iconst E 1 dX6_hasThing_12 (by decide) ?_
      refine J_goto E 17 dX6_hasThing_13 (by decide) ?_
      exact J_zret E hr (Bd.z (Bd.lit 1 1 (by decide)) (by decide)) dX6_hasThing_17 ⟨rfl, rfl, ((Bd.lit 1 1 (by decide)).w 0 1 (by decide)), (Or.inr b8)⟩

abbrev rm_X6_isHeldIn : Room := { frames := 2, cells := 0, slots := 0, locals := 44 }
set_option maxHeartbeats 4000000 in
set_option maxRecDepth 100000 in
theorem ct_X6_isHeldIn (l : Launch) (D : va_G) (dA : Nat → ClassId) (G : Gm) (v : Mv) (w : Mw) (hOk : Ok G v w) (h0 : Nat) (S0 : S_X6 G h0) (h_0 : Nat) (S_0 : S_X2 G h_0) (x_1 : Int32) (bx_1 : Bd x_1 0 6) : CtI l yX6_isHeldIn cX6_isHeldIn 4 (some .boolean) rm_X6_isHeldIn D dA G [.ref h0, .ref h_0, .int x_1] v w (fun r v1 w1 => v1 = v ∧ w1 = w ∧ Bd r 0 1 ∧ True) := by
  refine CtI.of RX6 [(0, .ref h0), (1, .ref h_0), (2, .int x_1)] (Nat.le_of_ble_eq_true rfl) rfl (by decide) rfl ?_
  intro p e s m args below meth c E hr
  refine J_aload_n E dX6_isHeldIn_0 1 rfl ?_
  refine J_getRN E in_X2 rfl (S_X2.h S_0) 1 (by decide) wd153 rfl dX6_isHeldIn_1 ?_
  refine J_iload_n E dX6_isHeldIn_4 2 rfl ?_
  refine J_iald1 E (S_X2.f1 S_0) (Bd.in bx_1 (by decide)) dX6_isHeldIn_5 (fun x1 e2 => ?_)
  refine J_istore_n E [(3, .int x1), (0, .ref h0), (1, .ref h_0), (2, .int x_1)] dX6_isHeldIn_6 rfl (by decide) rfl ?_
  refine J_aload_n E dX6_isHeldIn_7 1 rfl ?_
  refine J_iload_n E dX6_isHeldIn_8 0 rfl ?_
  refine J_callVI E cal_X6_hasThing wd526 rfl (S_X6.h S0) [.int x1] [] (ct_X6_hasThing l D dA G v w (hOk) h0 S0 x1) rfl rfl (Nat.le_of_ble_eq_true rfl) ⟨rfl, rfl⟩ ⟨Nat.le_of_ble_eq_true rfl, Nat.le_of_ble_eq_true rfl⟩ dX6_isHeldIn_9 (fun x6 v3 w4 p5 => ?_)
  rw [p5.1, p5.2.1]
  have b7 : Bd x6 0 1 := p5.2.2.1
  refine J_if_eq E 62 dX6_isHeldIn_12 (by decide) (fun c8 => ?_) (fun c8 => ?_)
  · have b9 : Bd x6 0 0 := Bd.eq_l c8 b7 (Bd.lit 0 0 (by decide)) 0 0 (by decide)
    refine J_iconst E 0 dX6_isHeldIn_62 (by decide) ?_
    exact J_zret E hr (Bd.z (Bd.lit 0 0 (by decide)) (by decide)) dX6_isHeldIn_63 ⟨rfl, rfl, ((Bd.lit 0 0 (by decide)).w 0 1 (by decide)), trivial⟩
  · have b10 : Bd x6 1 1 := (Bd.ne_lo c8 b7 (Bd.lit 0 0 (by decide))).w _ _ (by decide)
    have b11 : Bd x1 0 6 := (p5.2.2.2).resolve_left c8
    refine J_aload_n E dX6_isHeldIn_15 1 rfl ?_
    refine J_getR E in_X6 rfl (S_X6.h S0) 1 (by decide) wd195 rfl dX6_isHeldIn_16 ?_
    refine J_iload_n E dX6_isHeldIn_19 0 rfl ?_
    refine J_iald1 E (S_X6.f1 S0) (Bd.in b11 (by decide)) dX6_isHeldIn_20 (fun x12 e13 => ?_)
    refine J_aload_n E dX6_isHeldIn_21 1 rfl ?_
    refine J_getR E in_X6 rfl (S_X6.h S0) 2 (by decide) wd197 rfl dX6_isHeldIn_22 ?_
    refine J_iload_n E dX6_isHeldIn_25 0 rfl ?_
    refine J_iald1 E (S_X6.f2 S0) (Bd.in b11 (by decide)) dX6_isHeldIn_26 (fun x14 e15 => ?_)
    refine J_aload_n E dX6_isHeldIn_27 2 rfl ?_
    refine J_getIN E in_X2 rfl (S_X2.h S_0) 3 (by decide) wd159 rfl dX6_isHeldIn_28 (fun x16 e17 => ?_)
    refine J_callSNI E cal_X5_thingWeighs wd530 [.int x12, .int x14, .int x16] [] (ct_X5_thingWeighs l D dA G v w (hOk) x12 x14 x16) rfl rfl (Nat.le_of_ble_eq_true rfl) ⟨rfl, rfl⟩ ⟨Nat.le_of_ble_eq_true rfl, Nat.le_of_ble_eq_true rfl⟩ dX6_isHeldIn_31 (fun x21 v18 w19 p20 => ?_)
    rw [p20.1, p20.2.1]
    refine J_aload_n E dX6_isHeldIn_34 1 rfl ?_
    refine J_getR E in_X6 rfl (S_X6.h S0) 4 (by decide) wd203 rfl dX6_isHeldIn_35 ?_
    refine J_iload_n E dX6_isHeldIn_38 3 rfl ?_
    refine J_iald1 E (S_X6.f4 S0) (Bd.in bx_1 (by decide)) dX6_isHeldIn_39 (fun x22 e23 => ?_)
    refine J_aload_n E dX6_isHeldIn_40 1 rfl ?_
    refine J_getR E in_X6 rfl (S_X6.h S0) 5 (by decide) wd205 rfl dX6_isHeldIn_41 ?_
    refine J_iload_n E dX6_isHeldIn_44 3 rfl ?_
    refine J_iald1 E (S_X6.f5 S0) (Bd.in bx_1 (by decide)) dX6_isHeldIn_45 (fun x24 e25 => ?_)
    refine J_aload_n E dX6_isHeldIn_46 2 rfl ?_
    refine J_getRN E in_X2 rfl (S_X2.h S_0) 0 (by decide) wd151 rfl dX6_isHeldIn_47 ?_
    refine J_iload_n E dX6_isHeldIn_50 3 rfl ?_
    refine J_iald1 E (S_X2.f0 S_0) (Bd.in bx_1 (by decide)) dX6_isHeldIn_51 (fun x26 e27 => ?_)
    refine J_callSNI E cal_X5_oneLifts wd542 [.int x22, .int x24, .int x26] [.int x21] (ct_X5_oneLifts l D dA G v w (hOk) x22 x24 x26) rfl rfl (Nat.le_of_ble_eq_true rfl) ⟨rfl, rfl⟩ ⟨Nat.le_of_ble_eq_true rfl, Nat.le_of_ble_eq_true rfl⟩ dX6_isHeldIn_52 (fun x31 v28 w29 p30 => ?_)
    rw [p30.1, p30.2.1]
    refine J_icmp_le E 62 dX6_isHeldIn_55 (by decide) (fun c32 => ?_) (fun c32 => ?_)
    · refine J_iconst E 0 dX6_isHeldIn_62 (by decide) ?_
      exact J_zret E hr (Bd.z (Bd.lit 0 0 (by decide)) (by decide)) dX6_isHeldIn_63 ⟨rfl, rfl, ((Bd.lit 0 0 (by decide)).w 0 1 (by decide)), trivial⟩
    · refine J_iconst E 1 dX6_isHeldIn_58 (by decide) ?_
      refine J_goto E 63 dX6_isHeldIn_59 (by decide) ?_
      exact J_zret E hr (Bd.z (Bd.lit 1 1 (by decide)) (by decide)) dX6_isHeldIn_63 ⟨rfl, rfl, ((Bd.lit 1 1 (by decide)).w 0 1 (by decide)), trivial⟩

abbrev rm_X6_passYears : Room := { frames := 3, cells := 0, slots := 0, locals := 67 }
set_option maxHeartbeats 4000000 in
set_option maxRecDepth 100000 in
theorem ct_X6_passYears (l : Launch) (D : va_G) (dA : Nat → ClassId) (G : Gm) (v : Mv) (w : Mw) (hOk : Ok G v w) (h0 : Nat) (S0 : S_X6 G h0) (h_0 : Nat) (S_0 : S_X2 G h_0) (x_1 : Int32) (bx_1 : Bd x_1 0 60) (x_2 : Int32) (bx_2 : Bd x_2 999 1059) : CtV l yX6_passYears cX6_passYears 6 none rm_X6_passYears D dA G [.ref h0, .ref h_0, .int x_1, .int x_2] v w (fun v1 w1 => Ok G v1 w1 ∧ Kp G v v1 ∧ True) := by
  refine CtV.of RX6 [(0, .ref h0), (1, .ref h_0), (2, .int x_1), (3, .int x_2)] (Nat.le_of_ble_eq_true rfl) rfl (by decide) rfl ?_
  intro p e s m args below meth c E hr
  have J3 : ∀ n : Nat, ∀ (v1 : Mv) (w2 : Mw), Ok G v1 w2 → Kp G v v1 → Bd x_1 0 60 → Bd x_2 999 1059 → ∀ x7 : Int32, Bd x7 0 61 → Mu x7 61 n → J p l e rm_X6_passYears s m args below meth c 0 0 (MQ below (QcV D dA G (fun v1 w1 => Ok G v1 w1 ∧ Kp G v v1 ∧ True)) args s 0 0 (dm G)) D dA G (dm G) s.heap 6 v1 w2 [(0, .ref h0), (1, .ref h_0), (2, .int x_1), (3, .int x_2), (4, .int x7)] 3 [] := by
    intro n
    induction n with
    | zero => intro v1 w2 o3 k4 b5 b6 x7 b8 hm; exact hm.zero b8 (by decide)
    | succ n ih3 =>
      intro v1 w2 o3 k4 b5 b6 x7 b8 hmu3
      have J20 : ∀ n : Nat, ∀ (v9 : Mv) (w10 : Mw), Ok G v9 w10 → Kp G v v9 → Bd x_1 1 60 → Bd x_2 999 1059 → Bd x7 0 60 → ∀ x16 : Int32, Bd x16 0 7 → Mu x16 7 n → J p l e rm_X6_passYears s m args below meth c 0 0 (MQ below (QcV D dA G (fun v1 w1 => Ok G v1 w1 ∧ Kp G v v1 ∧ True)) args s 0 0 (dm G)) D dA G (dm G) s.heap 6 v9 w10 [(0, .ref h0), (1, .ref h_0), (2, .int x_1), (3, .int x_2), (4, .int x7), (5, .int x16)] 20 [] := by
        intro n
        induction n with
        | zero => intro v9 w10 o11 k12 b13 b14 b15 x16 b17 hm; exact hm.zero b17 (by decide)
        | succ n ih20 =>
          intro v9 w10 o11 k12 b13 b14 b15 x16 b17 hmu20
          have J66 : ∀ (v18 : Mv) (w19 : Mw), Ok G v18 w19 → Kp G v v18 → Bd x_1 1 60 → Bd x_2 999 1059 → Bd x7 0 60 → Bd x16 0 6 → J p l e rm_X6_passYears s m args below meth c 0 0 (MQ below (QcV D dA G (fun v1 w1 => Ok G v1 w1 ∧ Kp G v v1 ∧ True)) args s 0 0 (dm G)) D dA G (dm G) s.heap 6 v18 w19 [(0, .ref h0), (1, .ref h_0), (2, .int x_1), (3, .int x_2), (4, .int x7), (5, .int x16)] 66 [] := by
            intro v18 w19 o20 k21 b22 b23 b24 b25
            refine J_iinc E 5 1 (fun z => [(5, .int z), (0, .ref h0), (1, .ref h_0), (2, .int x_1), (3, .int x_2), (4, .int x7)]) dX6_passYears_66 rfl (by decide) (by decide) (fun _ => rfl) (fun x26 e27 => ?_)
            have b28 : Bd x26 1 7 := (Bd.add e27 b25 (Bd.lit 1 1 (by decide)) (by decide)).w _ _ (by decide)
            refine J_goto E 20 dX6_passYears_69 (by decide) ?_
            exact J.sub [1, 2, 3, 4, 5, 0] rfl (ih20 v18 w19 (o20) (k21) b22 b23 b24 x26 (b28.w 0 7 (by decide)) (Mu.step hmu20 e27 b25 (Bd.lit 1 1 (by decide)) (by decide)))
          refine J_iload E dX6_passYears_20 5 rfl ?_
          refine J_aload_n E dX6_passYears_22 0 rfl ?_
          refine J_getI E in_X6 rfl (S_X6.h S0) 3 (by decide) wd201 rfl dX6_passYears_23 (fun x29 e30 => ?_)
          have b31 : Bd x29 0 7 := Ok.fd o11 e30 (S_X6.h S0) rfl
          refine J_icmp_ge E 72 dX6_passYears_26 (by decide) (fun c32 => ?_) (fun c32 => ?_)
          · refine J_aload_n E dX6_passYears_72 1 rfl ?_
            refine J_dup E dX6_passYears_73 rfl ?_
            refine J_getIN E in_X2 rfl (S_X2.h S_0) 3 (by decide) wd159 rfl dX6_passYears_74 (fun x33 e34 => ?_)
            refine J_iconst E 1 dX6_passYears_77 (by decide) ?_
            refine J_iadd E dX6_passYears_78 (fun x35 e36 => ?_)
            refine J_pIN E in_X2 rfl (S_X2.h S_0) 3 (by decide) wd159 tyX2 tyX2_ok nmX2 rfl rfl .int (by decide +kernel) rfl rfl dX6_passYears_79 (fun v37 e38 => ?_)
            have o39 : Ok G v37 w10 := Ok.pf o11 e38 (S_X2.h S_0) rfl (Bd.any x35)
            have k40 : Kp G v v37 := Kp.pf k12 e38 (S_X2.h S_0) rfl
            have e41 : x29 = v37 h0 3 := by rw [e38, stv_a (tg_ne (S_X6.h S0) (S_X2.h S_0) rfl)]; exact e30
            have e42 : x35 = v37 h_0 3 := by rw [e38, stv_s]
            refine J_iinc E 4 1 (fun z => [(4, .int z), (0, .ref h0), (1, .ref h_0), (2, .int x_1), (3, .int x_2), (5, .int x16)]) dX6_passYears_82 rfl (by decide) (by decide) (fun _ => rfl) (fun x43 e44 => ?_)
            have b45 : Bd x43 1 61 := (Bd.add e44 b15 (Bd.lit 1 1 (by decide)) (by decide)).w _ _ (by decide)
            refine J_goto E 3 dX6_passYears_85 (by decide) ?_
            exact J.sub [1, 2, 3, 4, 0] rfl (ih3 v37 w10 (o39) (k40) (b13.w 0 60 (by decide)) b14 x43 (b45.w 0 61 (by decide)) (Mu.step hmu3 e44 b15 (Bd.lit 1 1 (by decide)) (by decide)))
          · have b46 : Bd x16 0 6 := Bd.lt_l (nle c32) b17 b31 6 (by decide)
            have b47 : Bd x29 1 7 := Bd.lt_r (nle c32) b17 b31 1 (by decide)
            refine J_aload_n E dX6_passYears_29 1 rfl ?_
            refine J_iload E dX6_passYears_30 5 rfl ?_
            refine J_callVNI E cal_X2_isHere wd496 rfl (S_X2.h S_0) [.int x16] [] (ct_X2_isHere l D dA G v9 w10 (o11) h_0 S_0 x16 b46) rfl rfl (Nat.le_of_ble_eq_true rfl) ⟨rfl, rfl⟩ ⟨Nat.le_of_ble_eq_true rfl, Nat.le_of_ble_eq_true rfl⟩ dX6_passYears_32 (fun x51 v48 w49 p50 => ?_)
            rw [p50.1, p50.2.1]
            have b52 : Bd x51 0 1 := p50.2.2.1
            refine J_if_ne E 41 dX6_passYears_35 (by decide) (fun c53 => ?_) (fun c53 => ?_)
            · have b54 : Bd x51 1 1 := (Bd.ne_lo c53 b52 (Bd.lit 0 0 (by decide))).w _ _ (by decide)
              refine J_aload_n E dX6_passYears_41 0 rfl ?_
              refine J_aload_n E dX6_passYears_42 1 rfl ?_
              refine J_iload E dX6_passYears_43 5 rfl ?_
              refine J_callVI E cal_X6_isHeldIn wd522 rfl (S_X6.h S0) [.ref h_0, .int x16] [] (ct_X6_isHeldIn l D dA G v9 w10 (o11) h0 S0 h_0 S_0 x16 b46) rfl rfl (Nat.le_of_ble_eq_true rfl) ⟨rfl, rfl⟩ ⟨Nat.le_of_ble_eq_true rfl, Nat.le_of_ble_eq_true rfl⟩ dX6_passYears_45 (fun x58 v55 w56 p57 => ?_)
              rw [p57.1, p57.2.1]
              have b59 : Bd x58 0 1 := p57.2.2.1
              refine J_if_eq E 60 dX6_passYears_48 (by decide) (fun c60 => ?_) (fun c60 => ?_)
              · have b61 : Bd x58 0 0 := Bd.eq_l c60 b59 (Bd.lit 0 0 (by decide)) 0 0 (by decide)
                refine J_aload_n E dX6_passYears_60 1 rfl ?_
                refine J_iload E dX6_passYears_61 5 rfl ?_
                refine J_callVNV E cal_X2_lose wd559 rfl (S_X2.h S_0) [.int x16] [] (ct_X2_lose l D dA G v9 w10 (o11) h_0 S_0 x16 b46) rfl rfl (Nat.le_of_ble_eq_true rfl) ⟨rfl, rfl⟩ ⟨Nat.le_of_ble_eq_true rfl, Nat.le_of_ble_eq_true rfl⟩ dX6_passYears_63 (fun v62 w63 p64 => ?_)
                have o66 := p64.1
                have k67 : Kp G v v62 := (k12).tr p64.2.1
                exact J.sub [0, 1, 2, 3, 4, 5] rfl (J66 v62 w63 (o66) (k67) b13 b14 b15 b46)
              · have b68 : Bd x58 1 1 := (Bd.ne_lo c60 b59 (Bd.lit 0 0 (by decide))).w _ _ (by decide)
                refine J_aload_n E dX6_passYears_51 1 rfl ?_
                refine J_iload E dX6_passYears_52 5 rfl ?_
                refine J_callVNV E cal_X2_growOlder wd554 rfl (S_X2.h S_0) [.int x16] [] (ct_X2_growOlder l D dA G v9 w10 (o11) h_0 S_0 x16 b46) rfl rfl (Nat.le_of_ble_eq_true rfl) ⟨rfl, rfl⟩ ⟨Nat.le_of_ble_eq_true rfl, Nat.le_of_ble_eq_true rfl⟩ dX6_passYears_54 (fun v69 w70 p71 => ?_)
                have o73 := p71.1
                have k74 : Kp G v v69 := (k12).tr p71.2.1
                refine J_goto E 66 dX6_passYears_57 (by decide) ?_
                exact J.sub [0, 1, 2, 3, 4, 5] rfl (J66 v69 w70 (o73) (k74) b13 b14 b15 b46)
            · have b75 : Bd x51 0 0 := Bd.eq_l c53 b52 (Bd.lit 0 0 (by decide)) 0 0 (by decide)
              refine J_goto E 66 dX6_passYears_38 (by decide) ?_
              exact J.sub [0, 1, 2, 3, 4, 5] rfl (J66 v9 w10 (o11) (k12) b13 b14 b15 b46)
      refine J_iload E dX6_passYears_3 4 rfl ?_
      refine J_iload_n E dX6_passYears_5 2 rfl ?_
      refine J_icmp_ge E 88 dX6_passYears_6 (by decide) (fun c76 => ?_) (fun c76 => ?_)
      · exact J_vret E hr dX6_passYears_88 ⟨o3, k4, trivial⟩
      · have b77 : Bd x7 0 59 := Bd.lt_l (nle c76) b8 b5 59 (by decide)
        have b78 : Bd x_1 1 60 := Bd.lt_r (nle c76) b8 b5 1 (by decide)
        refine J_aload_n E dX6_passYears_9 1 rfl ?_
        refine J_getIN E in_X2 rfl (S_X2.h S_0) 3 (by decide) wd159 rfl dX6_passYears_10 (fun x79 e80 => ?_)
        refine J_iload_n E dX6_passYears_13 3 rfl ?_
        refine J_icmp_ge E 88 dX6_passYears_14 (by decide) (fun c81 => ?_) (fun c81 => ?_)
        · have b82 : Bd x79 999 I1 := Bd.le_r c81 b6 (Bd.any x79) 999 (by decide)
          exact J_vret E hr dX6_passYears_88 ⟨o3, k4, trivial⟩
        · have b83 : Bd x79 I0 1058 := Bd.lt_l (nle c81) (Bd.any x79) b6 1058 (by decide)
          refine J_iconst E 0 dX6_passYears_17 (by decide) ?_
          refine J_istore E [(5, .int 0), (0, .ref h0), (1, .ref h_0), (2, .int x_1), (3, .int x_2), (4, .int x7)] dX6_passYears_18 (by decide) rfl ?_
          exact J.sub [1, 2, 3, 4, 5, 0] rfl (J20 8 v1 w2 (o3) (k4) b78 b6 (b77.w 0 60 (by decide)) 0 ((Bd.lit 0 0 (by decide)).w 0 7 (by decide)) (Mu.start _ (Bd.lit 0 0 (by decide)) (by decide)))
  refine J_iconst E 0 dX6_passYears_0 (by decide) ?_
  refine J_istore E [(4, .int 0), (0, .ref h0), (1, .ref h_0), (2, .int x_1), (3, .int x_2)] dX6_passYears_1 (by decide) rfl ?_
  exact J.sub [1, 2, 3, 4, 0] rfl (J3 62 v w (hOk) (Kp.rf) bx_1 bx_2 0 ((Bd.lit 0 0 (by decide)).w 0 61 (by decide)) (Mu.start _ (Bd.lit 0 0 (by decide)) (by decide)))

abbrev rm_X4_isFull_5 : Room := { frames := 0, cells := 0, slots := 0, locals := 0 }
set_option maxHeartbeats 4000000 in
set_option maxRecDepth 100000 in
theorem ct_X4_isFull_5 (l : Launch) (D : va_G) (dA : Nat → ClassId) (G : Gm) (v : Mv) (w : Mw) (hOk : Ok G v w) (h0 : Nat) (S0 : S_X4 G h0 5) : CtI l yX4_isFull cX4_isFull 1 (some .boolean) rm_X4_isFull_5 D dA G [.ref h0] v w (fun r v1 w1 => v1 = v ∧ w1 = w ∧ Bd r 0 1 ∧ (¬ r = 0 ∨ Bd (v h0 2) 0 4)) := by
  refine CtI.of RX4 [(0, .ref h0)] (Nat.le_of_ble_eq_true rfl) rfl (by decide) rfl ?_
  intro p e s m args below meth c E hr
  refine J_aload_n E dX4_isFull_0 0 rfl ?_
  refine J_getI E in_X4 rfl (S_X4.h S0) 2 (by decide) wd181 rfl dX4_isFull_1 (fun x1 e2 => ?_)
  have b3 : Bd x1 0 5 := Ok.fd hOk e2 (S_X4.h S0) rfl
  refine J_aload_n E dX4_isFull_4 0 rfl ?_
  refine J_getI E in_X4 rfl (S_X4.h S0) 0 (by decide) wd179 rfl dX4_isFull_5 (fun x4 e5 => ?_)
  have b6 : Bd x4 5 5 := Ok.fd hOk e5 (S_X4.h S0) rfl
  refine J_icmp_lt E 15 dX4_isFull_8 (by decide) (fun c7 => ?_) (fun c7 => ?_)
  · have b8 : Bd x1 0 4 := Bd.lt_l c7 b3 b6 4 (by decide)
    refine J_iconst E 0 dX4_isFull_15 (by decide) ?_
    exact J_zret E hr (Bd.z (Bd.lit 0 0 (by decide)) (by decide)) dX4_isFull_16 ⟨rfl, rfl, ((Bd.lit 0 0 (by decide)).w 0 1 (by decide)), (Or.inr (Bd.e b8 (e2).symm))⟩
  · have b9 : Bd x1 5 5 := Bd.le_r (nlt c7) b6 b3 5 (by decide)
    refine J_iconst E 1 dX4_isFull_11 (by decide) ?_
    refine J_goto E 16 dX4_isFull_12 (by decide) ?_
    exact J_zret E hr (Bd.z (Bd.lit 1 1 (by decide)) (by decide)) dX4_isFull_16 ⟨rfl, rfl, ((Bd.lit 1 1 (by decide)).w 0 1 (by decide)), (Or.inl (by decide))⟩

abbrev rm_X4_isFull_6 : Room := { frames := 0, cells := 0, slots := 0, locals := 0 }
set_option maxHeartbeats 4000000 in
set_option maxRecDepth 100000 in
theorem ct_X4_isFull_6 (l : Launch) (D : va_G) (dA : Nat → ClassId) (G : Gm) (v : Mv) (w : Mw) (hOk : Ok G v w) (h0 : Nat) (S0 : S_X4 G h0 6) : CtI l yX4_isFull cX4_isFull 1 (some .boolean) rm_X4_isFull_6 D dA G [.ref h0] v w (fun r v1 w1 => v1 = v ∧ w1 = w ∧ Bd r 0 1 ∧ (¬ r = 0 ∨ Bd (v h0 2) 0 5)) := by
  refine CtI.of RX4 [(0, .ref h0)] (Nat.le_of_ble_eq_true rfl) rfl (by decide) rfl ?_
  intro p e s m args below meth c E hr
  refine J_aload_n E dX4_isFull_0 0 rfl ?_
  refine J_getI E in_X4 rfl (S_X4.h S0) 2 (by decide) wd181 rfl dX4_isFull_1 (fun x1 e2 => ?_)
  have b3 : Bd x1 0 6 := Ok.fd hOk e2 (S_X4.h S0) rfl
  refine J_aload_n E dX4_isFull_4 0 rfl ?_
  refine J_getI E in_X4 rfl (S_X4.h S0) 0 (by decide) wd179 rfl dX4_isFull_5 (fun x4 e5 => ?_)
  have b6 : Bd x4 6 6 := Ok.fd hOk e5 (S_X4.h S0) rfl
  refine J_icmp_lt E 15 dX4_isFull_8 (by decide) (fun c7 => ?_) (fun c7 => ?_)
  · have b8 : Bd x1 0 5 := Bd.lt_l c7 b3 b6 5 (by decide)
    refine J_iconst E 0 dX4_isFull_15 (by decide) ?_
    exact J_zret E hr (Bd.z (Bd.lit 0 0 (by decide)) (by decide)) dX4_isFull_16 ⟨rfl, rfl, ((Bd.lit 0 0 (by decide)).w 0 1 (by decide)), (Or.inr (Bd.e b8 (e2).symm))⟩
  · have b9 : Bd x1 6 6 := Bd.le_r (nlt c7) b6 b3 6 (by decide)
    refine J_iconst E 1 dX4_isFull_11 (by decide) ?_
    refine J_goto E 16 dX4_isFull_12 (by decide) ?_
    exact J_zret E hr (Bd.z (Bd.lit 1 1 (by decide)) (by decide)) dX4_isFull_16 ⟨rfl, rfl, ((Bd.lit 1 1 (by decide)).w 0 1 (by decide)), (Or.inl (by decide))⟩

abbrev rm_X4_add_5 : Room := { frames := 0, cells := 0, slots := 0, locals := 0 }
set_option maxHeartbeats 4000000 in
set_option maxRecDepth 100000 in
theorem ct_X4_add_5 (l : Launch) (D : va_G) (dA : Nat → ClassId) (G : Gm) (v : Mv) (w : Mw) (hOk : Ok G v w) (h0 : Nat) (S0 : S_X4 G h0 5) (x_0 : Int32) (bx_0 : Bd x_0 0 6) (x_1 : Int32) (bx_1 : Bd x_1 0 99) (x_2 : Int32) (bx_2 : Bd x_2 0 60) (x_3 : Int32) (bx_3 : Bd x_3 0 1) (z_0 : Int32) (ez_0 : z_0 = v h0 2) (pre0 : Bd z_0 0 4) : CtI l yX4_add cX4_add 6 (some .int) rm_X4_add_5 D dA G [.ref h0, .int x_0, .int x_1, .int x_2, .int x_3] v w (fun r v1 w1 => Ok G v1 w1 ∧ Kp G v v1 ∧ Bd r 1 5 ∧ True) := by
  refine CtI.of RX4 [(0, .ref h0), (1, .int x_0), (2, .int x_1), (3, .int x_2), (4, .int x_3)] (Nat.le_of_ble_eq_true rfl) rfl (by decide) rfl ?_
  intro p e s m args below meth c E hr
  refine J_iconst E 4 dX4_add_0 (by decide) ?_
  refine J_aload_n E dX4_add_1 0 rfl ?_
  refine J_getI E in_X4 rfl (S_X4.h S0) 2 (by decide) wd181 rfl dX4_add_2 (fun x1 e2 => ?_)
  rw [show x1 = z_0 from e2.trans (ez_0).symm]
  refine J_imul E dX4_add_5 (fun x3 e4 => ?_)
  have b5 : Bd x3 0 16 := Bd.mul e4 (Bd.lit 4 4 (by decide)) pre0 (by decide)
  refine J_istore E [(5, .int x3), (0, .ref h0), (1, .int x_0), (2, .int x_1), (3, .int x_2), (4, .int x_3)] dX4_add_6 (by decide) rfl ?_
  refine J_aload_n E dX4_add_8 1 rfl ?_
  refine J_getR E in_X4 rfl (S_X4.h S0) 1 (by decide) wd180 rfl dX4_add_9 ?_
  refine J_iload E dX4_add_12 0 rfl ?_
  refine J_iload_n E dX4_add_14 2 rfl ?_
  refine J_iast1 E (S_X4.f1 S0) (Bd.in b5 (by decide)) dX4_add_15 (fun v6 e7 => ?_)
  have o8 : Ok G v6 w := by rw [e7]; exact Ok.sv hOk (S_X4.f1 S0) b5 bx_0 0 17 (by decide) (by decide +kernel)
  have k9 : Kp G v v6 := by rw [e7]; exact Kp.sv Kp.rf (S_X4.f1 S0) b5 0 17 0 6 (by decide) (by decide +kernel)
  have e10 : z_0 = v6 h0 2 := by rw [e7, stv_a (tg_ne (S_X4.h S0) ((S_X4.f1 S0)) rfl)]; exact ez_0
  refine J_aload_n E dX4_add_16 1 rfl ?_
  refine J_getR E in_X4 rfl (S_X4.h S0) 1 (by decide) wd180 rfl dX4_add_17 ?_
  refine J_iload E dX4_add_20 0 rfl ?_
  refine J_iconst E 1 dX4_add_22 (by decide) ?_
  refine J_iadd E dX4_add_23 (fun x11 e12 => ?_)
  have b13 : Bd x11 1 17 := (Bd.add e12 b5 (Bd.lit 1 1 (by decide)) (by decide)).w _ _ (by decide)
  refine J_iload_n E dX4_add_24 3 rfl ?_
  refine J_iast1 E (S_X4.f1 S0) (Bd.in b13 (by decide)) dX4_add_25 (fun v14 e15 => ?_)
  have o16 : Ok G v14 w := by rw [e15]; exact Ok.sv o8 (S_X4.f1 S0) b13 bx_1 1 17 (by decide) (by decide +kernel)
  have k17 : Kp G v v14 := by rw [e15]; exact Kp.sv k9 (S_X4.f1 S0) b13 1 17 0 99 (by decide) (by decide +kernel)
  have e18 : z_0 = v14 h0 2 := by rw [e15, stv_a (tg_ne (S_X4.h S0) ((S_X4.f1 S0)) rfl)]; exact e10
  refine J_aload_n E dX4_add_26 1 rfl ?_
  refine J_getR E in_X4 rfl (S_X4.h S0) 1 (by decide) wd180 rfl dX4_add_27 ?_
  refine J_iload E dX4_add_30 0 rfl ?_
  refine J_iconst E 2 dX4_add_32 (by decide) ?_
  refine J_iadd E dX4_add_33 (fun x19 e20 => ?_)
  have b21 : Bd x19 2 18 := (Bd.add e20 b5 (Bd.lit 2 2 (by decide)) (by decide)).w _ _ (by decide)
  refine J_iload_n E dX4_add_34 4 rfl ?_
  refine J_iast1 E (S_X4.f1 S0) (Bd.in b21 (by decide)) dX4_add_35 (fun v22 e23 => ?_)
  have o24 : Ok G v22 w := by rw [e23]; exact Ok.sv o16 (S_X4.f1 S0) b21 bx_2 2 17 (by decide) (by decide +kernel)
  have k25 : Kp G v v22 := by rw [e23]; exact Kp.sv k17 (S_X4.f1 S0) b21 2 17 0 60 (by decide) (by decide +kernel)
  have e26 : z_0 = v22 h0 2 := by rw [e23, stv_a (tg_ne (S_X4.h S0) ((S_X4.f1 S0)) rfl)]; exact e18
  refine J_aload_n E dX4_add_36 1 rfl ?_
  refine J_getR E in_X4 rfl (S_X4.h S0) 1 (by decide) wd180 rfl dX4_add_37 ?_
  refine J_iload E dX4_add_40 0 rfl ?_
  refine J_iconst E 3 dX4_add_42 (by decide) ?_
  refine J_iadd E dX4_add_43 (fun x27 e28 => ?_)
  have b29 : Bd x27 3 19 := (Bd.add e28 b5 (Bd.lit 3 3 (by decide)) (by decide)).w _ _ (by decide)
  refine J_iload E dX4_add_44 5 rfl ?_
  refine J_iast1 E (S_X4.f1 S0) (Bd.in b29 (by decide)) dX4_add_46 (fun v30 e31 => ?_)
  have o32 : Ok G v30 w := by rw [e31]; exact Ok.sv o24 (S_X4.f1 S0) b29 bx_3 3 17 (by decide) (by decide +kernel)
  have k33 : Kp G v v30 := by rw [e31]; exact Kp.sv k25 (S_X4.f1 S0) b29 3 17 0 1 (by decide) (by decide +kernel)
  have e34 : z_0 = v30 h0 2 := by rw [e31, stv_a (tg_ne (S_X4.h S0) ((S_X4.f1 S0)) rfl)]; exact e26
  refine J_aload_n E dX4_add_47 1 rfl ?_
  refine J_dup E dX4_add_48 rfl ?_
  refine J_getI E in_X4 rfl (S_X4.h S0) 2 (by decide) wd181 rfl dX4_add_49 (fun x35 e36 => ?_)
  rw [show x35 = z_0 from e36.trans (e34).symm]
  refine J_iconst E 1 dX4_add_52 (by decide) ?_
  refine J_iadd E dX4_add_53 (fun x37 e38 => ?_)
  have b39 : Bd x37 1 5 := (Bd.add e38 pre0 (Bd.lit 1 1 (by decide)) (by decide)).w _ _ (by decide)
  refine J_pI E in_X4 rfl (S_X4.h S0) 2 (by decide) wd181 tyX4 tyX4_ok nmX4 rfl rfl .int (by decide +kernel) rfl rfl dX4_add_54 (fun v40 e41 => ?_)
  have o42 : Ok G v40 w := Ok.pf o32 e41 (S_X4.h S0) rfl (b39.w 0 5 (by decide))
  have k43 : Kp G v v40 := Kp.pf k33 e41 (S_X4.h S0) rfl
  have e44 : x37 = v40 h0 2 := by rw [e41, stv_s]
  refine J_aload_n E dX4_add_57 1 rfl ?_
  refine J_getI E in_X4 rfl (S_X4.h S0) 2 (by decide) wd181 rfl dX4_add_58 (fun x45 e46 => ?_)
  rw [show x45 = x37 from e46.trans (e44).symm]
  exact J_iret E hr dX4_add_61 ⟨o42, k43, b39, trivial⟩

abbrev rm_X4_add_6 : Room := { frames := 0, cells := 0, slots := 0, locals := 0 }
set_option maxHeartbeats 4000000 in
set_option maxRecDepth 100000 in
theorem ct_X4_add_6 (l : Launch) (D : va_G) (dA : Nat → ClassId) (G : Gm) (v : Mv) (w : Mw) (hOk : Ok G v w) (h0 : Nat) (S0 : S_X4 G h0 6) (x_0 : Int32) (bx_0 : Bd x_0 0 6) (x_1 : Int32) (bx_1 : Bd x_1 1 30) (x_2 : Int32) (bx_2 : Bd x_2 0 99) (x_3 : Int32) (bx_3 : Bd x_3 0 99) (z_0 : Int32) (ez_0 : z_0 = v h0 2) (pre0 : Bd z_0 0 5) : CtI l yX4_add cX4_add 6 (some .int) rm_X4_add_6 D dA G [.ref h0, .int x_0, .int x_1, .int x_2, .int x_3] v w (fun r v1 w1 => Ok G v1 w1 ∧ Kp G v v1 ∧ Bd r 1 6 ∧ True) := by
  refine CtI.of RX4 [(0, .ref h0), (1, .int x_0), (2, .int x_1), (3, .int x_2), (4, .int x_3)] (Nat.le_of_ble_eq_true rfl) rfl (by decide) rfl ?_
  intro p e s m args below meth c E hr
  refine J_iconst E 4 dX4_add_0 (by decide) ?_
  refine J_aload_n E dX4_add_1 0 rfl ?_
  refine J_getI E in_X4 rfl (S_X4.h S0) 2 (by decide) wd181 rfl dX4_add_2 (fun x1 e2 => ?_)
  rw [show x1 = z_0 from e2.trans (ez_0).symm]
  refine J_imul E dX4_add_5 (fun x3 e4 => ?_)
  have b5 : Bd x3 0 20 := Bd.mul e4 (Bd.lit 4 4 (by decide)) pre0 (by decide)
  refine J_istore E [(5, .int x3), (0, .ref h0), (1, .int x_0), (2, .int x_1), (3, .int x_2), (4, .int x_3)] dX4_add_6 (by decide) rfl ?_
  refine J_aload_n E dX4_add_8 1 rfl ?_
  refine J_getR E in_X4 rfl (S_X4.h S0) 1 (by decide) wd180 rfl dX4_add_9 ?_
  refine J_iload E dX4_add_12 0 rfl ?_
  refine J_iload_n E dX4_add_14 2 rfl ?_
  refine J_iast1 E (S_X4.f1 S0) (Bd.in b5 (by decide)) dX4_add_15 (fun v6 e7 => ?_)
  have o8 : Ok G v6 w := by rw [e7]; exact Ok.sv hOk (S_X4.f1 S0) b5 bx_0 0 21 (by decide) (by decide +kernel)
  have k9 : Kp G v v6 := by rw [e7]; exact Kp.sv Kp.rf (S_X4.f1 S0) b5 0 21 0 6 (by decide) (by decide +kernel)
  have e10 : z_0 = v6 h0 2 := by rw [e7, stv_a (tg_ne (S_X4.h S0) ((S_X4.f1 S0)) rfl)]; exact ez_0
  refine J_aload_n E dX4_add_16 1 rfl ?_
  refine J_getR E in_X4 rfl (S_X4.h S0) 1 (by decide) wd180 rfl dX4_add_17 ?_
  refine J_iload E dX4_add_20 0 rfl ?_
  refine J_iconst E 1 dX4_add_22 (by decide) ?_
  refine J_iadd E dX4_add_23 (fun x11 e12 => ?_)
  have b13 : Bd x11 1 21 := (Bd.add e12 b5 (Bd.lit 1 1 (by decide)) (by decide)).w _ _ (by decide)
  refine J_iload_n E dX4_add_24 3 rfl ?_
  refine J_iast1 E (S_X4.f1 S0) (Bd.in b13 (by decide)) dX4_add_25 (fun v14 e15 => ?_)
  have o16 : Ok G v14 w := by rw [e15]; exact Ok.sv o8 (S_X4.f1 S0) b13 bx_1 1 21 (by decide) (by decide +kernel)
  have k17 : Kp G v v14 := by rw [e15]; exact Kp.sv k9 (S_X4.f1 S0) b13 1 21 1 30 (by decide) (by decide +kernel)
  have e18 : z_0 = v14 h0 2 := by rw [e15, stv_a (tg_ne (S_X4.h S0) ((S_X4.f1 S0)) rfl)]; exact e10
  refine J_aload_n E dX4_add_26 1 rfl ?_
  refine J_getR E in_X4 rfl (S_X4.h S0) 1 (by decide) wd180 rfl dX4_add_27 ?_
  refine J_iload E dX4_add_30 0 rfl ?_
  refine J_iconst E 2 dX4_add_32 (by decide) ?_
  refine J_iadd E dX4_add_33 (fun x19 e20 => ?_)
  have b21 : Bd x19 2 22 := (Bd.add e20 b5 (Bd.lit 2 2 (by decide)) (by decide)).w _ _ (by decide)
  refine J_iload_n E dX4_add_34 4 rfl ?_
  refine J_iast1 E (S_X4.f1 S0) (Bd.in b21 (by decide)) dX4_add_35 (fun v22 e23 => ?_)
  have o24 : Ok G v22 w := by rw [e23]; exact Ok.sv o16 (S_X4.f1 S0) b21 bx_2 2 21 (by decide) (by decide +kernel)
  have k25 : Kp G v v22 := by rw [e23]; exact Kp.sv k17 (S_X4.f1 S0) b21 2 21 0 99 (by decide) (by decide +kernel)
  have e26 : z_0 = v22 h0 2 := by rw [e23, stv_a (tg_ne (S_X4.h S0) ((S_X4.f1 S0)) rfl)]; exact e18
  refine J_aload_n E dX4_add_36 1 rfl ?_
  refine J_getR E in_X4 rfl (S_X4.h S0) 1 (by decide) wd180 rfl dX4_add_37 ?_
  refine J_iload E dX4_add_40 0 rfl ?_
  refine J_iconst E 3 dX4_add_42 (by decide) ?_
  refine J_iadd E dX4_add_43 (fun x27 e28 => ?_)
  have b29 : Bd x27 3 23 := (Bd.add e28 b5 (Bd.lit 3 3 (by decide)) (by decide)).w _ _ (by decide)
  refine J_iload E dX4_add_44 5 rfl ?_
  refine J_iast1 E (S_X4.f1 S0) (Bd.in b29 (by decide)) dX4_add_46 (fun v30 e31 => ?_)
  have o32 : Ok G v30 w := by rw [e31]; exact Ok.sv o24 (S_X4.f1 S0) b29 bx_3 3 21 (by decide) (by decide +kernel)
  have k33 : Kp G v v30 := by rw [e31]; exact Kp.sv k25 (S_X4.f1 S0) b29 3 21 0 99 (by decide) (by decide +kernel)
  have e34 : z_0 = v30 h0 2 := by rw [e31, stv_a (tg_ne (S_X4.h S0) ((S_X4.f1 S0)) rfl)]; exact e26
  refine J_aload_n E dX4_add_47 1 rfl ?_
  refine J_dup E dX4_add_48 rfl ?_
  refine J_getI E in_X4 rfl (S_X4.h S0) 2 (by decide) wd181 rfl dX4_add_49 (fun x35 e36 => ?_)
  rw [show x35 = z_0 from e36.trans (e34).symm]
  refine J_iconst E 1 dX4_add_52 (by decide) ?_
  refine J_iadd E dX4_add_53 (fun x37 e38 => ?_)
  have b39 : Bd x37 1 6 := (Bd.add e38 pre0 (Bd.lit 1 1 (by decide)) (by decide)).w _ _ (by decide)
  refine J_pI E in_X4 rfl (S_X4.h S0) 2 (by decide) wd181 tyX4 tyX4_ok nmX4 rfl rfl .int (by decide +kernel) rfl rfl dX4_add_54 (fun v40 e41 => ?_)
  have o42 : Ok G v40 w := Ok.pf o32 e41 (S_X4.h S0) rfl (b39.w 0 6 (by decide))
  have k43 : Kp G v v40 := Kp.pf k33 e41 (S_X4.h S0) rfl
  have e44 : x37 = v40 h0 2 := by rw [e41, stv_s]
  refine J_aload_n E dX4_add_57 1 rfl ?_
  refine J_getI E in_X4 rfl (S_X4.h S0) 2 (by decide) wd181 rfl dX4_add_58 (fun x45 e46 => ?_)
  rw [show x45 = x37 from e46.trans (e44).symm]
  exact J_iret E hr dX4_add_61 ⟨o42, k43, b39, trivial⟩

abbrev rm_X4_cell_5 : Room := { frames := 0, cells := 0, slots := 0, locals := 0 }
set_option maxHeartbeats 4000000 in
set_option maxRecDepth 100000 in
theorem ct_X4_cell_5 (l : Launch) (D : va_G) (dA : Nat → ClassId) (G : Gm) (v : Mv) (w : Mw) (hOk : Ok G v w) (h0 : Nat) (S0 : S_X4 G h0 5) (x_0 : Int32) (bx_0 : Bd x_0 0 4) (x_1 : Int32) (bx_1 : Bd x_1 0 3) : CtI l yX4_cell cX4_cell 3 (some .int) rm_X4_cell_5 D dA G [.ref h0, .int x_0, .int x_1] v w (fun r v1 w1 => v1 = v ∧ w1 = w ∧ True ∧ True) := by
  refine CtI.of RX4 [(0, .ref h0), (1, .int x_0), (2, .int x_1)] (Nat.le_of_ble_eq_true rfl) rfl (by decide) rfl ?_
  intro p e s m args below meth c E hr
  refine J_aload_n E dX4_cell_0 0 rfl ?_
  refine J_getR E in_X4 rfl (S_X4.h S0) 1 (by decide) wd180 rfl dX4_cell_1 ?_
  refine J_iconst E 4 dX4_cell_4 (by decide) ?_
  refine J_iload_n E dX4_cell_5 1 rfl ?_
  refine J_imul E dX4_cell_6 (fun x1 e2 => ?_)
  have b3 : Bd x1 0 16 := Bd.mul e2 (Bd.lit 4 4 (by decide)) bx_0 (by decide)
  refine J_iload_n E dX4_cell_7 2 rfl ?_
  refine J_iadd E dX4_cell_8 (fun x4 e5 => ?_)
  have b6 : Bd x4 0 19 := (Bd.add e5 b3 bx_1 (by decide)).w _ _ (by decide)
  refine J_iald1 E (S_X4.f1 S0) (Bd.in b6 (by decide)) dX4_cell_9 (fun x7 e8 => ?_)
  exact J_iret E hr dX4_cell_10 ⟨rfl, rfl, trivial, trivial⟩

abbrev rm_X4_cell_6 : Room := { frames := 0, cells := 0, slots := 0, locals := 0 }
set_option maxHeartbeats 4000000 in
set_option maxRecDepth 100000 in
theorem ct_X4_cell_6 (l : Launch) (D : va_G) (dA : Nat → ClassId) (G : Gm) (v : Mv) (w : Mw) (hOk : Ok G v w) (h0 : Nat) (S0 : S_X4 G h0 6) (x_0 : Int32) (bx_0 : Bd x_0 0 5) (x_1 : Int32) (bx_1 : Bd x_1 0 3) : CtI l yX4_cell cX4_cell 3 (some .int) rm_X4_cell_6 D dA G [.ref h0, .int x_0, .int x_1] v w (fun r v1 w1 => v1 = v ∧ w1 = w ∧ True ∧ True) := by
  refine CtI.of RX4 [(0, .ref h0), (1, .int x_0), (2, .int x_1)] (Nat.le_of_ble_eq_true rfl) rfl (by decide) rfl ?_
  intro p e s m args below meth c E hr
  refine J_aload_n E dX4_cell_0 0 rfl ?_
  refine J_getR E in_X4 rfl (S_X4.h S0) 1 (by decide) wd180 rfl dX4_cell_1 ?_
  refine J_iconst E 4 dX4_cell_4 (by decide) ?_
  refine J_iload_n E dX4_cell_5 1 rfl ?_
  refine J_imul E dX4_cell_6 (fun x1 e2 => ?_)
  have b3 : Bd x1 0 20 := Bd.mul e2 (Bd.lit 4 4 (by decide)) bx_0 (by decide)
  refine J_iload_n E dX4_cell_7 2 rfl ?_
  refine J_iadd E dX4_cell_8 (fun x4 e5 => ?_)
  have b6 : Bd x4 0 23 := (Bd.add e5 b3 bx_1 (by decide)).w _ _ (by decide)
  refine J_iald1 E (S_X4.f1 S0) (Bd.in b6 (by decide)) dX4_cell_9 (fun x7 e8 => ?_)
  exact J_iret E hr dX4_cell_10 ⟨rfl, rfl, trivial, trivial⟩

abbrev rm_X4_copyFrom_5 : Room := { frames := 0, cells := 0, slots := 0, locals := 0 }
set_option maxHeartbeats 4000000 in
set_option maxRecDepth 100000 in
theorem ct_X4_copyFrom_5 (l : Launch) (D : va_G) (dA : Nat → ClassId) (G : Gm) (v : Mv) (w : Mw) (hOk : Ok G v w) (h0 : Nat) (S0 : S_X4 G h0 5) (h_0 : Nat) (S_0 : S_X4 G h_0 5) : CtV l yX4_copyFrom cX4_copyFrom 3 none rm_X4_copyFrom_5 D dA G [.ref h0, .ref h_0] v w (fun v1 w1 => Ok G v1 w1 ∧ Kp G v v1 ∧ True) := by
  refine CtV.of RX4 [(0, .ref h0), (1, .ref h_0)] (Nat.le_of_ble_eq_true rfl) rfl (by decide) rfl ?_
  intro p e s m args below meth c E hr
  have J10 : ∀ n : Nat, ∀ (v1 : Mv) (w2 : Mw), Ok G v1 w2 → Kp G v v1 → ∀ x5 : Int32, Bd x5 0 60 → Mu x5 60 n → J p l e rm_X4_copyFrom_5 s m args below meth c 0 0 (MQ below (QcV D dA G (fun v1 w1 => Ok G v1 w1 ∧ Kp G v v1 ∧ True)) args s 0 0 (dm G)) D dA G (dm G) s.heap 3 v1 w2 [(0, .ref h0), (1, .ref h_0), (2, .int x5)] 10 [] := by
    intro n
    induction n with
    | zero => intro v1 w2 o3 k4 x5 b6 hm; exact hm.zero b6 (by decide)
    | succ n ih10 =>
      intro v1 w2 o3 k4 x5 b6 hmu10
      refine J_iload_n E dX4_copyFrom_10 2 rfl ?_
      refine J_iconst E 4 dX4_copyFrom_11 (by decide) ?_
      refine J_aload_n E dX4_copyFrom_12 0 rfl ?_
      refine J_getI E in_X4 rfl (S_X4.h S0) 2 (by decide) wd181 rfl dX4_copyFrom_13 (fun x7 e8 => ?_)
      have b9 : Bd x7 0 5 := Ok.fd o3 e8 (S_X4.h S0) rfl
      refine J_imul E dX4_copyFrom_16 (fun x10 e11 => ?_)
      have b12 : Bd x10 0 20 := Bd.mul e11 (Bd.lit 4 4 (by decide)) b9 (by decide)
      refine J_icmp_ge E 38 dX4_copyFrom_17 (by decide) (fun c13 => ?_) (fun c13 => ?_)
      · exact J_vret E hr dX4_copyFrom_38 ⟨o3, k4, trivial⟩
      · have b14 : Bd x5 0 19 := Bd.lt_l (nle c13) b6 b12 19 (by decide)
        have b15 : Bd x10 1 20 := Bd.lt_r (nle c13) b6 b12 1 (by decide)
        refine J_aload_n E dX4_copyFrom_20 0 rfl ?_
        refine J_getR E in_X4 rfl (S_X4.h S0) 1 (by decide) wd180 rfl dX4_copyFrom_21 ?_
        refine J_iload_n E dX4_copyFrom_24 2 rfl ?_
        refine J_aload_n E dX4_copyFrom_25 1 rfl ?_
        refine J_getR E in_X4 rfl (S_X4.h S_0) 1 (by decide) wd180 rfl dX4_copyFrom_26 ?_
        refine J_iload_n E dX4_copyFrom_29 2 rfl ?_
        refine J_iald1 E (S_X4.f1 S_0) (Bd.in b14 (by decide)) dX4_copyFrom_30 (fun x16 e17 => ?_)
        refine J_iast1 E (S_X4.f1 S0) (Bd.in b14 (by decide)) dX4_copyFrom_31 (fun v18 e19 => ?_)
        have o20 : Ok G v18 w2 := by rw [e19]; exact Ok.sv o3 (S_X4.f1 S0) b14 (Bd.any x16) 0 20 (by decide) (by decide +kernel)
        have k21 : Kp G v v18 := by rw [e19]; exact Kp.sv k4 (S_X4.f1 S0) b14 0 20 I0 I1 (by decide) (by decide +kernel)
        have e22 : x7 = v18 h0 2 := by rw [e19, stv_a (tg_ne (S_X4.h S0) ((S_X4.f1 S0)) rfl)]; exact e8
        refine J_iinc E 2 1 (fun z => [(2, .int z), (0, .ref h0), (1, .ref h_0)]) dX4_copyFrom_32 rfl (by decide) (by decide) (fun _ => rfl) (fun x23 e24 => ?_)
        have b25 : Bd x23 1 20 := (Bd.add e24 b14 (Bd.lit 1 1 (by decide)) (by decide)).w _ _ (by decide)
        refine J_goto E 10 dX4_copyFrom_35 (by decide) ?_
        exact J.sub [1, 2, 0] rfl (ih10 v18 w2 (o20) (k21) x23 (b25.w 0 60 (by decide)) (Mu.step hmu10 e24 b14 (Bd.lit 1 1 (by decide)) (by decide)))
  refine J_aload_n E dX4_copyFrom_0 0 rfl ?_
  refine J_aload_n E dX4_copyFrom_1 1 rfl ?_
  refine J_getI E in_X4 rfl (S_X4.h S_0) 2 (by decide) wd181 rfl dX4_copyFrom_2 (fun x26 e27 => ?_)
  have b28 : Bd x26 0 5 := Ok.fd hOk e27 (S_X4.h S_0) rfl
  refine J_pI E in_X4 rfl (S_X4.h S0) 2 (by decide) wd181 tyX4 tyX4_ok nmX4 rfl rfl .int (by decide +kernel) rfl rfl dX4_copyFrom_5 (fun v29 e30 => ?_)
  have o31 : Ok G v29 w := Ok.pf hOk e30 (S_X4.h S0) rfl b28
  have k32 : Kp G v v29 := Kp.pf Kp.rf e30 (S_X4.h S0) rfl
  have e33 : x26 = v29 h0 2 := by rw [e30, stv_s]
  refine J_iconst E 0 dX4_copyFrom_8 (by decide) ?_
  refine J_istore_n E [(2, .int 0), (0, .ref h0), (1, .ref h_0)] dX4_copyFrom_9 rfl (by decide) rfl ?_
  exact J.sub [1, 2, 0] rfl (J10 61 v29 w (o31) (k32) 0 ((Bd.lit 0 0 (by decide)).w 0 60 (by decide)) (Mu.start _ (Bd.lit 0 0 (by decide)) (by decide)))

abbrev rm_X4_copyFrom_6 : Room := { frames := 0, cells := 0, slots := 0, locals := 0 }
set_option maxHeartbeats 4000000 in
set_option maxRecDepth 100000 in
theorem ct_X4_copyFrom_6 (l : Launch) (D : va_G) (dA : Nat → ClassId) (G : Gm) (v : Mv) (w : Mw) (hOk : Ok G v w) (h0 : Nat) (S0 : S_X4 G h0 6) (h_0 : Nat) (S_0 : S_X4 G h_0 6) : CtV l yX4_copyFrom cX4_copyFrom 3 none rm_X4_copyFrom_6 D dA G [.ref h0, .ref h_0] v w (fun v1 w1 => Ok G v1 w1 ∧ Kp G v v1 ∧ True) := by
  refine CtV.of RX4 [(0, .ref h0), (1, .ref h_0)] (Nat.le_of_ble_eq_true rfl) rfl (by decide) rfl ?_
  intro p e s m args below meth c E hr
  have J10 : ∀ n : Nat, ∀ (v1 : Mv) (w2 : Mw), Ok G v1 w2 → Kp G v v1 → ∀ x5 : Int32, Bd x5 0 60 → Mu x5 60 n → J p l e rm_X4_copyFrom_6 s m args below meth c 0 0 (MQ below (QcV D dA G (fun v1 w1 => Ok G v1 w1 ∧ Kp G v v1 ∧ True)) args s 0 0 (dm G)) D dA G (dm G) s.heap 3 v1 w2 [(0, .ref h0), (1, .ref h_0), (2, .int x5)] 10 [] := by
    intro n
    induction n with
    | zero => intro v1 w2 o3 k4 x5 b6 hm; exact hm.zero b6 (by decide)
    | succ n ih10 =>
      intro v1 w2 o3 k4 x5 b6 hmu10
      refine J_iload_n E dX4_copyFrom_10 2 rfl ?_
      refine J_iconst E 4 dX4_copyFrom_11 (by decide) ?_
      refine J_aload_n E dX4_copyFrom_12 0 rfl ?_
      refine J_getI E in_X4 rfl (S_X4.h S0) 2 (by decide) wd181 rfl dX4_copyFrom_13 (fun x7 e8 => ?_)
      have b9 : Bd x7 0 6 := Ok.fd o3 e8 (S_X4.h S0) rfl
      refine J_imul E dX4_copyFrom_16 (fun x10 e11 => ?_)
      have b12 : Bd x10 0 24 := Bd.mul e11 (Bd.lit 4 4 (by decide)) b9 (by decide)
      refine J_icmp_ge E 38 dX4_copyFrom_17 (by decide) (fun c13 => ?_) (fun c13 => ?_)
      · exact J_vret E hr dX4_copyFrom_38 ⟨o3, k4, trivial⟩
      · have b14 : Bd x5 0 23 := Bd.lt_l (nle c13) b6 b12 23 (by decide)
        have b15 : Bd x10 1 24 := Bd.lt_r (nle c13) b6 b12 1 (by decide)
        refine J_aload_n E dX4_copyFrom_20 0 rfl ?_
        refine J_getR E in_X4 rfl (S_X4.h S0) 1 (by decide) wd180 rfl dX4_copyFrom_21 ?_
        refine J_iload_n E dX4_copyFrom_24 2 rfl ?_
        refine J_aload_n E dX4_copyFrom_25 1 rfl ?_
        refine J_getR E in_X4 rfl (S_X4.h S_0) 1 (by decide) wd180 rfl dX4_copyFrom_26 ?_
        refine J_iload_n E dX4_copyFrom_29 2 rfl ?_
        refine J_iald1 E (S_X4.f1 S_0) (Bd.in b14 (by decide)) dX4_copyFrom_30 (fun x16 e17 => ?_)
        refine J_iast1 E (S_X4.f1 S0) (Bd.in b14 (by decide)) dX4_copyFrom_31 (fun v18 e19 => ?_)
        have o20 : Ok G v18 w2 := by rw [e19]; exact Ok.sv o3 (S_X4.f1 S0) b14 (Bd.any x16) 0 24 (by decide) (by decide +kernel)
        have k21 : Kp G v v18 := by rw [e19]; exact Kp.sv k4 (S_X4.f1 S0) b14 0 24 I0 I1 (by decide) (by decide +kernel)
        have e22 : x7 = v18 h0 2 := by rw [e19, stv_a (tg_ne (S_X4.h S0) ((S_X4.f1 S0)) rfl)]; exact e8
        refine J_iinc E 2 1 (fun z => [(2, .int z), (0, .ref h0), (1, .ref h_0)]) dX4_copyFrom_32 rfl (by decide) (by decide) (fun _ => rfl) (fun x23 e24 => ?_)
        have b25 : Bd x23 1 24 := (Bd.add e24 b14 (Bd.lit 1 1 (by decide)) (by decide)).w _ _ (by decide)
        refine J_goto E 10 dX4_copyFrom_35 (by decide) ?_
        exact J.sub [1, 2, 0] rfl (ih10 v18 w2 (o20) (k21) x23 (b25.w 0 60 (by decide)) (Mu.step hmu10 e24 b14 (Bd.lit 1 1 (by decide)) (by decide)))
  refine J_aload_n E dX4_copyFrom_0 0 rfl ?_
  refine J_aload_n E dX4_copyFrom_1 1 rfl ?_
  refine J_getI E in_X4 rfl (S_X4.h S_0) 2 (by decide) wd181 rfl dX4_copyFrom_2 (fun x26 e27 => ?_)
  have b28 : Bd x26 0 6 := Ok.fd hOk e27 (S_X4.h S_0) rfl
  refine J_pI E in_X4 rfl (S_X4.h S0) 2 (by decide) wd181 tyX4 tyX4_ok nmX4 rfl rfl .int (by decide +kernel) rfl rfl dX4_copyFrom_5 (fun v29 e30 => ?_)
  have o31 : Ok G v29 w := Ok.pf hOk e30 (S_X4.h S0) rfl b28
  have k32 : Kp G v v29 := Kp.pf Kp.rf e30 (S_X4.h S0) rfl
  have e33 : x26 = v29 h0 2 := by rw [e30, stv_s]
  refine J_iconst E 0 dX4_copyFrom_8 (by decide) ?_
  refine J_istore_n E [(2, .int 0), (0, .ref h0), (1, .ref h_0)] dX4_copyFrom_9 rfl (by decide) rfl ?_
  exact J.sub [1, 2, 0] rfl (J10 61 v29 w (o31) (k32) 0 ((Bd.lit 0 0 (by decide)).w 0 60 (by decide)) (Mu.start _ (Bd.lit 0 0 (by decide)) (by decide)))

abbrev rm_X4_mixInto_5 : Room := { frames := 0, cells := 0, slots := 0, locals := 0 }
set_option maxHeartbeats 4000000 in
set_option maxRecDepth 100000 in
theorem ct_X4_mixInto_5 (l : Launch) (D : va_G) (dA : Nat → ClassId) (G : Gm) (v : Mv) (w : Mw) (hOk : Ok G v w) (h0 : Nat) (S0 : S_X4 G h0 5) (y_0 : Int64) : CtL l yX4_mixInto cX4_mixInto 6 (some .long) rm_X4_mixInto_5 D dA G [.ref h0, .long y_0] v w (fun _ v1 w1 => v1 = v ∧ w1 = w ∧ True) := by
  refine CtL.of RX4 [(0, .ref h0), (1, .long y_0)] (Nat.le_of_ble_eq_true rfl) rfl (by decide) rfl ?_
  intro p e s m args below meth c E hr
  have J5 : ∀ n : Nat, ∀ y1 : Int64, ∀ x2 : Int32, Bd x2 0 60 → Mu x2 60 n → J p l e rm_X4_mixInto_5 s m args below meth c 0 0 (MQ below (QcL D dA G (fun _ v1 w1 => v1 = v ∧ w1 = w ∧ True)) args s 0 0 (dm G)) D dA G (dm G) s.heap 6 v w [(0, .ref h0), (3, .long y1), (5, .int x2)] 5 [] := by
    intro n
    induction n with
    | zero => intro y1 x2 b3 hm; exact hm.zero b3 (by decide)
    | succ n ih5 =>
      intro y1 x2 b3 hmu5
      refine J_iload E dX4_mixInto_5 2 rfl ?_
      refine J_iconst E 4 dX4_mixInto_7 (by decide) ?_
      refine J_aload_n E dX4_mixInto_8 0 rfl ?_
      refine J_getI E in_X4 rfl (S_X4.h S0) 2 (by decide) wd181 rfl dX4_mixInto_9 (fun x4 e5 => ?_)
      have b6 : Bd x4 0 5 := Ok.fd hOk e5 (S_X4.h S0) rfl
      refine J_imul E dX4_mixInto_12 (fun x7 e8 => ?_)
      have b9 : Bd x7 0 20 := Bd.mul e8 (Bd.lit 4 4 (by decide)) b6 (by decide)
      refine J_icmp_ge E 37 dX4_mixInto_13 (by decide) (fun c10 => ?_) (fun c10 => ?_)
      · refine J_lload_n E dX4_mixInto_37 1 rfl ?_
        exact J_lret E hr dX4_mixInto_38 ⟨rfl, rfl, trivial⟩
      · have b11 : Bd x2 0 19 := Bd.lt_l (nle c10) b3 b9 19 (by decide)
        have b12 : Bd x7 1 20 := Bd.lt_r (nle c10) b3 b9 1 (by decide)
        refine J_ldc2 E wd924 dX4_mixInto_16 ?_
        refine J_lload_n E dX4_mixInto_19 1 rfl ?_
        refine J_lmul E dX4_mixInto_20 (fun y13 e14 => ?_)
        refine J_aload_n E dX4_mixInto_21 0 rfl ?_
        refine J_getR E in_X4 rfl (S_X4.h S0) 1 (by decide) wd180 rfl dX4_mixInto_22 ?_
        refine J_iload E dX4_mixInto_25 2 rfl ?_
        refine J_iald1 E (S_X4.f1 S0) (Bd.in b11 (by decide)) dX4_mixInto_27 (fun x15 e16 => ?_)
        refine J_i2l E dX4_mixInto_28 (fun y17 e18 => ?_)
        refine J_ladd E dX4_mixInto_29 (fun y19 e20 => ?_)
        refine J_lstore_n E [(3, .long y19), (0, .ref h0), (5, .int x2)] dX4_mixInto_30 rfl (by decide) rfl ?_
        refine J_iinc E 2 1 (fun z => [(5, .int z), (3, .long y19), (0, .ref h0)]) dX4_mixInto_31 rfl (by decide) (by decide) (fun _ => rfl) (fun x21 e22 => ?_)
        have b23 : Bd x21 1 20 := (Bd.add e22 b11 (Bd.lit 1 1 (by decide)) (by decide)).w _ _ (by decide)
        refine J_goto E 5 dX4_mixInto_34 (by decide) ?_
        exact J.sub [2, 1, 0] rfl (ih5 y19 x21 (b23.w 0 60 (by decide)) (Mu.step hmu5 e22 b11 (Bd.lit 1 1 (by decide)) (by decide)))
  refine J_lload_n E dX4_mixInto_0 1 rfl ?_
  refine J_lstore_n E [(3, .long y_0), (0, .ref h0), (1, .long y_0)] dX4_mixInto_1 rfl (by decide) rfl ?_
  refine J_iconst E 0 dX4_mixInto_2 (by decide) ?_
  refine J_istore E [(5, .int 0), (3, .long y_0), (0, .ref h0), (1, .long y_0)] dX4_mixInto_3 (by decide) rfl ?_
  exact J.sub [2, 1, 0] rfl (J5 61 y_0 0 ((Bd.lit 0 0 (by decide)).w 0 60 (by decide)) (Mu.start _ (Bd.lit 0 0 (by decide)) (by decide)))

abbrev rm_X4_mixInto_6 : Room := { frames := 0, cells := 0, slots := 0, locals := 0 }
set_option maxHeartbeats 4000000 in
set_option maxRecDepth 100000 in
theorem ct_X4_mixInto_6 (l : Launch) (D : va_G) (dA : Nat → ClassId) (G : Gm) (v : Mv) (w : Mw) (hOk : Ok G v w) (h0 : Nat) (S0 : S_X4 G h0 6) (y_0 : Int64) : CtL l yX4_mixInto cX4_mixInto 6 (some .long) rm_X4_mixInto_6 D dA G [.ref h0, .long y_0] v w (fun _ v1 w1 => v1 = v ∧ w1 = w ∧ True) := by
  refine CtL.of RX4 [(0, .ref h0), (1, .long y_0)] (Nat.le_of_ble_eq_true rfl) rfl (by decide) rfl ?_
  intro p e s m args below meth c E hr
  have J5 : ∀ n : Nat, ∀ y1 : Int64, ∀ x2 : Int32, Bd x2 0 60 → Mu x2 60 n → J p l e rm_X4_mixInto_6 s m args below meth c 0 0 (MQ below (QcL D dA G (fun _ v1 w1 => v1 = v ∧ w1 = w ∧ True)) args s 0 0 (dm G)) D dA G (dm G) s.heap 6 v w [(0, .ref h0), (3, .long y1), (5, .int x2)] 5 [] := by
    intro n
    induction n with
    | zero => intro y1 x2 b3 hm; exact hm.zero b3 (by decide)
    | succ n ih5 =>
      intro y1 x2 b3 hmu5
      refine J_iload E dX4_mixInto_5 2 rfl ?_
      refine J_iconst E 4 dX4_mixInto_7 (by decide) ?_
      refine J_aload_n E dX4_mixInto_8 0 rfl ?_
      refine J_getI E in_X4 rfl (S_X4.h S0) 2 (by decide) wd181 rfl dX4_mixInto_9 (fun x4 e5 => ?_)
      have b6 : Bd x4 0 6 := Ok.fd hOk e5 (S_X4.h S0) rfl
      refine J_imul E dX4_mixInto_12 (fun x7 e8 => ?_)
      have b9 : Bd x7 0 24 := Bd.mul e8 (Bd.lit 4 4 (by decide)) b6 (by decide)
      refine J_icmp_ge E 37 dX4_mixInto_13 (by decide) (fun c10 => ?_) (fun c10 => ?_)
      · refine J_lload_n E dX4_mixInto_37 1 rfl ?_
        exact J_lret E hr dX4_mixInto_38 ⟨rfl, rfl, trivial⟩
      · have b11 : Bd x2 0 23 := Bd.lt_l (nle c10) b3 b9 23 (by decide)
        have b12 : Bd x7 1 24 := Bd.lt_r (nle c10) b3 b9 1 (by decide)
        refine J_ldc2 E wd924 dX4_mixInto_16 ?_
        refine J_lload_n E dX4_mixInto_19 1 rfl ?_
        refine J_lmul E dX4_mixInto_20 (fun y13 e14 => ?_)
        refine J_aload_n E dX4_mixInto_21 0 rfl ?_
        refine J_getR E in_X4 rfl (S_X4.h S0) 1 (by decide) wd180 rfl dX4_mixInto_22 ?_
        refine J_iload E dX4_mixInto_25 2 rfl ?_
        refine J_iald1 E (S_X4.f1 S0) (Bd.in b11 (by decide)) dX4_mixInto_27 (fun x15 e16 => ?_)
        refine J_i2l E dX4_mixInto_28 (fun y17 e18 => ?_)
        refine J_ladd E dX4_mixInto_29 (fun y19 e20 => ?_)
        refine J_lstore_n E [(3, .long y19), (0, .ref h0), (5, .int x2)] dX4_mixInto_30 rfl (by decide) rfl ?_
        refine J_iinc E 2 1 (fun z => [(5, .int z), (3, .long y19), (0, .ref h0)]) dX4_mixInto_31 rfl (by decide) (by decide) (fun _ => rfl) (fun x21 e22 => ?_)
        have b23 : Bd x21 1 24 := (Bd.add e22 b11 (Bd.lit 1 1 (by decide)) (by decide)).w _ _ (by decide)
        refine J_goto E 5 dX4_mixInto_34 (by decide) ?_
        exact J.sub [2, 1, 0] rfl (ih5 y19 x21 (b23.w 0 60 (by decide)) (Mu.step hmu5 e22 b11 (Bd.lit 1 1 (by decide)) (by decide)))
  refine J_lload_n E dX4_mixInto_0 1 rfl ?_
  refine J_lstore_n E [(3, .long y_0), (0, .ref h0), (1, .long y_0)] dX4_mixInto_1 rfl (by decide) rfl ?_
  refine J_iconst E 0 dX4_mixInto_2 (by decide) ?_
  refine J_istore E [(5, .int 0), (3, .long y_0), (0, .ref h0), (1, .long y_0)] dX4_mixInto_3 (by decide) rfl ?_
  exact J.sub [2, 1, 0] rfl (J5 61 y_0 0 ((Bd.lit 0 0 (by decide)).w 0 60 (by decide)) (Mu.start _ (Bd.lit 0 0 (by decide)) (by decide)))

abbrev rm_X6_copyFrom : Room := { frames := 1, cells := 0, slots := 0, locals := 22 }
set_option maxHeartbeats 4000000 in
set_option maxRecDepth 100000 in
theorem ct_X6_copyFrom (l : Launch) (D : va_G) (dA : Nat → ClassId) (G : Gm) (v : Mv) (w : Mw) (hOk : Ok G v w) (h0 : Nat) (S0 : S_X6 G h0) (h_0 : Nat) (S_0 : S_X6 G h_0) : CtV l yX6_copyFrom cX6_copyFrom 3 none rm_X6_copyFrom D dA G [.ref h0, .ref h_0] v w (fun v1 w1 => Ok G v1 w1 ∧ Kp G v v1 ∧ True) := by
  refine CtV.of RX6 [(0, .ref h0), (1, .ref h_0)] (Nat.le_of_ble_eq_true rfl) rfl (by decide) rfl ?_
  intro p e s m args below meth c E hr
  have J113 : ∀ n : Nat, ∀ (v1 : Mv) (w2 : Mw), Ok G v1 w2 → Kp G v v1 → ∀ x5 : Int32, Bd x5 0 8 → Mu x5 8 n → J p l e rm_X6_copyFrom s m args below meth c 0 0 (MQ below (QcV D dA G (fun v1 w1 => Ok G v1 w1 ∧ Kp G v v1 ∧ True)) args s 0 0 (dm G)) D dA G (dm G) s.heap 3 v1 w2 [(0, .ref h0), (1, .ref h_0), (2, .int x5)] 113 [] := by
    intro n
    induction n with
    | zero => intro v1 w2 o3 k4 x5 b6 hm; exact hm.zero b6 (by decide)
    | succ n ih113 =>
      intro v1 w2 o3 k4 x5 b6 hmu113
      refine J_iload_n E dX6_copyFrom_113 2 rfl ?_
      refine J_aload_n E dX6_copyFrom_114 0 rfl ?_
      refine J_getI E in_X6 rfl (S_X6.h S0) 8 (by decide) wd211 rfl dX6_copyFrom_115 (fun x7 e8 => ?_)
      have b9 : Bd x7 0 8 := Ok.fd o3 e8 (S_X6.h S0) rfl
      refine J_icmp_ge E 142 dX6_copyFrom_118 (by decide) (fun c10 => ?_) (fun c10 => ?_)
      · refine J_aload_n E dX6_copyFrom_142 0 rfl ?_
        refine J_getR E in_X6 rfl (S_X6.h S0) 9 (by decide) wd213 rfl dX6_copyFrom_143 ?_
        refine J_aload_n E dX6_copyFrom_146 1 rfl ?_
        refine J_getR E in_X6 rfl (S_X6.h S_0) 9 (by decide) wd213 rfl dX6_copyFrom_147 ?_
        refine J_callVNV E cal_X4_copyFrom wd575 rfl (S_X4.h (S_X6.f9 S0)) [.ref (rf G h_0 9)] [] (ct_X4_copyFrom_5 l D dA G v1 w2 (o3) (rf G h0 9) (S_X6.f9 S0) (rf G h_0 9) (S_X6.f9 S_0)) rfl rfl (Nat.le_of_ble_eq_true rfl) ⟨rfl, rfl⟩ ⟨Nat.le_of_ble_eq_true rfl, Nat.le_of_ble_eq_true rfl⟩ dX6_copyFrom_150 (fun v11 w12 p13 => ?_)
        have o15 := p13.1
        have k16 : Kp G v v11 := (k4).tr p13.2.1
        refine J_aload_n E dX6_copyFrom_153 0 rfl ?_
        refine J_getR E in_X6 rfl (S_X6.h S0) 10 (by decide) wd215 rfl dX6_copyFrom_154 ?_
        refine J_aload_n E dX6_copyFrom_157 1 rfl ?_
        refine J_getR E in_X6 rfl (S_X6.h S_0) 10 (by decide) wd215 rfl dX6_copyFrom_158 ?_
        refine J_callVNV E cal_X4_copyFrom wd575 rfl (S_X4.h (S_X6.f10 S0)) [.ref (rf G h_0 10)] [] (ct_X4_copyFrom_6 l D dA G v11 w12 (o15) (rf G h0 10) (S_X6.f10 S0) (rf G h_0 10) (S_X6.f10 S_0)) rfl rfl (Nat.le_of_ble_eq_true rfl) ⟨rfl, rfl⟩ ⟨Nat.le_of_ble_eq_true rfl, Nat.le_of_ble_eq_true rfl⟩ dX6_copyFrom_161 (fun v17 w18 p19 => ?_)
        have o21 := p19.1
        have k22 : Kp G v v17 := (k16).tr p19.2.1
        refine J_aload_n E dX6_copyFrom_164 0 rfl ?_
        refine J_getR E in_X6 rfl (S_X6.h S0) 11 (by decide) wd217 rfl dX6_copyFrom_165 ?_
        refine J_aload_n E dX6_copyFrom_168 1 rfl ?_
        refine J_getR E in_X6 rfl (S_X6.h S_0) 11 (by decide) wd217 rfl dX6_copyFrom_169 ?_
        refine J_callVNV E cal_X4_copyFrom wd575 rfl (S_X4.h (S_X6.f11 S0)) [.ref (rf G h_0 11)] [] (ct_X4_copyFrom_6 l D dA G v17 w18 (o21) (rf G h0 11) (S_X6.f11 S0) (rf G h_0 11) (S_X6.f11 S_0)) rfl rfl (Nat.le_of_ble_eq_true rfl) ⟨rfl, rfl⟩ ⟨Nat.le_of_ble_eq_true rfl, Nat.le_of_ble_eq_true rfl⟩ dX6_copyFrom_172 (fun v23 w24 p25 => ?_)
        have o27 := p25.1
        have k28 : Kp G v v23 := (k22).tr p25.2.1
        exact J_vret E hr dX6_copyFrom_175 ⟨o27, k28, trivial⟩
      · have b29 : Bd x5 0 7 := Bd.lt_l (nle c10) b6 b9 7 (by decide)
        have b30 : Bd x7 1 8 := Bd.lt_r (nle c10) b6 b9 1 (by decide)
        refine J_aload_n E dX6_copyFrom_121 0 rfl ?_
        refine J_getR E in_X6 rfl (S_X6.h S0) 7 (by decide) wd210 rfl dX6_copyFrom_122 ?_
        refine J_iload_n E dX6_copyFrom_125 2 rfl ?_
        have hi34 := Bd.in (n := 8) b29 (by decide)
        obtain ⟨q31, hq32, hw33⟩ := Ok.el o3 (S_X6.f7 S0).1 hi34
        refine J_aald4 E (S_X6.f7 S0).1 hi34 hw33 dX6_copyFrom_126 ?_
        have S35 := (S_X6.f7 S0).2 q31 hq32
        refine J_aload_n E dX6_copyFrom_127 1 rfl ?_
        refine J_getR E in_X6 rfl (S_X6.h S_0) 7 (by decide) wd210 rfl dX6_copyFrom_128 ?_
        refine J_iload_n E dX6_copyFrom_131 2 rfl ?_
        have hi39 := Bd.in (n := 8) b29 (by decide)
        obtain ⟨q36, hq37, hw38⟩ := Ok.el o3 (S_X6.f7 S_0).1 hi39
        refine J_aald4 E (S_X6.f7 S_0).1 hi39 hw38 dX6_copyFrom_132 ?_
        have S40 := (S_X6.f7 S_0).2 q36 hq37
        refine J_callVNV E cal_X2_copyFrom wd571 rfl (S_X2.h S35) [.ref q36] [] (ct_X2_copyFrom l D dA G v1 w2 (o3) q31 S35 q36 S40) rfl rfl (Nat.le_of_ble_eq_true rfl) ⟨rfl, rfl⟩ ⟨Nat.le_of_ble_eq_true rfl, Nat.le_of_ble_eq_true rfl⟩ dX6_copyFrom_133 (fun v41 w42 p43 => ?_)
        have o45 := p43.1
        have k46 : Kp G v v41 := (k4).tr p43.2.1
        refine J_iinc E 2 1 (fun z => [(2, .int z), (0, .ref h0), (1, .ref h_0)]) dX6_copyFrom_136 rfl (by decide) (by decide) (fun _ => rfl) (fun x47 e48 => ?_)
        have b49 : Bd x47 1 8 := (Bd.add e48 b29 (Bd.lit 1 1 (by decide)) (by decide)).w _ _ (by decide)
        refine J_goto E 113 dX6_copyFrom_139 (by decide) ?_
        exact J.sub [1, 2, 0] rfl (ih113 v41 w42 (o45) (k46) x47 (b49.w 0 8 (by decide)) (Mu.step hmu113 e48 b29 (Bd.lit 1 1 (by decide)) (by decide)))
  have J56 : ∀ n : Nat, ∀ (v50 : Mv) (w51 : Mw), Ok G v50 w51 → Kp G v v50 → ∀ x54 : Int32, Bd x54 0 7 → Mu x54 7 n → J p l e rm_X6_copyFrom s m args below meth c 0 0 (MQ below (QcV D dA G (fun v1 w1 => Ok G v1 w1 ∧ Kp G v v1 ∧ True)) args s 0 0 (dm G)) D dA G (dm G) s.heap 3 v50 w51 [(0, .ref h0), (1, .ref h_0), (2, .int x54)] 56 [] := by
    intro n
    induction n with
    | zero => intro v50 w51 o52 k53 x54 b55 hm; exact hm.zero b55 (by decide)
    | succ n ih56 =>
      intro v50 w51 o52 k53 x54 b55 hmu56
      refine J_iload_n E dX6_copyFrom_56 2 rfl ?_
      refine J_bipush E 7 dX6_copyFrom_57 (by decide) ?_
      refine J_icmp_ge E 92 dX6_copyFrom_59 (by decide) (fun c56 => ?_) (fun c56 => ?_)
      · have b57 : Bd x54 7 7 := Bd.le_r c56 (Bd.lit 7 7 (by decide)) b55 7 (by decide)
        refine J_aload_n E dX6_copyFrom_92 0 rfl ?_
        refine J_getR E in_X6 rfl (S_X6.h S0) 6 (by decide) wd207 rfl dX6_copyFrom_93 ?_
        refine J_aload_n E dX6_copyFrom_96 1 rfl ?_
        refine J_getR E in_X6 rfl (S_X6.h S_0) 6 (by decide) wd207 rfl dX6_copyFrom_97 ?_
        refine J_callVNV E cal_X2_copyFrom wd571 rfl (S_X2.h (S_X6.f6 S0)) [.ref (rf G h_0 6)] [] (ct_X2_copyFrom l D dA G v50 w51 (o52) (rf G h0 6) (S_X6.f6 S0) (rf G h_0 6) (S_X6.f6 S_0)) rfl rfl (Nat.le_of_ble_eq_true rfl) ⟨rfl, rfl⟩ ⟨Nat.le_of_ble_eq_true rfl, Nat.le_of_ble_eq_true rfl⟩ dX6_copyFrom_100 (fun v58 w59 p60 => ?_)
        have o62 := p60.1
        have k63 : Kp G v v58 := (k53).tr p60.2.1
        refine J_aload_n E dX6_copyFrom_103 0 rfl ?_
        refine J_aload_n E dX6_copyFrom_104 1 rfl ?_
        refine J_getI E in_X6 rfl (S_X6.h S_0) 8 (by decide) wd211 rfl dX6_copyFrom_105 (fun x64 e65 => ?_)
        have b66 : Bd x64 0 8 := Ok.fd o62 e65 (S_X6.h S_0) rfl
        refine J_pI E in_X6 rfl (S_X6.h S0) 8 (by decide) wd211 tyX6 tyX6_ok nmX6 rfl rfl .int (by decide +kernel) rfl rfl dX6_copyFrom_108 (fun v67 e68 => ?_)
        have o69 : Ok G v67 w59 := Ok.pf o62 e68 (S_X6.h S0) rfl b66
        have k70 : Kp G v v67 := Kp.pf k63 e68 (S_X6.h S0) rfl
        have e71 : x64 = v67 h0 8 := by rw [e68, stv_s]
        refine J_iconst E 0 dX6_copyFrom_111 (by decide) ?_
        refine J_istore_n E [(2, .int 0), (0, .ref h0), (1, .ref h_0)] dX6_copyFrom_112 rfl (by decide) rfl ?_
        exact J.sub [1, 2, 0] rfl (J113 9 v67 w59 (o69) (k70) 0 ((Bd.lit 0 0 (by decide)).w 0 8 (by decide)) (Mu.start _ (Bd.lit 0 0 (by decide)) (by decide)))
      · have b72 : Bd x54 0 6 := Bd.lt_l (nle c56) b55 (Bd.lit 7 7 (by decide)) 6 (by decide)
        refine J_aload_n E dX6_copyFrom_62 0 rfl ?_
        refine J_getR E in_X6 rfl (S_X6.h S0) 4 (by decide) wd203 rfl dX6_copyFrom_63 ?_
        refine J_iload_n E dX6_copyFrom_66 2 rfl ?_
        refine J_aload_n E dX6_copyFrom_67 1 rfl ?_
        refine J_getR E in_X6 rfl (S_X6.h S_0) 4 (by decide) wd203 rfl dX6_copyFrom_68 ?_
        refine J_iload_n E dX6_copyFrom_71 2 rfl ?_
        refine J_iald1 E (S_X6.f4 S_0) (Bd.in b72 (by decide)) dX6_copyFrom_72 (fun x73 e74 => ?_)
        refine J_iast1 E (S_X6.f4 S0) (Bd.in b72 (by decide)) dX6_copyFrom_73 (fun v75 e76 => ?_)
        have o77 : Ok G v75 w51 := by rw [e76]; exact Ok.sv o52 (S_X6.f4 S0) b72 (Bd.any x73) 0 7 (by decide) (by decide +kernel)
        have k78 : Kp G v v75 := by rw [e76]; exact Kp.sv k53 (S_X6.f4 S0) b72 0 7 I0 I1 (by decide) (by decide +kernel)
        refine J_aload_n E dX6_copyFrom_74 0 rfl ?_
        refine J_getR E in_X6 rfl (S_X6.h S0) 5 (by decide) wd205 rfl dX6_copyFrom_75 ?_
        refine J_iload_n E dX6_copyFrom_78 2 rfl ?_
        refine J_aload_n E dX6_copyFrom_79 1 rfl ?_
        refine J_getR E in_X6 rfl (S_X6.h S_0) 5 (by decide) wd205 rfl dX6_copyFrom_80 ?_
        refine J_iload_n E dX6_copyFrom_83 2 rfl ?_
        refine J_iald1 E (S_X6.f5 S_0) (Bd.in b72 (by decide)) dX6_copyFrom_84 (fun x79 e80 => ?_)
        refine J_iast1 E (S_X6.f5 S0) (Bd.in b72 (by decide)) dX6_copyFrom_85 (fun v81 e82 => ?_)
        have o83 : Ok G v81 w51 := by rw [e82]; exact Ok.sv o77 (S_X6.f5 S0) b72 (Bd.any x79) 0 7 (by decide) (by decide +kernel)
        have k84 : Kp G v v81 := by rw [e82]; exact Kp.sv k78 (S_X6.f5 S0) b72 0 7 I0 I1 (by decide) (by decide +kernel)
        refine J_iinc E 2 1 (fun z => [(2, .int z), (0, .ref h0), (1, .ref h_0)]) dX6_copyFrom_86 rfl (by decide) (by decide) (fun _ => rfl) (fun x85 e86 => ?_)
        have b87 : Bd x85 1 7 := (Bd.add e86 b72 (Bd.lit 1 1 (by decide)) (by decide)).w _ _ (by decide)
        refine J_goto E 56 dX6_copyFrom_89 (by decide) ?_
        exact J.sub [1, 2, 0] rfl (ih56 v81 w51 (o83) (k84) x85 (b87.w 0 7 (by decide)) (Mu.step hmu56 e86 b72 (Bd.lit 1 1 (by decide)) (by decide)))
  have J18 : ∀ n : Nat, ∀ (v88 : Mv) (w89 : Mw), Ok G v88 w89 → Kp G v v88 → ∀ x92 : Int32, Bd x92 0 7 → Mu x92 7 n → J p l e rm_X6_copyFrom s m args below meth c 0 0 (MQ below (QcV D dA G (fun v1 w1 => Ok G v1 w1 ∧ Kp G v v1 ∧ True)) args s 0 0 (dm G)) D dA G (dm G) s.heap 3 v88 w89 [(0, .ref h0), (1, .ref h_0), (2, .int x92)] 18 [] := by
    intro n
    induction n with
    | zero => intro v88 w89 o90 k91 x92 b93 hm; exact hm.zero b93 (by decide)
    | succ n ih18 =>
      intro v88 w89 o90 k91 x92 b93 hmu18
      refine J_iload_n E dX6_copyFrom_18 2 rfl ?_
      refine J_bipush E 7 dX6_copyFrom_19 (by decide) ?_
      refine J_icmp_ge E 54 dX6_copyFrom_21 (by decide) (fun c94 => ?_) (fun c94 => ?_)
      · have b95 : Bd x92 7 7 := Bd.le_r c94 (Bd.lit 7 7 (by decide)) b93 7 (by decide)
        refine J_iconst E 0 dX6_copyFrom_54 (by decide) ?_
        refine J_istore_n E [(2, .int 0), (0, .ref h0), (1, .ref h_0)] dX6_copyFrom_55 rfl (by decide) rfl ?_
        exact J.sub [1, 2, 0] rfl (J56 8 v88 w89 (o90) (k91) 0 ((Bd.lit 0 0 (by decide)).w 0 7 (by decide)) (Mu.start _ (Bd.lit 0 0 (by decide)) (by decide)))
      · have b96 : Bd x92 0 6 := Bd.lt_l (nle c94) b93 (Bd.lit 7 7 (by decide)) 6 (by decide)
        refine J_aload_n E dX6_copyFrom_24 0 rfl ?_
        refine J_getR E in_X6 rfl (S_X6.h S0) 1 (by decide) wd195 rfl dX6_copyFrom_25 ?_
        refine J_iload_n E dX6_copyFrom_28 2 rfl ?_
        refine J_aload_n E dX6_copyFrom_29 1 rfl ?_
        refine J_getR E in_X6 rfl (S_X6.h S_0) 1 (by decide) wd195 rfl dX6_copyFrom_30 ?_
        refine J_iload_n E dX6_copyFrom_33 2 rfl ?_
        refine J_iald1 E (S_X6.f1 S_0) (Bd.in b96 (by decide)) dX6_copyFrom_34 (fun x97 e98 => ?_)
        refine J_iast1 E (S_X6.f1 S0) (Bd.in b96 (by decide)) dX6_copyFrom_35 (fun v99 e100 => ?_)
        have o101 : Ok G v99 w89 := by rw [e100]; exact Ok.sv o90 (S_X6.f1 S0) b96 (Bd.any x97) 0 7 (by decide) (by decide +kernel)
        have k102 : Kp G v v99 := by rw [e100]; exact Kp.sv k91 (S_X6.f1 S0) b96 0 7 I0 I1 (by decide) (by decide +kernel)
        refine J_aload_n E dX6_copyFrom_36 0 rfl ?_
        refine J_getR E in_X6 rfl (S_X6.h S0) 2 (by decide) wd197 rfl dX6_copyFrom_37 ?_
        refine J_iload_n E dX6_copyFrom_40 2 rfl ?_
        refine J_aload_n E dX6_copyFrom_41 1 rfl ?_
        refine J_getR E in_X6 rfl (S_X6.h S_0) 2 (by decide) wd197 rfl dX6_copyFrom_42 ?_
        refine J_iload_n E dX6_copyFrom_45 2 rfl ?_
        refine J_iald1 E (S_X6.f2 S_0) (Bd.in b96 (by decide)) dX6_copyFrom_46 (fun x103 e104 => ?_)
        refine J_iast1 E (S_X6.f2 S0) (Bd.in b96 (by decide)) dX6_copyFrom_47 (fun v105 e106 => ?_)
        have o107 : Ok G v105 w89 := by rw [e106]; exact Ok.sv o101 (S_X6.f2 S0) b96 (Bd.any x103) 0 7 (by decide) (by decide +kernel)
        have k108 : Kp G v v105 := by rw [e106]; exact Kp.sv k102 (S_X6.f2 S0) b96 0 7 I0 I1 (by decide) (by decide +kernel)
        refine J_iinc E 2 1 (fun z => [(2, .int z), (0, .ref h0), (1, .ref h_0)]) dX6_copyFrom_48 rfl (by decide) (by decide) (fun _ => rfl) (fun x109 e110 => ?_)
        have b111 : Bd x109 1 7 := (Bd.add e110 b96 (Bd.lit 1 1 (by decide)) (by decide)).w _ _ (by decide)
        refine J_goto E 18 dX6_copyFrom_51 (by decide) ?_
        exact J.sub [1, 2, 0] rfl (ih18 v105 w89 (o107) (k108) x109 (b111.w 0 7 (by decide)) (Mu.step hmu18 e110 b96 (Bd.lit 1 1 (by decide)) (by decide)))
  refine J_aload_n E dX6_copyFrom_0 0 rfl ?_
  refine J_aload_n E dX6_copyFrom_1 1 rfl ?_
  refine J_getI E in_X6 rfl (S_X6.h S_0) 0 (by decide) wd191 rfl dX6_copyFrom_2 (fun x112 e113 => ?_)
  have b114 : Bd x112 0 7 := Ok.fd hOk e113 (S_X6.h S_0) rfl
  refine J_pI E in_X6 rfl (S_X6.h S0) 0 (by decide) wd191 tyX6 tyX6_ok nmX6 rfl rfl .int (by decide +kernel) rfl rfl dX6_copyFrom_5 (fun v115 e116 => ?_)
  have o117 : Ok G v115 w := Ok.pf hOk e116 (S_X6.h S0) rfl b114
  have k118 : Kp G v v115 := Kp.pf Kp.rf e116 (S_X6.h S0) rfl
  have e119 : x112 = v115 h0 0 := by rw [e116, stv_s]
  refine J_aload_n E dX6_copyFrom_8 0 rfl ?_
  refine J_aload_n E dX6_copyFrom_9 1 rfl ?_
  refine J_getI E in_X6 rfl (S_X6.h S_0) 3 (by decide) wd201 rfl dX6_copyFrom_10 (fun x120 e121 => ?_)
  have b122 : Bd x120 0 7 := Ok.fd o117 e121 (S_X6.h S_0) rfl
  refine J_pI E in_X6 rfl (S_X6.h S0) 3 (by decide) wd201 tyX6 tyX6_ok nmX6 rfl rfl .int (by decide +kernel) rfl rfl dX6_copyFrom_13 (fun v123 e124 => ?_)
  have o125 : Ok G v123 w := Ok.pf o117 e124 (S_X6.h S0) rfl b122
  have k126 : Kp G v v123 := Kp.pf k118 e124 (S_X6.h S0) rfl
  have e127 : x112 = v123 h0 0 := by rw [e124, stv_k (by decide)]; exact e119
  have e128 : x120 = v123 h0 3 := by rw [e124, stv_s]
  refine J_iconst E 0 dX6_copyFrom_16 (by decide) ?_
  refine J_istore_n E [(2, .int 0), (0, .ref h0), (1, .ref h_0)] dX6_copyFrom_17 rfl (by decide) rfl ?_
  exact J.sub [1, 2, 0] rfl (J18 8 v123 w (o125) (k126) 0 ((Bd.lit 0 0 (by decide)).w 0 7 (by decide)) (Mu.start _ (Bd.lit 0 0 (by decide)) (by decide)))

abbrev rm_X6_hasOne : Room := { frames := 0, cells := 0, slots := 0, locals := 0 }
set_option maxHeartbeats 4000000 in
set_option maxRecDepth 100000 in
theorem ct_X6_hasOne (l : Launch) (D : va_G) (dA : Nat → ClassId) (G : Gm) (v : Mv) (w : Mw) (hOk : Ok G v w) (h0 : Nat) (S0 : S_X6 G h0) (x_0 : Int32) : CtI l yX6_hasOne cX6_hasOne 2 (some .boolean) rm_X6_hasOne D dA G [.ref h0, .int x_0] v w (fun r v1 w1 => v1 = v ∧ w1 = w ∧ Bd r 0 1 ∧ (r = 0 ∨ Bd x_0 0 6)) := by
  refine CtI.of RX6 [(0, .ref h0), (1, .int x_0)] (Nat.le_of_ble_eq_true rfl) rfl (by decide) rfl ?_
  intro p e s m args below meth c E hr
  refine J_iload_n E dX6_hasOne_0 1 rfl ?_
  refine J_if_lt E 16 dX6_hasOne_1 (by decide) (fun c1 => ?_) (fun c1 => ?_)
  · have b2 : Bd x_0 I0 (-1) := Bd.lt_l c1 (Bd.any x_0) (Bd.lit 0 0 (by decide)) (-1) (by decide)
    refine J_iconst E 0 dX6_hasOne_16 (by decide) ?_
    exact J_zret E hr (Bd.z (Bd.lit 0 0 (by decide)) (by decide)) dX6_hasOne_17 ⟨rfl, rfl, ((Bd.lit 0 0 (by decide)).w 0 1 (by decide)), (Or.inl rfl)⟩
  · have b3 : Bd x_0 0 I1 := Bd.le_r (nlt c1) (Bd.lit 0 0 (by decide)) (Bd.any x_0) 0 (by decide)
    refine J_iload_n E dX6_hasOne_4 1 rfl ?_
    refine J_aload_n E dX6_hasOne_5 0 rfl ?_
    refine J_getI E in_X6 rfl (S_X6.h S0) 3 (by decide) wd201 rfl dX6_hasOne_6 (fun x4 e5 => ?_)
    have b6 : Bd x4 0 7 := Ok.fd hOk e5 (S_X6.h S0) rfl
    refine J_icmp_ge E 16 dX6_hasOne_9 (by decide) (fun c7 => ?_) (fun c7 => ?_)
    · refine J_iconst E 0 dX6_hasOne_16 (by decide) ?_
      exact J_zret E hr (Bd.z (Bd.lit 0 0 (by decide)) (by decide)) dX6_hasOne_17 ⟨rfl, rfl, ((Bd.lit 0 0 (by decide)).w 0 1 (by decide)), (Or.inl rfl)⟩
    · have b8 : Bd x_0 0 6 := Bd.lt_l (nle c7) b3 b6 6 (by decide)
      have b9 : Bd x4 1 7 := Bd.lt_r (nle c7) b3 b6 1 (by decide)
      refine J_iconst E 1 dX6_hasOne_12 (by decide) ?_
      refine J_goto E 17 dX6_hasOne_13 (by decide) ?_
      exact J_zret E hr (Bd.z (Bd.lit 1 1 (by decide)) (by decide)) dX6_hasOne_17 ⟨rfl, rfl, ((Bd.lit 1 1 (by decide)).w 0 1 (by decide)), (Or.inr b8)⟩

abbrev rm_X6_bringBack : Room := { frames := 1, cells := 0, slots := 0, locals := 22 }
set_option maxHeartbeats 4000000 in
set_option maxRecDepth 100000 in
theorem ct_X6_bringBack (l : Launch) (D : va_G) (dA : Nat → ClassId) (G : Gm) (v : Mv) (w : Mw) (hOk : Ok G v w) (h0 : Nat) (S0 : S_X6 G h0) (z_0 : Int32) (ez_0 : z_0 = v h0 8) (pre0 : Bd z_0 1 8) : CtV l yX6_bringBack cX6_bringBack 1 none rm_X6_bringBack D dA G [.ref h0] v w (fun v1 w1 => Ok G v1 w1 ∧ Kp G v v1 ∧ True) := by
  refine CtV.of RX6 [(0, .ref h0)] (Nat.le_of_ble_eq_true rfl) rfl (by decide) rfl ?_
  intro p e s m args below meth c E hr
  refine J_aload_n E dX6_bringBack_0 0 rfl ?_
  refine J_dup E dX6_bringBack_1 rfl ?_
  refine J_getI E in_X6 rfl (S_X6.h S0) 8 (by decide) wd211 rfl dX6_bringBack_2 (fun x1 e2 => ?_)
  rw [show x1 = z_0 from e2.trans (ez_0).symm]
  refine J_iconst E 1 dX6_bringBack_5 (by decide) ?_
  refine J_isub E dX6_bringBack_6 (fun x3 e4 => ?_)
  have b5 : Bd x3 0 7 := (Bd.sub e4 pre0 (Bd.lit 1 1 (by decide)) (by decide)).w _ _ (by decide)
  refine J_pI E in_X6 rfl (S_X6.h S0) 8 (by decide) wd211 tyX6 tyX6_ok nmX6 rfl rfl .int (by decide +kernel) rfl rfl dX6_bringBack_7 (fun v6 e7 => ?_)
  have o8 : Ok G v6 w := Ok.pf hOk e7 (S_X6.h S0) rfl (b5.w 0 8 (by decide))
  have k9 : Kp G v v6 := Kp.pf Kp.rf e7 (S_X6.h S0) rfl
  have e10 : x3 = v6 h0 8 := by rw [e7, stv_s]
  refine J_aload_n E dX6_bringBack_10 0 rfl ?_
  refine J_getR E in_X6 rfl (S_X6.h S0) 6 (by decide) wd207 rfl dX6_bringBack_11 ?_
  refine J_aload_n E dX6_bringBack_14 0 rfl ?_
  refine J_getR E in_X6 rfl (S_X6.h S0) 7 (by decide) wd210 rfl dX6_bringBack_15 ?_
  refine J_aload_n E dX6_bringBack_18 0 rfl ?_
  refine J_getI E in_X6 rfl (S_X6.h S0) 8 (by decide) wd211 rfl dX6_bringBack_19 (fun x11 e12 => ?_)
  rw [show x11 = x3 from e12.trans (e10).symm]
  have hi16 := Bd.in (n := 8) b5 (by decide)
  obtain ⟨q13, hq14, hw15⟩ := Ok.el o8 (S_X6.f7 S0).1 hi16
  refine J_aald4 E (S_X6.f7 S0).1 hi16 hw15 dX6_bringBack_22 ?_
  have S17 := (S_X6.f7 S0).2 q13 hq14
  refine J_callVNV E cal_X2_copyFrom wd571 rfl (S_X2.h (S_X6.f6 S0)) [.ref q13] [] (ct_X2_copyFrom l D dA G v6 w (o8) (rf G h0 6) (S_X6.f6 S0) q13 S17) rfl rfl (Nat.le_of_ble_eq_true rfl) ⟨rfl, rfl⟩ ⟨Nat.le_of_ble_eq_true rfl, Nat.le_of_ble_eq_true rfl⟩ dX6_bringBack_23 (fun v18 w19 p20 => ?_)
  have o22 := p20.1
  have k23 : Kp G v v18 := (k9).tr p20.2.1
  exact J_vret E hr dX6_bringBack_26 ⟨o22, k23, trivial⟩

abbrev rm_X6_countOwned : Room := { frames := 0, cells := 0, slots := 0, locals := 0 }
set_option maxHeartbeats 4000000 in
set_option maxRecDepth 100000 in
theorem ct_X6_countOwned (l : Launch) (D : va_G) (dA : Nat → ClassId) (G : Gm) (v : Mv) (w : Mw) (hOk : Ok G v w) (h0 : Nat) (S0 : S_X6 G h0) : CtI l yX6_countOwned cX6_countOwned 3 (some .int) rm_X6_countOwned D dA G [.ref h0] v w (fun r v1 w1 => v1 = v ∧ w1 = w ∧ True ∧ True) := by
  refine CtI.of RX6 [(0, .ref h0)] (Nat.le_of_ble_eq_true rfl) rfl (by decide) rfl ?_
  intro p e s m args below meth c E hr
  have J4 : ∀ n : Nat, ∀ x1 : Int32, ∀ x2 : Int32, Bd x2 0 7 → Mu x2 7 n → J p l e rm_X6_countOwned s m args below meth c 0 0 (MQ below (QcI D dA G (fun r v1 w1 => v1 = v ∧ w1 = w ∧ True ∧ True)) args s 0 0 (dm G)) D dA G (dm G) s.heap 3 v w [(0, .ref h0), (1, .int x1), (2, .int x2)] 4 [] := by
    intro n
    induction n with
    | zero => intro x1 x2 b3 hm; exact hm.zero b3 (by decide)
    | succ n ih4 =>
      intro x1 x2 b3 hmu4
      have J28 : ∀ x4 : Int32, Bd x2 0 6 → J p l e rm_X6_countOwned s m args below meth c 0 0 (MQ below (QcI D dA G (fun r v1 w1 => v1 = v ∧ w1 = w ∧ True ∧ True)) args s 0 0 (dm G)) D dA G (dm G) s.heap 3 v w [(0, .ref h0), (1, .int x4), (2, .int x2)] 28 [] := by
        intro x4 b5
        refine J_iinc E 2 1 (fun z => [(2, .int z), (0, .ref h0), (1, .int x4)]) dX6_countOwned_28 rfl (by decide) (by decide) (fun _ => rfl) (fun x6 e7 => ?_)
        have b8 : Bd x6 1 7 := (Bd.add e7 b5 (Bd.lit 1 1 (by decide)) (by decide)).w _ _ (by decide)
        refine J_goto E 4 dX6_countOwned_31 (by decide) ?_
        exact J.sub [1, 2, 0] rfl (ih4 x4 x6 (b8.w 0 7 (by decide)) (Mu.step hmu4 e7 b5 (Bd.lit 1 1 (by decide)) (by decide)))
      refine J_iload_n E dX6_countOwned_4 2 rfl ?_
      refine J_aload_n E dX6_countOwned_5 0 rfl ?_
      refine J_getI E in_X6 rfl (S_X6.h S0) 3 (by decide) wd201 rfl dX6_countOwned_6 (fun x9 e10 => ?_)
      have b11 : Bd x9 0 7 := Ok.fd hOk e10 (S_X6.h S0) rfl
      refine J_icmp_ge E 34 dX6_countOwned_9 (by decide) (fun c12 => ?_) (fun c12 => ?_)
      · refine J_iload_n E dX6_countOwned_34 1 rfl ?_
        exact J_iret E hr dX6_countOwned_35 ⟨rfl, rfl, trivial, trivial⟩
      · have b13 : Bd x2 0 6 := Bd.lt_l (nle c12) b3 b11 6 (by decide)
        have b14 : Bd x9 1 7 := Bd.lt_r (nle c12) b3 b11 1 (by decide)
        refine J_aload_n E dX6_countOwned_12 0 rfl ?_
        refine J_getR E in_X6 rfl (S_X6.h S0) 6 (by decide) wd207 rfl dX6_countOwned_13 ?_
        refine J_getRN E in_X2 rfl (S_X2.h (S_X6.f6 S0)) 1 (by decide) wd153 rfl dX6_countOwned_16 ?_
        refine J_iload_n E dX6_countOwned_19 2 rfl ?_
        refine J_iald1 E (S_X2.f1 (S_X6.f6 S0)) (Bd.in b13 (by decide)) dX6_countOwned_20 (fun x15 e16 => ?_)
        refine J_iconst E (-1) dX6_countOwned_21 (by decide) ?_
        refine J_icmp_eq E 28 dX6_countOwned_22 (by decide) (fun c17 => ?_) (fun c17 => ?_)
        · have b18 : Bd x15 (-1) (-1) := Bd.eq_l c17 (Bd.any x15) (Bd.lit (-1) (-1) (by decide)) (-1) (-1) (by decide)
          exact J.sub [0, 1, 2] rfl (J28 x1 b13)
        · refine J_iinc E 1 1 (fun z => [(1, .int z), (0, .ref h0), (2, .int x2)]) dX6_countOwned_25 rfl (by decide) (by decide) (fun _ => rfl) (fun x19 e20 => ?_)
          exact J.sub [1, 0, 2] rfl (J28 x19 b13)
  refine J_iconst E 0 dX6_countOwned_0 (by decide) ?_
  refine J_istore_n E [(1, .int 0), (0, .ref h0)] dX6_countOwned_1 rfl (by decide) rfl ?_
  refine J_iconst E 0 dX6_countOwned_2 (by decide) ?_
  refine J_istore_n E [(2, .int 0), (1, .int 0), (0, .ref h0)] dX6_countOwned_3 rfl (by decide) rfl ?_
  exact J.sub [2, 1, 0] rfl (J4 8 0 0 ((Bd.lit 0 0 (by decide)).w 0 7 (by decide)) (Mu.start _ (Bd.lit 0 0 (by decide)) (by decide)))

abbrev rm_X6_factOfOne : Room := { frames := 1, cells := 0, slots := 0, locals := 21 }
set_option maxHeartbeats 4000000 in
set_option maxRecDepth 100000 in
theorem ct_X6_factOfOne (l : Launch) (D : va_G) (dA : Nat → ClassId) (G : Gm) (v : Mv) (w : Mw) (hOk : Ok G v w) (h0 : Nat) (S0 : S_X6 G h0) (x_0 : Int32) (bx_0 : Bd x_0 0 6) (x_1 : Int32) (bx_1 : Bd x_1 0 4) : CtI l yX6_factOfOne cX6_factOfOne 3 (some .int) rm_X6_factOfOne D dA G [.ref h0, .int x_0, .int x_1] v w (fun r v1 w1 => v1 = v ∧ w1 = w ∧ True ∧ True) := by
  refine CtI.of RX6 [(0, .ref h0), (1, .int x_0), (2, .int x_1)] (Nat.le_of_ble_eq_true rfl) rfl (by decide) rfl ?_
  intro p e s m args below meth c E hr
  refine J_iload_n E dX6_factOfOne_0 2 rfl ?_
  by_cases h1 : x_1.toInt = 0
  · refine J_tabIn E 0 32 dX6_factOfOne_1 h1 (by decide) (by decide) rfl (by decide) ?_
    have b2 : Bd x_1 0 0 := ⟨by omega, by omega⟩
    refine J_aload_n E dX6_factOfOne_32 0 rfl ?_
    refine J_getR E in_X6 rfl (S_X6.h S0) 4 (by decide) wd203 rfl dX6_factOfOne_33 ?_
    refine J_iload_n E dX6_factOfOne_36 1 rfl ?_
    refine J_iald1 E (S_X6.f4 S0) (Bd.in bx_0 (by decide)) dX6_factOfOne_37 (fun x3 e4 => ?_)
    exact J_iret E hr dX6_factOfOne_38 ⟨rfl, rfl, trivial, trivial⟩
  by_cases h5 : x_1.toInt = 1
  · refine J_tabIn E 1 39 dX6_factOfOne_1 h5 (by decide) (by decide) rfl (by decide) ?_
    have b6 : Bd x_1 1 1 := ⟨by omega, by omega⟩
    refine J_aload_n E dX6_factOfOne_39 0 rfl ?_
    refine J_getR E in_X6 rfl (S_X6.h S0) 5 (by decide) wd205 rfl dX6_factOfOne_40 ?_
    refine J_iload_n E dX6_factOfOne_43 1 rfl ?_
    refine J_iald1 E (S_X6.f5 S0) (Bd.in bx_0 (by decide)) dX6_factOfOne_44 (fun x7 e8 => ?_)
    exact J_iret E hr dX6_factOfOne_45 ⟨rfl, rfl, trivial, trivial⟩
  by_cases h9 : x_1.toInt = 2
  · refine J_tabIn E 2 46 dX6_factOfOne_1 h9 (by decide) (by decide) rfl (by decide) ?_
    have b10 : Bd x_1 2 2 := ⟨by omega, by omega⟩
    refine J_aload_n E dX6_factOfOne_46 0 rfl ?_
    refine J_getR E in_X6 rfl (S_X6.h S0) 6 (by decide) wd207 rfl dX6_factOfOne_47 ?_
    refine J_getRN E in_X2 rfl (S_X2.h (S_X6.f6 S0)) 0 (by decide) wd151 rfl dX6_factOfOne_50 ?_
    refine J_iload_n E dX6_factOfOne_53 1 rfl ?_
    refine J_iald1 E (S_X2.f0 (S_X6.f6 S0)) (Bd.in bx_0 (by decide)) dX6_factOfOne_54 (fun x11 e12 => ?_)
    exact J_iret E hr dX6_factOfOne_55 ⟨rfl, rfl, trivial, trivial⟩
  by_cases h13 : x_1.toInt = 3
  · refine J_tabIn E 3 56 dX6_factOfOne_1 h13 (by decide) (by decide) rfl (by decide) ?_
    have b14 : Bd x_1 3 3 := ⟨by omega, by omega⟩
    refine J_aload_n E dX6_factOfOne_56 0 rfl ?_
    refine J_getR E in_X6 rfl (S_X6.h S0) 6 (by decide) wd207 rfl dX6_factOfOne_57 ?_
    refine J_getRN E in_X2 rfl (S_X2.h (S_X6.f6 S0)) 1 (by decide) wd153 rfl dX6_factOfOne_60 ?_
    refine J_iload_n E dX6_factOfOne_63 1 rfl ?_
    refine J_iald1 E (S_X2.f1 (S_X6.f6 S0)) (Bd.in bx_0 (by decide)) dX6_factOfOne_64 (fun x15 e16 => ?_)
    exact J_iret E hr dX6_factOfOne_65 ⟨rfl, rfl, trivial, trivial⟩
  refine J_tabOut (x := x_1) E 66 dX6_factOfOne_1 (by have := bx_1; simp only [Bd, I0, I1] at this; omega) (by decide) ?_
  refine J_aload_n E dX6_factOfOne_66 0 rfl ?_
  refine J_getR E in_X6 rfl (S_X6.h S0) 6 (by decide) wd207 rfl dX6_factOfOne_67 ?_
  refine J_iload_n E dX6_factOfOne_70 1 rfl ?_
  refine J_callVNI E cal_X2_isHere wd496 rfl (S_X2.h (S_X6.f6 S0)) [.int x_0] [] (ct_X2_isHere l D dA G v w (hOk) (rf G h0 6) (S_X6.f6 S0) x_0 bx_0) rfl rfl (Nat.le_of_ble_eq_true rfl) ⟨rfl, rfl⟩ ⟨Nat.le_of_ble_eq_true rfl, Nat.le_of_ble_eq_true rfl⟩ dX6_factOfOne_71 (fun x20 v17 w18 p19 => ?_)
  rw [p19.1, p19.2.1]
  have b21 : Bd x20 0 1 := p19.2.2.1
  refine J_if_eq E 81 dX6_factOfOne_74 (by decide) (fun c22 => ?_) (fun c22 => ?_)
  · have b23 : Bd x20 0 0 := Bd.eq_l c22 b21 (Bd.lit 0 0 (by decide)) 0 0 (by decide)
    refine J_iconst E 0 dX6_factOfOne_81 (by decide) ?_
    exact J_iret E hr dX6_factOfOne_82 ⟨rfl, rfl, trivial, trivial⟩
  · have b24 : Bd x20 1 1 := (Bd.ne_lo c22 b21 (Bd.lit 0 0 (by decide))).w _ _ (by decide)
    refine J_iconst E 1 dX6_factOfOne_77 (by decide) ?_
    refine J_goto E 82 dX6_factOfOne_78 (by decide) ?_
    exact J_iret E hr dX6_factOfOne_82 ⟨rfl, rfl, trivial, trivial⟩

abbrev rm_X6_toldWeight : Room := { frames := 0, cells := 0, slots := 0, locals := 0 }
set_option maxHeartbeats 4000000 in
set_option maxRecDepth 100000 in
theorem ct_X6_toldWeight (l : Launch) (D : va_G) (dA : Nat → ClassId) (G : Gm) (v : Mv) (w : Mw) (hOk : Ok G v w) (h0 : Nat) (S0 : S_X6 G h0) (x_0 : Int32) (bx_0 : Bd x_0 0 127) : CtI l yX6_toldWeight cX6_toldWeight 4 (some .int) rm_X6_toldWeight D dA G [.ref h0, .int x_0] v w (fun r v1 w1 => v1 = v ∧ w1 = w ∧ True ∧ True) := by
  refine CtI.of RX6 [(0, .ref h0), (1, .int x_0)] (Nat.le_of_ble_eq_true rfl) rfl (by decide) rfl ?_
  intro p e s m args below meth c E hr
  have J4 : ∀ n : Nat, Bd x_0 0 127 → ∀ x2 : Int32, ∀ x3 : Int32, Bd x3 0 7 → Mu x3 7 n → J p l e rm_X6_toldWeight s m args below meth c 0 0 (MQ below (QcI D dA G (fun r v1 w1 => v1 = v ∧ w1 = w ∧ True ∧ True)) args s 0 0 (dm G)) D dA G (dm G) s.heap 4 v w [(0, .ref h0), (1, .int x_0), (2, .int x2), (3, .int x3)] 4 [] := by
    intro n
    induction n with
    | zero => intro b1 x2 x3 b4 hm; exact hm.zero b4 (by decide)
    | succ n ih4 =>
      intro b1 x2 x3 b4 hmu4
      have J30 : Bd x_0 0 127 → ∀ x6 : Int32, Bd x3 0 6 → J p l e rm_X6_toldWeight s m args below meth c 0 0 (MQ below (QcI D dA G (fun r v1 w1 => v1 = v ∧ w1 = w ∧ True ∧ True)) args s 0 0 (dm G)) D dA G (dm G) s.heap 4 v w [(0, .ref h0), (1, .int x_0), (2, .int x6), (3, .int x3)] 30 [] := by
        intro b5 x6 b7
        refine J_iinc E 3 1 (fun z => [(3, .int z), (0, .ref h0), (1, .int x_0), (2, .int x6)]) dX6_toldWeight_30 rfl (by decide) (by decide) (fun _ => rfl) (fun x8 e9 => ?_)
        have b10 : Bd x8 1 7 := (Bd.add e9 b7 (Bd.lit 1 1 (by decide)) (by decide)).w _ _ (by decide)
        refine J_goto E 4 dX6_toldWeight_33 (by decide) ?_
        exact J.sub [1, 2, 3, 0] rfl (ih4 b5 x6 x8 (b10.w 0 7 (by decide)) (Mu.step hmu4 e9 b7 (Bd.lit 1 1 (by decide)) (by decide)))
      refine J_iload_n E dX6_toldWeight_4 3 rfl ?_
      refine J_aload_n E dX6_toldWeight_5 0 rfl ?_
      refine J_getI E in_X6 rfl (S_X6.h S0) 0 (by decide) wd191 rfl dX6_toldWeight_6 (fun x11 e12 => ?_)
      have b13 : Bd x11 0 7 := Ok.fd hOk e12 (S_X6.h S0) rfl
      refine J_icmp_ge E 36 dX6_toldWeight_9 (by decide) (fun c14 => ?_) (fun c14 => ?_)
      · refine J_iload_n E dX6_toldWeight_36 2 rfl ?_
        exact J_iret E hr dX6_toldWeight_37 ⟨rfl, rfl, trivial, trivial⟩
      · have b15 : Bd x3 0 6 := Bd.lt_l (nle c14) b4 b13 6 (by decide)
        have b16 : Bd x11 1 7 := Bd.lt_r (nle c14) b4 b13 1 (by decide)
        refine J_iload_n E dX6_toldWeight_12 1 rfl ?_
        refine J_iload_n E dX6_toldWeight_13 3 rfl ?_
        refine J_ishr E dX6_toldWeight_14 (fun x17 e18 => ?_)
        have b19 : Bd x17 0 127 := Bd.shr e18 b1 (by decide)
        refine J_iconst E 1 dX6_toldWeight_15 (by decide) ?_
        refine J_iand E dX6_toldWeight_16 (fun x20 e21 => ?_)
        have b22 : Bd x20 0 1 := Bd.and_r e21 (Bd.lit 1 1 (by decide)) (by decide)
        refine J_iconst E 1 dX6_toldWeight_17 (by decide) ?_
        refine J_icmp_ne E 30 dX6_toldWeight_18 (by decide) (fun c23 => ?_) (fun c23 => ?_)
        · have b24 : Bd x20 0 0 := (Bd.ne_hi c23 b22 (Bd.lit 1 1 (by decide))).w _ _ (by decide)
          exact J.sub [0, 1, 2, 3] rfl (J30 b1 x2 b15)
        · have b25 : Bd x20 1 1 := Bd.eq_l c23 b22 (Bd.lit 1 1 (by decide)) 1 1 (by decide)
          refine J_iload_n E dX6_toldWeight_21 2 rfl ?_
          refine J_aload_n E dX6_toldWeight_22 0 rfl ?_
          refine J_getR E in_X6 rfl (S_X6.h S0) 2 (by decide) wd197 rfl dX6_toldWeight_23 ?_
          refine J_iload_n E dX6_toldWeight_26 3 rfl ?_
          refine J_iald1 E (S_X6.f2 S0) (Bd.in b15 (by decide)) dX6_toldWeight_27 (fun x26 e27 => ?_)
          refine J_iadd E dX6_toldWeight_28 (fun x28 e29 => ?_)
          refine J_istore_n E [(2, .int x28), (0, .ref h0), (1, .int x_0), (3, .int x3)] dX6_toldWeight_29 rfl (by decide) rfl ?_
          exact J.sub [1, 2, 0, 3] rfl (J30 b1 x28 b15)
  refine J_iconst E 0 dX6_toldWeight_0 (by decide) ?_
  refine J_istore_n E [(2, .int 0), (0, .ref h0), (1, .int x_0)] dX6_toldWeight_1 rfl (by decide) rfl ?_
  refine J_iconst E 0 dX6_toldWeight_2 (by decide) ?_
  refine J_istore_n E [(3, .int 0), (2, .int 0), (0, .ref h0), (1, .int x_0)] dX6_toldWeight_3 rfl (by decide) rfl ?_
  exact J.sub [2, 3, 1, 0] rfl (J4 8 bx_0 0 0 ((Bd.lit 0 0 (by decide)).w 0 7 (by decide)) (Mu.start _ (Bd.lit 0 0 (by decide)) (by decide)))

abbrev rm_X6_liftByTwo : Room := { frames := 3, cells := 0, slots := 0, locals := 67 }
set_option maxHeartbeats 4000000 in
set_option maxRecDepth 100000 in
theorem ct_X6_liftByTwo (l : Launch) (D : va_G) (dA : Nat → ClassId) (G : Gm) (v : Mv) (w : Mw) (hOk : Ok G v w) (h0 : Nat) (S0 : S_X6 G h0) (x_0 : Int32) (bx_0 : Bd x_0 0 6) (x_1 : Int32) (bx_1 : Bd x_1 0 6) (x_2 : Int32) (bx_2 : Bd x_2 1 6) : CtI l yX6_liftByTwo cX6_liftByTwo 7 (some .boolean) rm_X6_liftByTwo D dA G [.ref h0, .int x_0, .int x_1, .int x_2] v w (fun r v1 w1 => v1 = v ∧ w1 = w ∧ Bd r 0 1 ∧ True) := by
  refine CtI.of RX6 [(0, .ref h0), (1, .int x_0), (2, .int x_1), (3, .int x_2)] (Nat.le_of_ble_eq_true rfl) rfl (by decide) rfl ?_
  intro p e s m args below meth c E hr
  refine J_aload_n E dX6_liftByTwo_0 0 rfl ?_
  refine J_getR E in_X6 rfl (S_X6.h S0) 6 (by decide) wd207 rfl dX6_liftByTwo_1 ?_
  refine J_iload_n E dX6_liftByTwo_4 2 rfl ?_
  refine J_callVNI E cal_X2_isHere wd496 rfl (S_X2.h (S_X6.f6 S0)) [.int x_1] [] (ct_X2_isHere l D dA G v w (hOk) (rf G h0 6) (S_X6.f6 S0) x_1 bx_1) rfl rfl (Nat.le_of_ble_eq_true rfl) ⟨rfl, rfl⟩ ⟨Nat.le_of_ble_eq_true rfl, Nat.le_of_ble_eq_true rfl⟩ dX6_liftByTwo_5 (fun x4 v1 w2 p3 => ?_)
  rw [p3.1, p3.2.1]
  have b5 : Bd x4 0 1 := p3.2.2.1
  refine J_if_eq E 22 dX6_liftByTwo_8 (by decide) (fun c6 => ?_) (fun c6 => ?_)
  · have b7 : Bd x4 0 0 := Bd.eq_l c6 b5 (Bd.lit 0 0 (by decide)) 0 0 (by decide)
    refine J_iconst E 0 dX6_liftByTwo_22 (by decide) ?_
    exact J_zret E hr (Bd.z (Bd.lit 0 0 (by decide)) (by decide)) dX6_liftByTwo_23 ⟨rfl, rfl, ((Bd.lit 0 0 (by decide)).w 0 1 (by decide)), trivial⟩
  · have b8 : Bd x4 1 1 := (Bd.ne_lo c6 b5 (Bd.lit 0 0 (by decide))).w _ _ (by decide)
    refine J_aload_n E dX6_liftByTwo_11 0 rfl ?_
    refine J_getR E in_X6 rfl (S_X6.h S0) 6 (by decide) wd207 rfl dX6_liftByTwo_12 ?_
    refine J_iload_n E dX6_liftByTwo_15 3 rfl ?_
    refine J_callVNI E cal_X2_isHere wd496 rfl (S_X2.h (S_X6.f6 S0)) [.int x_2] [] (ct_X2_isHere l D dA G v w (hOk) (rf G h0 6) (S_X6.f6 S0) x_2 (bx_2.w 0 6 (by decide))) rfl rfl (Nat.le_of_ble_eq_true rfl) ⟨rfl, rfl⟩ ⟨Nat.le_of_ble_eq_true rfl, Nat.le_of_ble_eq_true rfl⟩ dX6_liftByTwo_16 (fun x12 v9 w10 p11 => ?_)
    rw [p11.1, p11.2.1]
    have b13 : Bd x12 0 1 := p11.2.2.1
    refine J_if_ne E 24 dX6_liftByTwo_19 (by decide) (fun c14 => ?_) (fun c14 => ?_)
    · have b15 : Bd x12 1 1 := (Bd.ne_lo c14 b13 (Bd.lit 0 0 (by decide))).w _ _ (by decide)
      refine J_aload_n E dX6_liftByTwo_24 0 rfl ?_
      refine J_iload_n E dX6_liftByTwo_25 1 rfl ?_
      refine J_iconst E 0 dX6_liftByTwo_26 (by decide) ?_
      refine J_callVI E cal_X6_weightOf wd603 rfl (S_X6.h S0) [.int x_0, .int 0] [] (ct_X6_weightOf l D dA G v w (hOk) h0 S0 x_0 bx_0 0 ((Bd.lit 0 0 (by decide)).w 0 60 (by decide))) rfl rfl (Nat.le_of_ble_eq_true rfl) ⟨rfl, rfl⟩ ⟨Nat.le_of_ble_eq_true rfl, Nat.le_of_ble_eq_true rfl⟩ dX6_liftByTwo_27 (fun x19 v16 w17 p18 => ?_)
      rw [p18.1, p18.2.1]
      refine J_istore E [(4, .int x19), (0, .ref h0), (1, .int x_0), (2, .int x_1), (3, .int x_2)] dX6_liftByTwo_30 (by decide) rfl ?_
      refine J_aload_n E dX6_liftByTwo_32 1 rfl ?_
      refine J_iload_n E dX6_liftByTwo_33 3 rfl ?_
      refine J_iconst E 0 dX6_liftByTwo_34 (by decide) ?_
      refine J_callVI E cal_X6_liftOf wd607 rfl (S_X6.h S0) [.int x_1, .int 0] [] (ct_X6_liftOf l D dA G v w (hOk) h0 S0 x_1 bx_1 0 ((Bd.lit 0 0 (by decide)).w 0 60 (by decide))) rfl rfl (Nat.le_of_ble_eq_true rfl) ⟨rfl, rfl⟩ ⟨Nat.le_of_ble_eq_true rfl, Nat.le_of_ble_eq_true rfl⟩ dX6_liftByTwo_35 (fun x23 v20 w21 p22 => ?_)
      rw [p22.1, p22.2.1]
      refine J_istore E [(5, .int x23), (4, .int x19), (0, .ref h0), (1, .int x_0), (2, .int x_1), (3, .int x_2)] dX6_liftByTwo_38 (by decide) rfl ?_
      refine J_aload_n E dX6_liftByTwo_40 2 rfl ?_
      refine J_iload_n E dX6_liftByTwo_41 5 rfl ?_
      refine J_iconst E 0 dX6_liftByTwo_42 (by decide) ?_
      refine J_callVI E cal_X6_liftOf wd607 rfl (S_X6.h S0) [.int x_2, .int 0] [] (ct_X6_liftOf l D dA G v w (hOk) h0 S0 x_2 (bx_2.w 0 6 (by decide)) 0 ((Bd.lit 0 0 (by decide)).w 0 60 (by decide))) rfl rfl (Nat.le_of_ble_eq_true rfl) ⟨rfl, rfl⟩ ⟨Nat.le_of_ble_eq_true rfl, Nat.le_of_ble_eq_true rfl⟩ dX6_liftByTwo_43 (fun x27 v24 w25 p26 => ?_)
      rw [p26.1, p26.2.1]
      refine J_istore E [(6, .int x27), (5, .int x23), (4, .int x19), (0, .ref h0), (1, .int x_0), (2, .int x_1), (3, .int x_2)] dX6_liftByTwo_46 (by decide) rfl ?_
      refine J_iload E dX6_liftByTwo_48 1 rfl ?_
      refine J_iload E dX6_liftByTwo_50 2 rfl ?_
      refine J_icmp_ge E 76 dX6_liftByTwo_52 (by decide) (fun c28 => ?_) (fun c28 => ?_)
      · refine J_iconst E 0 dX6_liftByTwo_76 (by decide) ?_
        exact J_zret E hr (Bd.z (Bd.lit 0 0 (by decide)) (by decide)) dX6_liftByTwo_77 ⟨rfl, rfl, ((Bd.lit 0 0 (by decide)).w 0 1 (by decide)), trivial⟩
      · refine J_iload E dX6_liftByTwo_55 0 rfl ?_
        refine J_iload E dX6_liftByTwo_57 2 rfl ?_
        refine J_icmp_ge E 76 dX6_liftByTwo_59 (by decide) (fun c29 => ?_) (fun c29 => ?_)
        · refine J_iconst E 0 dX6_liftByTwo_76 (by decide) ?_
          exact J_zret E hr (Bd.z (Bd.lit 0 0 (by decide)) (by decide)) dX6_liftByTwo_77 ⟨rfl, rfl, ((Bd.lit 0 0 (by decide)).w 0 1 (by decide)), trivial⟩
        · refine J_iload E dX6_liftByTwo_62 1 rfl ?_
          refine J_iload E dX6_liftByTwo_64 0 rfl ?_
          refine J_iadd E dX6_liftByTwo_66 (fun x30 e31 => ?_)
          refine J_iload E dX6_liftByTwo_67 2 rfl ?_
          refine J_icmp_lt E 76 dX6_liftByTwo_69 (by decide) (fun c32 => ?_) (fun c32 => ?_)
          · refine J_iconst E 0 dX6_liftByTwo_76 (by decide) ?_
            exact J_zret E hr (Bd.z (Bd.lit 0 0 (by decide)) (by decide)) dX6_liftByTwo_77 ⟨rfl, rfl, ((Bd.lit 0 0 (by decide)).w 0 1 (by decide)), trivial⟩
          · refine J_iconst E 1 dX6_liftByTwo_72 (by decide) ?_
            refine J_goto E 77 dX6_liftByTwo_73 (by decide) ?_
            exact J_zret E hr (Bd.z (Bd.lit 1 1 (by decide)) (by decide)) dX6_liftByTwo_77 ⟨rfl, rfl, ((Bd.lit 1 1 (by decide)).w 0 1 (by decide)), trivial⟩
    · have b33 : Bd x12 0 0 := Bd.eq_l c14 b13 (Bd.lit 0 0 (by decide)) 0 0 (by decide)
      refine J_iconst E 0 dX6_liftByTwo_22 (by decide) ?_
      exact J_zret E hr (Bd.z (Bd.lit 0 0 (by decide)) (by decide)) dX6_liftByTwo_23 ⟨rfl, rfl, ((Bd.lit 0 0 (by decide)).w 0 1 (by decide)), trivial⟩

abbrev rm_X6_giveIfFree : Room := { frames := 1, cells := 0, slots := 0, locals := 23 }
set_option maxHeartbeats 4000000 in
set_option maxRecDepth 100000 in
theorem ct_X6_giveIfFree (l : Launch) (D : va_G) (dA : Nat → ClassId) (G : Gm) (v : Mv) (w : Mw) (hOk : Ok G v w) (h0 : Nat) (S0 : S_X6 G h0) (h_0 : Nat) (S_0 : S_X2 G h_0) (x_1 : Int32) (x_2 : Int32) : CtV l yX6_giveIfFree cX6_giveIfFree 4 none rm_X6_giveIfFree D dA G [.ref h0, .ref h_0, .int x_1, .int x_2] v w (fun v1 w1 => Ok G v1 w1 ∧ Kp G v v1 ∧ True) := by
  refine CtV.of RX6 [(0, .ref h0), (1, .ref h_0), (2, .int x_1), (3, .int x_2)] (Nat.le_of_ble_eq_true rfl) rfl (by decide) rfl ?_
  intro p e s m args below meth c E hr
  refine J_aload_n E dX6_giveIfFree_0 0 rfl ?_
  refine J_iload_n E dX6_giveIfFree_1 2 rfl ?_
  refine J_callVI E cal_X6_hasOne wd879 rfl (S_X6.h S0) [.int x_1] [] (ct_X6_hasOne l D dA G v w (hOk) h0 S0 x_1) rfl rfl (Nat.le_of_ble_eq_true rfl) ⟨rfl, rfl⟩ ⟨Nat.le_of_ble_eq_true rfl, Nat.le_of_ble_eq_true rfl⟩ dX6_giveIfFree_2 (fun x4 v1 w2 p3 => ?_)
  rw [p3.1, p3.2.1]
  have b5 : Bd x4 0 1 := p3.2.2.1
  refine J_if_eq E 51 dX6_giveIfFree_5 (by decide) (fun c6 => ?_) (fun c6 => ?_)
  · have b7 : Bd x4 0 0 := Bd.eq_l c6 b5 (Bd.lit 0 0 (by decide)) 0 0 (by decide)
    exact J_vret E hr dX6_giveIfFree_51 ⟨hOk, Kp.rf, trivial⟩
  · have b8 : Bd x4 1 1 := (Bd.ne_lo c6 b5 (Bd.lit 0 0 (by decide))).w _ _ (by decide)
    have b9 : Bd x_1 0 6 := (p3.2.2.2).resolve_left c6
    refine J_aload_n E dX6_giveIfFree_8 1 rfl ?_
    refine J_iload_n E dX6_giveIfFree_9 2 rfl ?_
    refine J_callVNI E cal_X2_isHere wd496 rfl (S_X2.h S_0) [.int x_1] [] (ct_X2_isHere l D dA G v w (hOk) h_0 S_0 x_1 b9) rfl rfl (Nat.le_of_ble_eq_true rfl) ⟨rfl, rfl⟩ ⟨Nat.le_of_ble_eq_true rfl, Nat.le_of_ble_eq_true rfl⟩ dX6_giveIfFree_10 (fun x13 v10 w11 p12 => ?_)
    rw [p12.1, p12.2.1]
    have b14 : Bd x13 0 1 := p12.2.2.1
    refine J_if_eq E 51 dX6_giveIfFree_13 (by decide) (fun c15 => ?_) (fun c15 => ?_)
    · have b16 : Bd x13 0 0 := Bd.eq_l c15 b14 (Bd.lit 0 0 (by decide)) 0 0 (by decide)
      exact J_vret E hr dX6_giveIfFree_51 ⟨hOk, Kp.rf, trivial⟩
    · have b17 : Bd x13 1 1 := (Bd.ne_lo c15 b14 (Bd.lit 0 0 (by decide))).w _ _ (by decide)
      refine J_aload_n E dX6_giveIfFree_16 1 rfl ?_
      refine J_getRN E in_X2 rfl (S_X2.h S_0) 1 (by decide) wd153 rfl dX6_giveIfFree_17 ?_
      refine J_iload_n E dX6_giveIfFree_20 2 rfl ?_
      refine J_iald1 E (S_X2.f1 S_0) (Bd.in b9 (by decide)) dX6_giveIfFree_21 (fun x18 e19 => ?_)
      refine J_iconst E (-1) dX6_giveIfFree_22 (by decide) ?_
      refine J_icmp_ne E 51 dX6_giveIfFree_23 (by decide) (fun c20 => ?_) (fun c20 => ?_)
      · exact J_vret E hr dX6_giveIfFree_51 ⟨hOk, Kp.rf, trivial⟩
      · have b21 : Bd x18 (-1) (-1) := Bd.eq_l c20 (Bd.any x18) (Bd.lit (-1) (-1) (by decide)) (-1) (-1) (by decide)
        refine J_aload_n E dX6_giveIfFree_26 0 rfl ?_
        refine J_iload_n E dX6_giveIfFree_27 3 rfl ?_
        refine J_callVI E cal_X6_hasThing wd526 rfl (S_X6.h S0) [.int x_2] [] (ct_X6_hasThing l D dA G v w (hOk) h0 S0 x_2) rfl rfl (Nat.le_of_ble_eq_true rfl) ⟨rfl, rfl⟩ ⟨Nat.le_of_ble_eq_true rfl, Nat.le_of_ble_eq_true rfl⟩ dX6_giveIfFree_28 (fun x25 v22 w23 p24 => ?_)
        rw [p24.1, p24.2.1]
        have b26 : Bd x25 0 1 := p24.2.2.1
        refine J_if_eq E 51 dX6_giveIfFree_31 (by decide) (fun c27 => ?_) (fun c27 => ?_)
        · have b28 : Bd x25 0 0 := Bd.eq_l c27 b26 (Bd.lit 0 0 (by decide)) 0 0 (by decide)
          exact J_vret E hr dX6_giveIfFree_51 ⟨hOk, Kp.rf, trivial⟩
        · have b29 : Bd x25 1 1 := (Bd.ne_lo c27 b26 (Bd.lit 0 0 (by decide))).w _ _ (by decide)
          have b30 : Bd x_2 0 6 := (p24.2.2.2).resolve_left c27
          refine J_aload_n E dX6_giveIfFree_34 0 rfl ?_
          refine J_aload_n E dX6_giveIfFree_35 1 rfl ?_
          refine J_iload_n E dX6_giveIfFree_36 3 rfl ?_
          refine J_callVI E cal_X6_ownerIn wd504 rfl (S_X6.h S0) [.ref h_0, .int x_2] [] (ct_X6_ownerIn l D dA G v w (hOk) h0 S0 h_0 S_0 x_2 b30) rfl rfl (Nat.le_of_ble_eq_true rfl) ⟨rfl, rfl⟩ ⟨Nat.le_of_ble_eq_true rfl, Nat.le_of_ble_eq_true rfl⟩ dX6_giveIfFree_37 (fun x34 v31 w32 p33 => ?_)
          rw [p33.1, p33.2.1]
          have b35 : Bd x34 (-1) 6 := p33.2.2.1
          refine J_iconst E (-1) dX6_giveIfFree_40 (by decide) ?_
          refine J_icmp_ne E 51 dX6_giveIfFree_41 (by decide) (fun c36 => ?_) (fun c36 => ?_)
          · have b37 : Bd x34 0 6 := (Bd.ne_lo c36 b35 (Bd.lit (-1) (-1) (by decide))).w _ _ (by decide)
            exact J_vret E hr dX6_giveIfFree_51 ⟨hOk, Kp.rf, trivial⟩
          · have b38 : Bd x34 (-1) (-1) := Bd.eq_l c36 b35 (Bd.lit (-1) (-1) (by decide)) (-1) (-1) (by decide)
            refine J_aload_n E dX6_giveIfFree_44 1 rfl ?_
            refine J_getRN E in_X2 rfl (S_X2.h S_0) 1 (by decide) wd153 rfl dX6_giveIfFree_45 ?_
            refine J_iload_n E dX6_giveIfFree_48 2 rfl ?_
            refine J_iload_n E dX6_giveIfFree_49 3 rfl ?_
            refine J_iast1 E (S_X2.f1 S_0) (Bd.in b9 (by decide)) dX6_giveIfFree_50 (fun v39 e40 => ?_)
            have o41 : Ok G v39 w := by rw [e40]; exact Ok.sv hOk (S_X2.f1 S_0) b9 b30 0 7 (by decide) (by decide +kernel)
            have k42 : Kp G v v39 := by rw [e40]; exact Kp.sv Kp.rf (S_X2.f1 S_0) b9 0 7 0 6 (by decide) (by decide +kernel)
            exact J_vret E hr dX6_giveIfFree_51 ⟨o41, k42, trivial⟩

abbrev rm_X6_tenthsHeld : Room := { frames := 3, cells := 0, slots := 0, locals := 67 }
set_option maxHeartbeats 4000000 in
set_option maxRecDepth 100000 in
theorem ct_X6_tenthsHeld (l : Launch) (D : va_G) (dA : Nat → ClassId) (G : Gm) (v : Mv) (w : Mw) (hOk : Ok G v w) (h0 : Nat) (S0 : S_X6 G h0) (x_0 : Int32) (bx_0 : Bd x_0 0 6) (x_1 : Int32) (bx_1 : Bd x_1 0 5) (x_2 : Int32) (bx_2 : Bd x_2 0 10) : CtI l yX6_tenthsHeld cX6_tenthsHeld 7 (some .int) rm_X6_tenthsHeld D dA G [.ref h0, .int x_0, .int x_1, .int x_2] v w (fun r v1 w1 => v1 = v ∧ w1 = w ∧ Bd r 0 20 ∧ True) := by
  refine CtI.of RX6 [(0, .ref h0), (1, .int x_0), (2, .int x_1), (3, .int x_2)] (Nat.le_of_ble_eq_true rfl) rfl (by decide) rfl ?_
  intro p e s m args below meth c E hr
  have J54 : Bd x_2 0 10 → ∀ x2 : Int32, ∀ x3 : Int32, ∀ x4 : Int32, Bd x4 0 10 → J p l e rm_X6_tenthsHeld s m args below meth c 0 0 (MQ below (QcI D dA G (fun r v1 w1 => v1 = v ∧ w1 = w ∧ Bd r 0 20 ∧ True)) args s 0 0 (dm G)) D dA G (dm G) s.heap 7 v w [(3, .int x_2), (5, .int x2), (6, .int x3)] 54 [.int x4] := by
    intro b1 x2 x3 x4 b5
    refine J_iload E dX6_tenthsHeld_54 1 rfl ?_
    refine J_iload E dX6_tenthsHeld_56 2 rfl ?_
    refine J_iconst E 5 dX6_tenthsHeld_58 (by decide) ?_
    refine J_iadd E dX6_tenthsHeld_59 (fun x6 e7 => ?_)
    refine J_icmp_le E 67 dX6_tenthsHeld_60 (by decide) (fun c8 => ?_) (fun c8 => ?_)
    · refine J_iconst E 0 dX6_tenthsHeld_67 (by decide) ?_
      refine J_iadd E dX6_tenthsHeld_68 (fun x9 e10 => ?_)
      have b11 : Bd x9 0 10 := (Bd.add e10 b5 (Bd.lit 0 0 (by decide)) (by decide)).w _ _ (by decide)
      exact J_iret E hr dX6_tenthsHeld_69 ⟨rfl, rfl, (b11.w 0 20 (by decide)), trivial⟩
    · refine J_iload_n E dX6_tenthsHeld_63 0 rfl ?_
      refine J_goto E 68 dX6_tenthsHeld_64 (by decide) ?_
      refine J_iadd E dX6_tenthsHeld_68 (fun x12 e13 => ?_)
      have b14 : Bd x12 0 20 := (Bd.add e13 b5 b1 (by decide)).w _ _ (by decide)
      exact J_iret E hr dX6_tenthsHeld_69 ⟨rfl, rfl, b14, trivial⟩
  refine J_aload_n E dX6_tenthsHeld_0 0 rfl ?_
  refine J_getR E in_X6 rfl (S_X6.h S0) 6 (by decide) wd207 rfl dX6_tenthsHeld_1 ?_
  refine J_getRN E in_X2 rfl (S_X2.h (S_X6.f6 S0)) 1 (by decide) wd153 rfl dX6_tenthsHeld_4 ?_
  refine J_iload_n E dX6_tenthsHeld_7 1 rfl ?_
  refine J_iald1 E (S_X2.f1 (S_X6.f6 S0)) (Bd.in bx_0 (by decide)) dX6_tenthsHeld_8 (fun x15 e16 => ?_)
  refine J_istore E [(4, .int x15), (0, .ref h0), (1, .int x_0), (2, .int x_1), (3, .int x_2)] dX6_tenthsHeld_9 (by decide) rfl ?_
  refine J_aload_n E dX6_tenthsHeld_11 1 rfl ?_
  refine J_iload E dX6_tenthsHeld_12 0 rfl ?_
  refine J_callVI E cal_X6_hasThing wd526 rfl (S_X6.h S0) [.int x15] [] (ct_X6_hasThing l D dA G v w (hOk) h0 S0 x15) rfl rfl (Nat.le_of_ble_eq_true rfl) ⟨rfl, rfl⟩ ⟨Nat.le_of_ble_eq_true rfl, Nat.le_of_ble_eq_true rfl⟩ dX6_tenthsHeld_14 (fun x20 v17 w18 p19 => ?_)
  rw [p19.1, p19.2.1]
  have b21 : Bd x20 0 1 := p19.2.2.1
  refine J_if_ne E 22 dX6_tenthsHeld_17 (by decide) (fun c22 => ?_) (fun c22 => ?_)
  · have b23 : Bd x20 1 1 := (Bd.ne_lo c22 b21 (Bd.lit 0 0 (by decide))).w _ _ (by decide)
    have b24 : Bd x15 0 6 := (p19.2.2.2).resolve_left c22
    refine J_aload_n E dX6_tenthsHeld_22 1 rfl ?_
    refine J_iload E dX6_tenthsHeld_23 0 rfl ?_
    refine J_iload_n E dX6_tenthsHeld_25 3 rfl ?_
    refine J_callVI E cal_X6_weightOf wd603 rfl (S_X6.h S0) [.int x15, .int x_1] [] (ct_X6_weightOf l D dA G v w (hOk) h0 S0 x15 b24 x_1 (bx_1.w 0 60 (by decide))) rfl rfl (Nat.le_of_ble_eq_true rfl) ⟨rfl, rfl⟩ ⟨Nat.le_of_ble_eq_true rfl, Nat.le_of_ble_eq_true rfl⟩ dX6_tenthsHeld_26 (fun x28 v25 w26 p27 => ?_)
    rw [p27.1, p27.2.1]
    refine J_istore E [(5, .int x28), (4, .int x15), (0, .ref h0), (1, .int x_0), (2, .int x_1), (3, .int x_2)] dX6_tenthsHeld_29 (by decide) rfl ?_
    refine J_aload_n E dX6_tenthsHeld_31 2 rfl ?_
    refine J_iload_n E dX6_tenthsHeld_32 3 rfl ?_
    refine J_iload_n E dX6_tenthsHeld_33 4 rfl ?_
    refine J_callVI E cal_X6_liftOf wd607 rfl (S_X6.h S0) [.int x_0, .int x_1] [] (ct_X6_liftOf l D dA G v w (hOk) h0 S0 x_0 bx_0 x_1 (bx_1.w 0 60 (by decide))) rfl rfl (Nat.le_of_ble_eq_true rfl) ⟨rfl, rfl⟩ ⟨Nat.le_of_ble_eq_true rfl, Nat.le_of_ble_eq_true rfl⟩ dX6_tenthsHeld_34 (fun x32 v29 w30 p31 => ?_)
    rw [p31.1, p31.2.1]
    refine J_istore E [(6, .int x32), (5, .int x28), (4, .int x15), (0, .ref h0), (1, .int x_0), (2, .int x_1), (3, .int x_2)] dX6_tenthsHeld_37 (by decide) rfl ?_
    refine J_iload E dX6_tenthsHeld_39 1 rfl ?_
    refine J_iload E dX6_tenthsHeld_41 0 rfl ?_
    refine J_icmp_le E 53 dX6_tenthsHeld_43 (by decide) (fun c33 => ?_) (fun c33 => ?_)
    · refine J_iconst E 0 dX6_tenthsHeld_53 (by decide) ?_
      exact J.sub [6, 1, 0] rfl (J54 bx_2 x28 x32 0 ((Bd.lit 0 0 (by decide)).w 0 10 (by decide)))
    · refine J_bipush E 10 dX6_tenthsHeld_46 (by decide) ?_
      refine J_iload_n E dX6_tenthsHeld_48 6 rfl ?_
      refine J_isub E dX6_tenthsHeld_49 (fun x34 e35 => ?_)
      have b36 : Bd x34 0 10 := (Bd.sub e35 (Bd.lit 10 10 (by decide)) bx_2 (by decide)).w _ _ (by decide)
      refine J_goto E 54 dX6_tenthsHeld_50 (by decide) ?_
      exact J.sub [6, 1, 0] rfl (J54 bx_2 x28 x32 x34 b36)
  · have b37 : Bd x20 0 0 := Bd.eq_l c22 b21 (Bd.lit 0 0 (by decide)) 0 0 (by decide)
    refine J_iconst E 0 dX6_tenthsHeld_20 (by decide) ?_
    exact J_iret E hr dX6_tenthsHeld_21 ⟨rfl, rfl, ((Bd.lit 0 0 (by decide)).w 0 20 (by decide)), trivial⟩
