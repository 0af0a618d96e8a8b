abbrev rm_X4_drop_5 : Room := { frames := 0, cells := 0, slots := 0, locals := 0 }
set_option maxHeartbeats 4000000 in
set_option maxRecDepth 100000 in
theorem ct_X4_drop_5 (l : Launch) (D : va_G) (dA : Nat → ClassId) (G : Gm) (v : Mv) (w : Mw) (hOk : Ok G v w) (h0 : Nat) (S0 : S_X4 G h0 5) : CtI l yX4_drop cX4_drop 2 (some .int) rm_X4_drop_5 D dA G [.ref h0] v w (fun r v1 w1 => Ok G v1 w1 ∧ Kp G v v1 ∧ Bd r 0 5 ∧ Fr G [4] v v1) := by
  refine CtI.of RX4 [(0, .ref h0)] (Nat.le_of_ble_eq_true rfl) rfl (by decide) rfl ?_
  intro p e s m args below meth c E hr
  refine J_aload_n E dX4_drop_0 0 rfl ?_
  refine J_getI E in_X4 rfl (S_X4.h S0) 2 (by decide) wd181 rfl dX4_drop_1 (fun x1 e2 => ?_)
  have b3 : Bd x1 0 5 := Ok.fd hOk e2 (S_X4.h S0) rfl
  refine J_istore_n E [(1, .int x1), (0, .ref h0)] dX4_drop_4 rfl (by decide) rfl ?_
  refine J_aload_n E dX4_drop_5 1 rfl ?_
  refine J_iconst E 0 dX4_drop_6 (by decide) ?_
  refine J_pI E in_X4 rfl (S_X4.h S0) 2 (by decide) wd181 tyX4 tyX4_ok nmX4 rfl rfl .int (by decide +kernel) rfl rfl dX4_drop_7 (fun v4 e5 => ?_)
  have o6 : Ok G v4 w := Ok.pf hOk e5 (S_X4.h S0) rfl ((Bd.lit 0 0 (by decide)).w 0 5 (by decide))
  have k7 : Kp G v v4 := Kp.pf Kp.rf e5 (S_X4.h S0) rfl
  have f8 : Fr G [4] v v4 := Fr.st Fr.rf e5 (S_X4.h S0) rfl
  have e9 : (0 : Int32) = v4 h0 2 := by rw [e5, stv_s]
  refine J_iload_n E dX4_drop_10 0 rfl ?_
  exact J_iret E hr dX4_drop_11 ⟨o6, k7, b3, f8⟩

abbrev rm_X4_drop_6 : Room := { frames := 0, cells := 0, slots := 0, locals := 0 }
set_option maxHeartbeats 4000000 in
set_option maxRecDepth 100000 in
theorem ct_X4_drop_6 (l : Launch) (D : va_G) (dA : Nat → ClassId) (G : Gm) (v : Mv) (w : Mw) (hOk : Ok G v w) (h0 : Nat) (S0 : S_X4 G h0 6) : CtI l yX4_drop cX4_drop 2 (some .int) rm_X4_drop_6 D dA G [.ref h0] v w (fun r v1 w1 => Ok G v1 w1 ∧ Kp G v v1 ∧ Bd r 0 6 ∧ Fr G [4] v v1) := by
  refine CtI.of RX4 [(0, .ref h0)] (Nat.le_of_ble_eq_true rfl) rfl (by decide) rfl ?_
  intro p e s m args below meth c E hr
  refine J_aload_n E dX4_drop_0 0 rfl ?_
  refine J_getI E in_X4 rfl (S_X4.h S0) 2 (by decide) wd181 rfl dX4_drop_1 (fun x1 e2 => ?_)
  have b3 : Bd x1 0 6 := Ok.fd hOk e2 (S_X4.h S0) rfl
  refine J_istore_n E [(1, .int x1), (0, .ref h0)] dX4_drop_4 rfl (by decide) rfl ?_
  refine J_aload_n E dX4_drop_5 1 rfl ?_
  refine J_iconst E 0 dX4_drop_6 (by decide) ?_
  refine J_pI E in_X4 rfl (S_X4.h S0) 2 (by decide) wd181 tyX4 tyX4_ok nmX4 rfl rfl .int (by decide +kernel) rfl rfl dX4_drop_7 (fun v4 e5 => ?_)
  have o6 : Ok G v4 w := Ok.pf hOk e5 (S_X4.h S0) rfl ((Bd.lit 0 0 (by decide)).w 0 6 (by decide))
  have k7 : Kp G v v4 := Kp.pf Kp.rf e5 (S_X4.h S0) rfl
  have f8 : Fr G [4] v v4 := Fr.st Fr.rf e5 (S_X4.h S0) rfl
  have e9 : (0 : Int32) = v4 h0 2 := by rw [e5, stv_s]
  refine J_iload_n E dX4_drop_10 0 rfl ?_
  exact J_iret E hr dX4_drop_11 ⟨o6, k7, b3, f8⟩

abbrev rm_X6_startAnew : Room := { frames := 1, cells := 0, slots := 0, locals := 21 }
set_option maxHeartbeats 4000000 in
set_option maxRecDepth 100000 in
theorem ct_X6_startAnew (l : Launch) (D : va_G) (dA : Nat → ClassId) (G : Gm) (v : Mv) (w : Mw) (hOk : Ok G v w) (h0 : Nat) (S0 : S_X6 G h0) : CtV l yX6_startAnew cX6_startAnew 1 none rm_X6_startAnew D dA G [.ref h0] v w (fun v1 w1 => Ok G v1 w1 ∧ Kp G v v1 ∧ Fr G [2, 4, 6] v v1) := by
  refine CtV.of RX6 [(0, .ref h0)] (Nat.le_of_ble_eq_true rfl) rfl (by decide) rfl ?_
  intro p e s m args below meth c E hr
  refine J_aload_n E dX6_startAnew_0 0 rfl ?_
  refine J_iconst E 0 dX6_startAnew_1 (by decide) ?_
  refine J_pI E in_X6 rfl (S_X6.h S0) 0 (by decide) wd191 tyX6 tyX6_ok nmX6 rfl rfl .int (by decide +kernel) rfl rfl dX6_startAnew_2 (fun v1 e2 => ?_)
  have o3 : Ok G v1 w := Ok.pf hOk e2 (S_X6.h S0) rfl ((Bd.lit 0 0 (by decide)).w 0 7 (by decide))
  have k4 : Kp G v v1 := Kp.pf Kp.rf e2 (S_X6.h S0) rfl
  have f5 : Fr G [2, 4, 6] v v1 := Fr.st Fr.rf e2 (S_X6.h S0) rfl
  have e6 : (0 : Int32) = v1 h0 0 := by rw [e2, stv_s]
  refine J_aload_n E dX6_startAnew_5 0 rfl ?_
  refine J_iconst E 0 dX6_startAnew_6 (by decide) ?_
  refine J_pI E in_X6 rfl (S_X6.h S0) 3 (by decide) wd201 tyX6 tyX6_ok nmX6 rfl rfl .int (by decide +kernel) rfl rfl dX6_startAnew_7 (fun v7 e8 => ?_)
  have o9 : Ok G v7 w := Ok.pf o3 e8 (S_X6.h S0) rfl ((Bd.lit 0 0 (by decide)).w 0 7 (by decide))
  have k10 : Kp G v v7 := Kp.pf k4 e8 (S_X6.h S0) rfl
  have e11 : 0 = v7 h0 0 := by rw [e8, stv_k (by decide)]; exact e6
  have f12 : Fr G [2, 4, 6] v v7 := Fr.st f5 e8 (S_X6.h S0) rfl
  have e13 : (0 : Int32) = v7 h0 3 := by rw [e8, stv_s]
  refine J_aload_n E dX6_startAnew_10 0 rfl ?_
  refine J_getR E in_X6 rfl (S_X6.h S0) 6 (by decide) wd207 rfl dX6_startAnew_11 ?_
  refine J_iconst E 0 dX6_startAnew_14 (by decide) ?_
  refine J_pIN E in_X2 rfl (S_X2.h (S_X6.f6 S0)) 2 (by decide) wd156 tyX2 tyX2_ok nmX2 rfl rfl .int (by decide +kernel) rfl rfl dX6_startAnew_15 (fun v14 e15 => ?_)
  have o16 : Ok G v14 w := Ok.pf o9 e15 (S_X2.h (S_X6.f6 S0)) rfl ((Bd.lit 0 0 (by decide)).w I0 I1 (by decide))
  have k17 : Kp G v v14 := Kp.pf k10 e15 (S_X2.h (S_X6.f6 S0)) rfl
  have e18 : 0 = v14 h0 0 := by rw [e15, stv_k (by decide)]; exact e11
  have e19 : 0 = v14 h0 3 := by rw [e15, stv_k (by decide)]; exact e13
  have f20 : Fr G [2, 4, 6] v v14 := Fr.st f12 e15 (S_X2.h (S_X6.f6 S0)) rfl
  have e21 : (0 : Int32) = v14 (rf G h0 6) 2 := by rw [e15, stv_s]
  refine J_aload_n E dX6_startAnew_18 0 rfl ?_
  refine J_getR E in_X6 rfl (S_X6.h S0) 6 (by decide) wd207 rfl dX6_startAnew_19 ?_
  refine J_iconst E 0 dX6_startAnew_22 (by decide) ?_
  refine J_pIN E in_X2 rfl (S_X2.h (S_X6.f6 S0)) 3 (by decide) wd159 tyX2 tyX2_ok nmX2 rfl rfl .int (by decide +kernel) rfl rfl dX6_startAnew_23 (fun v22 e23 => ?_)
  have o24 : Ok G v22 w := Ok.pf o16 e23 (S_X2.h (S_X6.f6 S0)) rfl ((Bd.lit 0 0 (by decide)).w I0 I1 (by decide))
  have k25 : Kp G v v22 := Kp.pf k17 e23 (S_X2.h (S_X6.f6 S0)) rfl
  have e26 : 0 = v22 h0 0 := by rw [e23, stv_k (by decide)]; exact e18
  have e27 : 0 = v22 h0 3 := by rw [e23, stv_a (tg_ne (S_X6.h S0) (S_X2.h (S_X6.f6 S0)) rfl)]; exact e19
  have e28 : 0 = v22 (rf G h0 6) 2 := by rw [e23, stv_k (by decide)]; exact e21
  have f29 : Fr G [2, 4, 6] v v22 := Fr.st f20 e23 (S_X2.h (S_X6.f6 S0)) rfl
  have e30 : (0 : Int32) = v22 (rf G h0 6) 3 := by rw [e23, stv_s]
  refine J_aload_n E dX6_startAnew_26 0 rfl ?_
  refine J_iconst E 0 dX6_startAnew_27 (by decide) ?_
  refine J_pI E in_X6 rfl (S_X6.h S0) 8 (by decide) wd211 tyX6 tyX6_ok nmX6 rfl rfl .int (by decide +kernel) rfl rfl dX6_startAnew_28 (fun v31 e32 => ?_)
  have o33 : Ok G v31 w := Ok.pf o24 e32 (S_X6.h S0) rfl ((Bd.lit 0 0 (by decide)).w 0 8 (by decide))
  have k34 : Kp G v v31 := Kp.pf k25 e32 (S_X6.h S0) rfl
  have e35 : 0 = v31 h0 0 := by rw [e32, stv_k (by decide)]; exact e26
  have e36 : 0 = v31 h0 3 := by rw [e32, stv_k (by decide)]; exact e27
  have e37 : 0 = v31 (rf G h0 6) 2 := by rw [e32, stv_k (by decide)]; exact e28
  have e38 : 0 = v31 (rf G h0 6) 3 := by rw [e32, stv_k (by decide)]; exact e30
  have f39 : Fr G [2, 4, 6] v v31 := Fr.st f29 e32 (S_X6.h S0) rfl
  have e40 : (0 : Int32) = v31 h0 8 := by rw [e32, stv_s]
  refine J_aload_n E dX6_startAnew_31 0 rfl ?_
  refine J_getR E in_X6 rfl (S_X6.h S0) 9 (by decide) wd213 rfl dX6_startAnew_32 ?_
  refine J_callVNI E cal_X4_drop wd353 rfl (S_X4.h (S_X6.f9 S0)) [] [] (ct_X4_drop_5 l D dA G v31 w (o33) (rf G h0 9) (S_X6.f9 S0)) rfl rfl (Nat.le_of_ble_eq_true rfl) ⟨rfl, rfl⟩ ⟨Nat.le_of_ble_eq_true rfl, Nat.le_of_ble_eq_true rfl⟩ dX6_startAnew_35 (fun x44 v41 w42 p43 => ?_)
  have o45 := p43.1
  have k46 : Kp G v v41 := (k34).tr p43.2.1
  have f47 : Fr G [2, 4, 6] v v41 := Fr.tr f39 (p43.2.2.2) (by decide)
  have b48 : Bd x44 0 5 := p43.2.2.1
  refine J_pop E dX6_startAnew_38 rfl ?_
  refine J_aload_n E dX6_startAnew_39 0 rfl ?_
  refine J_getR E in_X6 rfl (S_X6.h S0) 10 (by decide) wd215 rfl dX6_startAnew_40 ?_
  refine J_callVNI E cal_X4_drop wd353 rfl (S_X4.h (S_X6.f10 S0)) [] [] (ct_X4_drop_6 l D dA G v41 w42 (o45) (rf G h0 10) (S_X6.f10 S0)) rfl rfl (Nat.le_of_ble_eq_true rfl) ⟨rfl, rfl⟩ ⟨Nat.le_of_ble_eq_true rfl, Nat.le_of_ble_eq_true rfl⟩ dX6_startAnew_43 (fun x52 v49 w50 p51 => ?_)
  have o53 := p51.1
  have k54 : Kp G v v49 := (k46).tr p51.2.1
  have f55 : Fr G [2, 4, 6] v v49 := Fr.tr f47 (p51.2.2.2) (by decide)
  have b56 : Bd x52 0 6 := p51.2.2.1
  refine J_pop E dX6_startAnew_46 rfl ?_
  refine J_aload_n E dX6_startAnew_47 0 rfl ?_
  refine J_getR E in_X6 rfl (S_X6.h S0) 11 (by decide) wd217 rfl dX6_startAnew_48 ?_
  refine J_callVNI E cal_X4_drop wd353 rfl (S_X4.h (S_X6.f11 S0)) [] [] (ct_X4_drop_6 l D dA G v49 w50 (o53) (rf G h0 11) (S_X6.f11 S0)) rfl rfl (Nat.le_of_ble_eq_true rfl) ⟨rfl, rfl⟩ ⟨Nat.le_of_ble_eq_true rfl, Nat.le_of_ble_eq_true rfl⟩ dX6_startAnew_51 (fun x60 v57 w58 p59 => ?_)
  have o61 := p59.1
  have k62 : Kp G v v57 := (k54).tr p59.2.1
  have f63 : Fr G [2, 4, 6] v v57 := Fr.tr f55 (p59.2.2.2) (by decide)
  have b64 : Bd x60 0 6 := p59.2.2.1
  refine J_pop E dX6_startAnew_54 rfl ?_
  exact J_vret E hr dX6_startAnew_55 ⟨o61, k62, f63⟩

abbrev rm_X7_isWithin : Room := { frames := 0, cells := 0, slots := 0, locals := 0 }
set_option maxHeartbeats 4000000 in
set_option maxRecDepth 100000 in
theorem ct_X7_isWithin (l : Launch) (D : va_G) (dA : Nat → ClassId) (G : Gm) (v : Mv) (w : Mw) (hOk : Ok G v w) (x_0 : Int32) (x_1 : Int32) (x_2 : Int32) : CtI l yX7_isWithin cX7_isWithin 3 (some .boolean) rm_X7_isWithin D dA G [.int x_0, .int x_1, .int x_2] v w (fun r v1 w1 => v1 = v ∧ w1 = w ∧ Bd r 0 1 ∧ (r = 0 ∨ (x_1 ≤ x_0 ∧ x_0 ≤ x_2)) ∧ (¬ r = 0 ∨ ¬ (x_1 ≤ x_0 ∧ x_0 ≤ x_2))) := by
  refine CtI.of RX7 [(0, .int x_0), (1, .int x_1), (2, .int x_2)] (Nat.le_of_ble_eq_true rfl) rfl (by decide) rfl ?_
  intro p e s m args below meth c E hr
  refine J_iload_n E dX7_isWithin_0 0 rfl ?_
  refine J_iload_n E dX7_isWithin_1 1 rfl ?_
  refine J_icmp_lt E 14 dX7_isWithin_2 (by decide) (fun c1 => ?_) (fun c1 => ?_)
  · refine J_iconst E 0 dX7_isWithin_14 (by decide) ?_
    exact J_zret E hr (Bd.z (Bd.lit 0 0 (by decide)) (by decide)) dX7_isWithin_15 ⟨rfl, rfl, ((Bd.lit 0 0 (by decide)).w 0 1 (by decide)), ⟨(Or.inl rfl), (Or.inr (fun h9 => absurd h9.1 (nle_of_lt c1)))⟩⟩
  · refine J_iload_n E dX7_isWithin_5 0 rfl ?_
    refine J_iload_n E dX7_isWithin_6 2 rfl ?_
    refine J_icmp_gt E 14 dX7_isWithin_7 (by decide) (fun c2 => ?_) (fun c2 => ?_)
    · refine J_iconst E 0 dX7_isWithin_14 (by decide) ?_
      exact J_zret E hr (Bd.z (Bd.lit 0 0 (by decide)) (by decide)) dX7_isWithin_15 ⟨rfl, rfl, ((Bd.lit 0 0 (by decide)).w 0 1 (by decide)), ⟨(Or.inl rfl), (Or.inr (fun h9 => absurd h9.2 (nle_of_lt c2)))⟩⟩
    · refine J_iconst E 1 dX7_isWithin_10 (by decide) ?_
      refine J_goto E 15 dX7_isWithin_11 (by decide) ?_
      exact J_zret E hr (Bd.z (Bd.lit 1 1 (by decide)) (by decide)) dX7_isWithin_15 ⟨rfl, rfl, ((Bd.lit 1 1 (by decide)).w 0 1 (by decide)), ⟨(Or.inr ⟨(nlt c1), (nlt c2)⟩), (Or.inl (by decide))⟩⟩

abbrev rm_X3_passRun : Room := { frames := 1, cells := 0, slots := 0, locals := 22 }
set_option maxHeartbeats 4000000 in
set_option maxRecDepth 100000 in
theorem ct_X3_passRun (l : Launch) (D : va_G) (dA : Nat → ClassId) (G : Gm) (v : Mv) (w : Mw) (hOk : Ok G v w) (h0 : Nat) (S0 : S_X3 G h0) (x_0 : Int32) (x_1 : Int32) (z_0 : Int32) (ez_0 : z_0 = v h0 2) (pre0 : Bd z_0 0 149) (hlt : z_0 < v h0 1) (hwi : x_0 ≤ v (rf G h0 0) z_0.toNatClampNeg ∧ v (rf G h0 0) z_0.toNatClampNeg ≤ x_1) : CtV l yX3_passRun cX3_passRun 3 none rm_X3_passRun D dA G [.ref h0, .int x_0, .int x_1] v w (fun v1 w1 => Ok G v1 w1 ∧ Kp G v v1 ∧ v1 h0 1 = v h0 1 ∧ v1 h0 4 = v h0 4 ∧ Bd (v1 h0 2) 1 150 ∧ Fr G [3] v v1) := by
  refine CtV.of RX3 [(0, .ref h0), (1, .int x_0), (2, .int x_1)] (Nat.le_of_ble_eq_true rfl) rfl (by decide) rfl ?_
  intro p e s m args below meth c E hr
  have J0 : ∀ n : Nat, ∀ (v1 : Mv) (w2 : Mw), Ok G v1 w2 → Kp G v v1 → Fr G [3] v v1 → ∀ x7 : Int32, x7 = v1 h0 2 → Bd x7 0 150 → v1 h0 1 = v h0 1 → v1 h0 4 = v h0 4 → (Bd x7 1 150 ∨ (x7 < v1 h0 1 ∧ (x_0 ≤ v1 (rf G h0 0) x7.toNatClampNeg ∧ v1 (rf G h0 0) x7.toNatClampNeg ≤ x_1))) → Mu x7 150 n → J p l e rm_X3_passRun s m args below meth c 0 0 (MQ below (QcV D dA G (fun v1 w1 => Ok G v1 w1 ∧ Kp G v v1 ∧ v1 h0 1 = v h0 1 ∧ v1 h0 4 = v h0 4 ∧ Bd (v1 h0 2) 1 150 ∧ Fr G [3] v v1)) args s 0 0 (dm G)) D dA G (dm G) s.heap 3 v1 w2 [(0, .ref h0), (1, .int x_0), (2, .int x_1)] 0 [] := by
    intro n
    induction n with
    | zero => intro v1 w2 o3 k4 f5 x7 e8 b6 h1s h4s hI hm; exact hm.zero b6 (by decide)
    | succ n ih0 =>
      intro v1 w2 o3 k4 f5 x7 e8 b6 h1s h4s hI hmu0
      refine J_aload_n E dX3_passRun_0 0 rfl ?_
      refine J_getI E in_X3 rfl (S_X3.h S0) 2 (by decide) wd255 rfl dX3_passRun_1 (fun x9 e10 => ?_)
      rw [show x9 = x7 from e10.trans (e8).symm]
      refine J_aload_n E dX3_passRun_4 0 rfl ?_
      refine J_getI E in_X3 rfl (S_X3.h S0) 1 (by decide) wd253 rfl dX3_passRun_5 (fun x11 e12 => ?_)
      have b13 : Bd x11 0 150 := Ok.fd o3 e12 (S_X3.h S0) rfl
      refine J_icmp_ge E 41 dX3_passRun_8 (by decide) (fun c14 => ?_) (fun c14 => ?_)
      · exact J_vret E hr dX3_passRun_41 ⟨o3, k4, h1s, h4s, Bd.e (hI.resolve_right (fun q => nle_of_lt q.1 (by rw [← e12]; exact c14))) e8.symm, f5⟩
      · have b15 : Bd x7 0 149 := Bd.lt_l (nle c14) b6 b13 149 (by decide)
        have b16 : Bd x11 1 150 := Bd.lt_r (nle c14) b6 b13 1 (by decide)
        refine J_aload_n E dX3_passRun_11 0 rfl ?_
        refine J_getR E in_X3 rfl (S_X3.h S0) 0 (by decide) wd252 rfl dX3_passRun_12 ?_
        refine J_aload_n E dX3_passRun_15 0 rfl ?_
        refine J_getI E in_X3 rfl (S_X3.h S0) 2 (by decide) wd255 rfl dX3_passRun_16 (fun x17 e18 => ?_)
        rw [show x17 = x7 from e18.trans (e8).symm]
        refine J_iald1 E (S_X3.f0 S0) (Bd.in b15 (by decide)) dX3_passRun_19 (fun x19 e20 => ?_)
        refine J_iload_n E dX3_passRun_20 1 rfl ?_
        refine J_iload_n E dX3_passRun_21 2 rfl ?_
        refine J_callSNI E cal_X7_isWithin wd409 [.int x19, .int x_0, .int x_1] [] (ct_X7_isWithin l D dA G v1 w2 (o3) x19 x_0 x_1) rfl rfl (Nat.le_of_ble_eq_true rfl) ⟨rfl, rfl⟩ ⟨Nat.le_of_ble_eq_true rfl, Nat.le_of_ble_eq_true rfl⟩ dX3_passRun_22 (fun x24 v21 w22 p23 => ?_)
        rw [p23.1, p23.2.1]
        have b25 : Bd x24 0 1 := p23.2.2.1
        refine J_if_eq E 41 dX3_passRun_25 (by decide) (fun c26 => ?_) (fun c26 => ?_)
        · have b27 : Bd x24 0 0 := Bd.eq_l c26 b25 (Bd.lit 0 0 (by decide)) 0 0 (by decide)
          exact J_vret E hr dX3_passRun_41 ⟨o3, k4, h1s, h4s, Bd.e (hI.resolve_right (fun q => (p23.2.2.2.2).resolve_left (fun z => z c26) (by rw [e20]; exact q.2))) e8.symm, f5⟩
        · have b28 : Bd x24 1 1 := (Bd.ne_lo c26 b25 (Bd.lit 0 0 (by decide))).w _ _ (by decide)
          have g29 := (p23.2.2.2.1).resolve_left c26
          refine J_aload_n E dX3_passRun_28 0 rfl ?_
          refine J_dup E dX3_passRun_29 rfl ?_
          refine J_getI E in_X3 rfl (S_X3.h S0) 2 (by decide) wd255 rfl dX3_passRun_30 (fun x30 e31 => ?_)
          rw [show x30 = x7 from e31.trans (e8).symm]
          refine J_iconst E 1 dX3_passRun_33 (by decide) ?_
          refine J_iadd E dX3_passRun_34 (fun x32 e33 => ?_)
          have b34 : Bd x32 1 150 := (Bd.add e33 b15 (Bd.lit 1 1 (by decide)) (by decide)).w _ _ (by decide)
          refine J_pI E in_X3 rfl (S_X3.h S0) 2 (by decide) wd255 tyX3 tyX3_ok nmX3 rfl rfl .int (by decide +kernel) rfl rfl dX3_passRun_35 (fun v35 e36 => ?_)
          have o37 : Ok G v35 w2 := Ok.pf o3 e36 (S_X3.h S0) rfl (b34.w 0 150 (by decide))
          have k38 : Kp G v v35 := Kp.pf k4 e36 (S_X3.h S0) rfl
          have e39 : x11 = v35 h0 1 := by rw [e36, stv_k (by decide)]; exact e12
          have f40 : Fr G [3] v v35 := Fr.st f5 e36 (S_X3.h S0) rfl
          have e41 : x32 = v35 h0 2 := by rw [e36, stv_s]
          have h1n : v35 h0 1 = v h0 1 := by rw [e36, stv_k (by decide)]; exact h1s
          have h4n : v35 h0 4 = v h0 4 := by rw [e36, stv_k (by decide)]; exact h4s
          refine J_goto E 0 dX3_passRun_38 (by decide) ?_
          exact J.sub [0, 1, 2] rfl (ih0 v35 w2 (o37) (k38) f40 x32 (e41) (b34.w 0 150 (by decide)) h1n h4n (Or.inl b34) (Mu.step hmu0 e33 b15 (Bd.lit 1 1 (by decide)) (by decide)))
  exact J.sub [0, 1, 2] rfl (J0 151 v w (hOk) (Kp.rf) Fr.rf z_0 (ez_0) (pre0.w 0 150 (by decide)) rfl rfl (Or.inr ⟨hlt, hwi⟩) (Mu.start _ pre0 (by decide)))


abbrev rm_X3_nextToken : Room := { frames := 2, cells := 0, slots := 0, locals := 44 }
set_option maxHeartbeats 4000000 in
set_option maxRecDepth 100000 in
theorem ct_X3_nextToken (l : Launch) (D : va_G) (dA : Nat → ClassId) (G : Gm) (v : Mv) (w : Mw) (hOk : Ok G v w) (h0 : Nat) (S0 : S_X3 G h0) : CtV l yX3_nextToken cX3_nextToken 1 none rm_X3_nextToken D dA G [.ref h0] v w (fun v1 w1 => Ok G v1 w1 ∧ Kp G v v1 ∧ Fr G [3] v v1) := by
  refine CtV.of RX3 [(0, .ref h0)] (Nat.le_of_ble_eq_true rfl) rfl (by decide) rfl ?_
  intro p e s m args below meth c E hr
  have J223 : ∀ (v1 : Mv) (w2 : Mw), Ok G v1 w2 → Kp G v v1 → Fr G [3] v v1 → ∀ x6 : Int32, Bd x6 3 4 → ∀ x9 : Int32, x9 = v1 h0 2 → Bd x9 0 149 → J p l e rm_X3_nextToken s m args below meth c 0 0 (MQ below (QcV D dA G (fun v1 w1 => Ok G v1 w1 ∧ Kp G v v1 ∧ Fr G [3] v v1)) args s 0 0 (dm G)) D dA G (dm G) s.heap 1 v1 w2 [(0, .ref h0)] 223 [.int x6, .ref h0] := by
    intro v1 w2 o3 k4 f5 x6 b7 x9 e10 b8
    refine J_pI E in_X3 rfl (S_X3.h S0) 3 (by decide) wd256 tyX3 tyX3_ok nmX3 rfl rfl .int (by decide +kernel) rfl rfl dX3_nextToken_223 (fun v11 e12 => ?_)
    have o13 : Ok G v11 w2 := Ok.pf o3 e12 (S_X3.h S0) rfl (b7.w I0 I1 (by decide))
    have k14 : Kp G v v11 := Kp.pf k4 e12 (S_X3.h S0) rfl
    have e15 : x9 = v11 h0 2 := by rw [e12, stv_k (by decide)]; exact e10
    have f16 : Fr G [3] v v11 := Fr.st f5 e12 (S_X3.h S0) rfl
    have e17 : x6 = v11 h0 3 := by rw [e12, stv_s]
    refine J_aload_n E dX3_nextToken_226 0 rfl ?_
    refine J_dup E dX3_nextToken_227 rfl ?_
    refine J_getI E in_X3 rfl (S_X3.h S0) 2 (by decide) wd255 rfl dX3_nextToken_228 (fun x18 e19 => ?_)
    rw [show x18 = x9 from e19.trans (e15).symm]
    refine J_iconst E 1 dX3_nextToken_231 (by decide) ?_
    refine J_iadd E dX3_nextToken_232 (fun x20 e21 => ?_)
    have b22 : Bd x20 1 150 := (Bd.add e21 b8 (Bd.lit 1 1 (by decide)) (by decide)).w _ _ (by decide)
    refine J_pI E in_X3 rfl (S_X3.h S0) 2 (by decide) wd255 tyX3 tyX3_ok nmX3 rfl rfl .int (by decide +kernel) rfl rfl dX3_nextToken_233 (fun v23 e24 => ?_)
    have o25 : Ok G v23 w2 := Ok.pf o13 e24 (S_X3.h S0) rfl (b22.w 0 150 (by decide))
    have k26 : Kp G v v23 := Kp.pf k14 e24 (S_X3.h S0) rfl
    have e27 : x6 = v23 h0 3 := by rw [e24, stv_k (by decide)]; exact e17
    have f28 : Fr G [3] v v23 := Fr.st f16 e24 (S_X3.h S0) rfl
    have e29 : x20 = v23 h0 2 := by rw [e24, stv_s]
    exact J_vret E hr dX3_nextToken_236 ⟨o25, k26, f28⟩
  have J196 : ∀ (v30 : Mv) (w31 : Mw), Ok G v30 w31 → Kp G v v30 → Fr G [3] v v30 → ∀ x35 : Int32, ∀ x36 : Int32, J p l e rm_X3_nextToken s m args below meth c 0 0 (MQ below (QcV D dA G (fun v1 w1 => Ok G v1 w1 ∧ Kp G v v1 ∧ Fr G [3] v v1)) args s 0 0 (dm G)) D dA G (dm G) s.heap 1 v30 w31 [] 196 [.int x35, .int x36, .ref h0] := by
    intro v30 w31 o32 k33 f34 x35 x36
    refine J_iadd E dX3_nextToken_196 (fun x37 e38 => ?_)
    refine J_pI E in_X3 rfl (S_X3.h S0) 5 (by decide) wd258 tyX3 tyX3_ok nmX3 rfl rfl .int (by decide +kernel) rfl rfl dX3_nextToken_197 (fun v39 e40 => ?_)
    have o41 : Ok G v39 w31 := Ok.pf o32 e40 (S_X3.h S0) rfl (Bd.any x37)
    have k42 : Kp G v v39 := Kp.pf k33 e40 (S_X3.h S0) rfl
    have f43 : Fr G [3] v v39 := Fr.st f34 e40 (S_X3.h S0) rfl
    have e44 : x37 = v39 h0 5 := by rw [e40, stv_s]
    refine J_goto E 236 dX3_nextToken_200 (by decide) ?_
    exact J_vret E hr dX3_nextToken_236 ⟨o41, k42, f43⟩
  have J146 : ∀ (v45 : Mv) (w46 : Mw), Ok G v45 w46 → Kp G v v45 → Fr G [3] v v45 → ∀ x50 : Int32, Bd x50 2 4 → ∀ x53 : Int32, x53 = v45 h0 2 → Bd x53 1 150 → ∀ x56 : Int32, x56 = v45 h0 4 → Bd x56 0 149 → J p l e rm_X3_nextToken s m args below meth c 0 0 (MQ below (QcV D dA G (fun v1 w1 => Ok G v1 w1 ∧ Kp G v v1 ∧ Fr G [3] v v1)) args s 0 0 (dm G)) D dA G (dm G) s.heap 1 v45 w46 [(0, .ref h0)] 146 [.int x50, .ref h0] := by
    intro v45 w46 o47 k48 f49 x50 b51 x53 e54 b52 x56 e57 b55
    refine J_pI E in_X3 rfl (S_X3.h S0) 3 (by decide) wd256 tyX3 tyX3_ok nmX3 rfl rfl .int (by decide +kernel) rfl rfl dX3_nextToken_146 (fun v58 e59 => ?_)
    have o60 : Ok G v58 w46 := Ok.pf o47 e59 (S_X3.h S0) rfl (b51.w I0 I1 (by decide))
    have k61 : Kp G v v58 := Kp.pf k48 e59 (S_X3.h S0) rfl
    have e62 : x53 = v58 h0 2 := by rw [e59, stv_k (by decide)]; exact e54
    have e63 : x56 = v58 h0 4 := by rw [e59, stv_k (by decide)]; exact e57
    have f64 : Fr G [3] v v58 := Fr.st f49 e59 (S_X3.h S0) rfl
    have e65 : x50 = v58 h0 3 := by rw [e59, stv_s]
    refine J_aload_n E dX3_nextToken_149 0 rfl ?_
    refine J_aload_n E dX3_nextToken_150 0 rfl ?_
    refine J_getR E in_X3 rfl (S_X3.h S0) 0 (by decide) wd252 rfl dX3_nextToken_151 ?_
    refine J_aload_n E dX3_nextToken_154 0 rfl ?_
    refine J_getI E in_X3 rfl (S_X3.h S0) 2 (by decide) wd255 rfl dX3_nextToken_155 (fun x66 e67 => ?_)
    rw [show x66 = x53 from e67.trans (e62).symm]
    refine J_iconst E 1 dX3_nextToken_158 (by decide) ?_
    refine J_isub E dX3_nextToken_159 (fun x68 e69 => ?_)
    have b70 : Bd x68 0 149 := (Bd.sub e69 b52 (Bd.lit 1 1 (by decide)) (by decide)).w _ _ (by decide)
    refine J_iald1 E (S_X3.f0 S0) (Bd.in b70 (by decide)) dX3_nextToken_160 (fun x71 e72 => ?_)
    refine J_bipush E 48 dX3_nextToken_161 (by decide) ?_
    refine J_isub E dX3_nextToken_163 (fun x73 e74 => ?_)
    refine J_aload_n E dX3_nextToken_164 0 rfl ?_
    refine J_getI E in_X3 rfl (S_X3.h S0) 2 (by decide) wd255 rfl dX3_nextToken_165 (fun x75 e76 => ?_)
    rw [show x75 = x53 from e76.trans (e62).symm]
    refine J_aload_n E dX3_nextToken_168 0 rfl ?_
    refine J_getI E in_X3 rfl (S_X3.h S0) 4 (by decide) wd257 rfl dX3_nextToken_169 (fun x77 e78 => ?_)
    rw [show x77 = x56 from e78.trans (e63).symm]
    refine J_isub E dX3_nextToken_172 (fun x79 e80 => ?_)
    have b81 : Bd x79 (-148) 150 := (Bd.sub e80 b52 b55 (by decide)).w _ _ (by decide)
    refine J_iconst E 2 dX3_nextToken_173 (by decide) ?_
    refine J_icmp_ne E 195 dX3_nextToken_174 (by decide) (fun c82 => ?_) (fun c82 => ?_)
    · refine J_iconst E 0 dX3_nextToken_195 (by decide) ?_
      exact J.sub [] rfl (J196 v58 w46 (o60) (k61) f64 0 x73)
    · have b83 : Bd x79 2 2 := Bd.eq_l c82 b81 (Bd.lit 2 2 (by decide)) 2 2 (by decide)
      have b84 : Bd x56 0 148 := Bd.suby e80 b52 b55 b83 0 148 (by decide)
      refine J_bipush E 10 dX3_nextToken_177 (by decide) ?_
      refine J_aload_n E dX3_nextToken_179 0 rfl ?_
      refine J_getR E in_X3 rfl (S_X3.h S0) 0 (by decide) wd252 rfl dX3_nextToken_180 ?_
      refine J_aload_n E dX3_nextToken_183 0 rfl ?_
      refine J_getI E in_X3 rfl (S_X3.h S0) 4 (by decide) wd257 rfl dX3_nextToken_184 (fun x85 e86 => ?_)
      rw [show x85 = x56 from e86.trans (e63).symm]
      refine J_iald1 E (S_X3.f0 S0) (Bd.in b84 (by decide)) dX3_nextToken_187 (fun x87 e88 => ?_)
      refine J_bipush E 48 dX3_nextToken_188 (by decide) ?_
      refine J_isub E dX3_nextToken_190 (fun x89 e90 => ?_)
      refine J_imul E dX3_nextToken_191 (fun x91 e92 => ?_)
      refine J_goto E 196 dX3_nextToken_192 (by decide) ?_
      exact J.sub [] rfl (J196 v58 w46 (o60) (k61) f64 x91 x73)
  have J38 : ∀ (v93 : Mv) (w94 : Mw), Ok G v93 w94 → Kp G v v93 → Fr G [3] v v93 → J p l e rm_X3_nextToken s m args below meth c 0 0 (MQ below (QcV D dA G (fun v1 w1 => Ok G v1 w1 ∧ Kp G v v1 ∧ Fr G [3] v v1)) args s 0 0 (dm G)) D dA G (dm G) s.heap 1 v93 w94 [(0, .ref h0)] 38 [] := by
    intro v93 w94 o95 k96 f97
    refine J_aload_n E dX3_nextToken_38 0 rfl ?_
    refine J_aload_n E dX3_nextToken_39 0 rfl ?_
    refine J_getI E in_X3 rfl (S_X3.h S0) 2 (by decide) wd255 rfl dX3_nextToken_40 (fun x98 e99 => ?_)
    have b100 : Bd x98 0 150 := Ok.fd o95 e99 (S_X3.h S0) rfl
    refine J_pI E in_X3 rfl (S_X3.h S0) 4 (by decide) wd257 tyX3 tyX3_ok nmX3 rfl rfl .int (by decide +kernel) rfl rfl dX3_nextToken_43 (fun v101 e102 => ?_)
    have o103 : Ok G v101 w94 := Ok.pf o95 e102 (S_X3.h S0) rfl b100
    have k104 : Kp G v v101 := Kp.pf k96 e102 (S_X3.h S0) rfl
    have e105 : x98 = v101 h0 2 := by rw [e102, stv_k (by decide)]; exact e99
    have f106 : Fr G [3] v v101 := Fr.st f97 e102 (S_X3.h S0) rfl
    have e107 : x98 = v101 h0 4 := by rw [e102, stv_s]
    refine J_aload_n E dX3_nextToken_46 0 rfl ?_
    refine J_getI E in_X3 rfl (S_X3.h S0) 2 (by decide) wd255 rfl dX3_nextToken_47 (fun x108 e109 => ?_)
    rw [show x108 = x98 from e109.trans (e105).symm]
    refine J_aload_n E dX3_nextToken_50 0 rfl ?_
    refine J_getI E in_X3 rfl (S_X3.h S0) 1 (by decide) wd253 rfl dX3_nextToken_51 (fun x110 e111 => ?_)
    have b112 : Bd x110 0 150 := Ok.fd o103 e111 (S_X3.h S0) rfl
    refine J_icmp_lt E 65 dX3_nextToken_54 (by decide) (fun c113 => ?_) (fun c113 => ?_)
    · have b114 : Bd x98 0 149 := Bd.lt_l c113 b100 b112 149 (by decide)
      have b115 : Bd x110 1 150 := Bd.lt_r c113 b100 b112 1 (by decide)
      refine J_aload_n E dX3_nextToken_65 0 rfl ?_
      refine J_getR E in_X3 rfl (S_X3.h S0) 0 (by decide) wd252 rfl dX3_nextToken_66 ?_
      refine J_aload_n E dX3_nextToken_69 0 rfl ?_
      refine J_getI E in_X3 rfl (S_X3.h S0) 2 (by decide) wd255 rfl dX3_nextToken_70 (fun x116 e117 => ?_)
      rw [show x116 = x98 from e117.trans (e105).symm]
      refine J_iald1 E (S_X3.f0 S0) (Bd.in b114 (by decide)) dX3_nextToken_73 (fun x118 e119 => ?_)
      refine J_bipush E 97 dX3_nextToken_74 (by decide) ?_
      refine J_bipush E 122 dX3_nextToken_76 (by decide) ?_
      refine J_callSNI E cal_X7_isWithin wd409 [.int x118, .int 97, .int 122] [] (ct_X7_isWithin l D dA G v101 w94 (o103) x118 97 122) rfl rfl (Nat.le_of_ble_eq_true rfl) ⟨rfl, rfl⟩ ⟨Nat.le_of_ble_eq_true rfl, Nat.le_of_ble_eq_true rfl⟩ dX3_nextToken_78 (fun x123 v120 w121 p122 => ?_)
      rw [p122.1, p122.2.1]
      have b124 : Bd x123 0 1 := p122.2.2.1
      refine J_if_eq E 100 dX3_nextToken_81 (by decide) (fun c125 => ?_) (fun c125 => ?_)
      · have b126 : Bd x123 0 0 := Bd.eq_l c125 b124 (Bd.lit 0 0 (by decide)) 0 0 (by decide)
        have g127 : ¬ (97 ≤ x118 ∧ x118 ≤ 122) := (p122.2.2.2.2).resolve_left (fun h9 => h9 c125)
        refine J_aload_n E dX3_nextToken_100 0 rfl ?_
        refine J_getR E in_X3 rfl (S_X3.h S0) 0 (by decide) wd252 rfl dX3_nextToken_101 ?_
        refine J_aload_n E dX3_nextToken_104 0 rfl ?_
        refine J_getI E in_X3 rfl (S_X3.h S0) 2 (by decide) wd255 rfl dX3_nextToken_105 (fun x128 e129 => ?_)
        rw [show x128 = x98 from e129.trans (e105).symm]
        refine J_iald1 E (S_X3.f0 S0) (Bd.in b114 (by decide)) dX3_nextToken_108 (fun x130 e131 => ?_)
        refine J_bipush E 48 dX3_nextToken_109 (by decide) ?_
        refine J_bipush E 57 dX3_nextToken_111 (by decide) ?_
        refine J_callSNI E cal_X7_isWithin wd409 [.int x130, .int 48, .int 57] [] (ct_X7_isWithin l D dA G v101 w94 (o103) x130 48 57) rfl rfl (Nat.le_of_ble_eq_true rfl) ⟨rfl, rfl⟩ ⟨Nat.le_of_ble_eq_true rfl, Nat.le_of_ble_eq_true rfl⟩ dX3_nextToken_113 (fun x135 v132 w133 p134 => ?_)
        rw [p134.1, p134.2.1]
        have b136 : Bd x135 0 1 := p134.2.2.1
        refine J_if_eq E 203 dX3_nextToken_116 (by decide) (fun c137 => ?_) (fun c137 => ?_)
        · have b138 : Bd x135 0 0 := Bd.eq_l c137 b136 (Bd.lit 0 0 (by decide)) 0 0 (by decide)
          have g139 : ¬ (48 ≤ x130 ∧ x130 ≤ 57) := (p134.2.2.2.2).resolve_left (fun h9 => h9 c137)
          refine J_aload_n E dX3_nextToken_203 0 rfl ?_
          refine J_aload_n E dX3_nextToken_204 0 rfl ?_
          refine J_getR E in_X3 rfl (S_X3.h S0) 0 (by decide) wd252 rfl dX3_nextToken_205 ?_
          refine J_aload_n E dX3_nextToken_208 0 rfl ?_
          refine J_getI E in_X3 rfl (S_X3.h S0) 2 (by decide) wd255 rfl dX3_nextToken_209 (fun x140 e141 => ?_)
          rw [show x140 = x98 from e141.trans (e105).symm]
          refine J_iald1 E (S_X3.f0 S0) (Bd.in b114 (by decide)) dX3_nextToken_212 (fun x142 e143 => ?_)
          refine J_bipush E 59 dX3_nextToken_213 (by decide) ?_
          refine J_icmp_ne E 222 dX3_nextToken_215 (by decide) (fun c144 => ?_) (fun c144 => ?_)
          · refine J_iconst E 4 dX3_nextToken_222 (by decide) ?_
            exact J.sub [0] rfl (J223 v101 w94 (o103) (k104) f106 4 ((Bd.lit 4 4 (by decide)).w 3 4 (by decide)) x98 (e105) b114)
          · have b145 : Bd x142 59 59 := Bd.eq_l c144 (Bd.any x142) (Bd.lit 59 59 (by decide)) 59 59 (by decide)
            refine J_iconst E 3 dX3_nextToken_218 (by decide) ?_
            refine J_goto E 223 dX3_nextToken_219 (by decide) ?_
            exact J.sub [0] rfl (J223 v101 w94 (o103) (k104) f106 3 ((Bd.lit 3 3 (by decide)).w 3 4 (by decide)) x98 (e105) b114)
        · have b146 : Bd x135 1 1 := (Bd.ne_lo c137 b136 (Bd.lit 0 0 (by decide))).w _ _ (by decide)
          have g147 := (p134.2.2.2.1).resolve_left c137
          have b148 : Bd x130 48 I1 := Bd.le_r g147.1 (Bd.lit 48 48 (by decide)) (Bd.any x130) 48 (by decide)
          have b149 : Bd x130 48 57 := Bd.le_l g147.2 b148 (Bd.lit 57 57 (by decide)) 57 (by decide)
          refine J_aload_n E dX3_nextToken_119 0 rfl ?_
          refine J_bipush E 48 dX3_nextToken_120 (by decide) ?_
          refine J_bipush E 57 dX3_nextToken_122 (by decide) ?_
          refine J_callVV E cal_X3_passRun wd410 rfl (S_X3.h S0) [.int 48, .int 57] [] (ct_X3_passRun l D dA G v101 w94 (o103) h0 S0 48 57 x98 (e105) b114 (by rw [← (e111)]; exact c113) (by rw [← e131]; exact ⟨g147.1, g147.2⟩)) rfl rfl (Nat.le_of_ble_eq_true rfl) ⟨rfl, rfl⟩ ⟨Nat.le_of_ble_eq_true rfl, Nat.le_of_ble_eq_true rfl⟩ dX3_nextToken_124 (fun v150 w151 p152 => ?_)
          have o154 := p152.1
          have k155 : Kp G v v150 := (k104).tr p152.2.1
          have f156 : Fr G [3] v v150 := Fr.tr f106 (p152.2.2.2.2.2) (by decide)
          obtain ⟨x157, e158⟩ : ∃ z : Int32, z = v150 h0 2 := ⟨_, rfl⟩
          have b159 : Bd x157 0 150 := Ok.fd o154 e158 (S_X3.h S0) rfl
          have b160 : Bd x157 1 150 := Bd.e (p152.2.2.2.2.1) e158
          refine J_aload_n E dX3_nextToken_127 0 rfl ?_
          refine J_aload_n E dX3_nextToken_128 0 rfl ?_
          refine J_getI E in_X3 rfl (S_X3.h S0) 2 (by decide) wd255 rfl dX3_nextToken_129 (fun x161 e162 => ?_)
          rw [show x161 = x157 from e162.trans (e158).symm]
          refine J_aload_n E dX3_nextToken_132 0 rfl ?_
          refine J_getI E in_X3 rfl (S_X3.h S0) 4 (by decide) wd257 rfl dX3_nextToken_133 (fun x163 e164 => ?_)
          rw [show x163 = x98 from e164.trans (((e107).trans ((p152.2.2.2.1)).symm)).symm]
          refine J_isub E dX3_nextToken_136 (fun x165 e166 => ?_)
          have b167 : Bd x165 (-148) 150 := (Bd.sub e166 b160 b114 (by decide)).w _ _ (by decide)
          refine J_iconst E 2 dX3_nextToken_137 (by decide) ?_
          refine J_icmp_gt E 145 dX3_nextToken_138 (by decide) (fun c168 => ?_) (fun c168 => ?_)
          · have b169 : Bd x165 3 150 := Bd.lt_r c168 (Bd.lit 2 2 (by decide)) b167 3 (by decide)
            refine J_iconst E 4 dX3_nextToken_145 (by decide) ?_
            exact J.sub [0] rfl (J146 v150 w151 (o154) (k155) f156 4 ((Bd.lit 4 4 (by decide)).w 2 4 (by decide)) x157 (e158) b160 x98 (((e107).trans ((p152.2.2.2.1)).symm)) b114)
          · have b170 : Bd x165 (-148) 2 := Bd.le_l (nlt c168) b167 (Bd.lit 2 2 (by decide)) 2 (by decide)
            refine J_iconst E 2 dX3_nextToken_141 (by decide) ?_
            refine J_goto E 146 dX3_nextToken_142 (by decide) ?_
            exact J.sub [0] rfl (J146 v150 w151 (o154) (k155) f156 2 ((Bd.lit 2 2 (by decide)).w 2 4 (by decide)) x157 (e158) b160 x98 (((e107).trans ((p152.2.2.2.1)).symm)) b114)
      · have b171 : Bd x123 1 1 := (Bd.ne_lo c125 b124 (Bd.lit 0 0 (by decide))).w _ _ (by decide)
        have g172 := (p122.2.2.2.1).resolve_left c125
        have b173 : Bd x118 97 I1 := Bd.le_r g172.1 (Bd.lit 97 97 (by decide)) (Bd.any x118) 97 (by decide)
        have b174 : Bd x118 97 122 := Bd.le_l g172.2 b173 (Bd.lit 122 122 (by decide)) 122 (by decide)
        refine J_aload_n E dX3_nextToken_84 0 rfl ?_
        refine J_bipush E 97 dX3_nextToken_85 (by decide) ?_
        refine J_bipush E 122 dX3_nextToken_87 (by decide) ?_
        refine J_callVV E cal_X3_passRun wd410 rfl (S_X3.h S0) [.int 97, .int 122] [] (ct_X3_passRun l D dA G v101 w94 (o103) h0 S0 97 122 x98 (e105) b114 (by rw [← (e111)]; exact c113) (by rw [← e119]; exact ⟨g172.1, g172.2⟩)) rfl rfl (Nat.le_of_ble_eq_true rfl) ⟨rfl, rfl⟩ ⟨Nat.le_of_ble_eq_true rfl, Nat.le_of_ble_eq_true rfl⟩ dX3_nextToken_89 (fun v175 w176 p177 => ?_)
        have o179 := p177.1
        have k180 : Kp G v v175 := (k104).tr p177.2.1
        have f181 : Fr G [3] v v175 := Fr.tr f106 (p177.2.2.2.2.2) (by decide)
        obtain ⟨x182, e183⟩ : ∃ z : Int32, z = v175 h0 2 := ⟨_, rfl⟩
        have b184 : Bd x182 0 150 := Ok.fd o179 e183 (S_X3.h S0) rfl
        have b185 : Bd x182 1 150 := Bd.e (p177.2.2.2.2.1) e183
        refine J_aload_n E dX3_nextToken_92 0 rfl ?_
        refine J_iconst E 1 dX3_nextToken_93 (by decide) ?_
        refine J_pI E in_X3 rfl (S_X3.h S0) 3 (by decide) wd256 tyX3 tyX3_ok nmX3 rfl rfl .int (by decide +kernel) rfl rfl dX3_nextToken_94 (fun v186 e187 => ?_)
        have o188 : Ok G v186 w176 := Ok.pf o179 e187 (S_X3.h S0) rfl ((Bd.lit 1 1 (by decide)).w I0 I1 (by decide))
        have k189 : Kp G v v186 := Kp.pf k180 e187 (S_X3.h S0) rfl
        have e190 : x110 = v186 h0 1 := by rw [e187, stv_k (by decide)]; exact ((e111).trans ((p177.2.2.1)).symm)
        have e191 : x98 = v186 h0 4 := by rw [e187, stv_k (by decide)]; exact ((e107).trans ((p177.2.2.2.1)).symm)
        have e192 : x182 = v186 h0 2 := by rw [e187, stv_k (by decide)]; exact e183
        have f193 : Fr G [3] v v186 := Fr.st f181 e187 (S_X3.h S0) rfl
        have e194 : (1 : Int32) = v186 h0 3 := by rw [e187, stv_s]
        refine J_goto E 236 dX3_nextToken_97 (by decide) ?_
        exact J_vret E hr dX3_nextToken_236 ⟨o188, k189, f193⟩
    · refine J_aload_n E dX3_nextToken_57 0 rfl ?_
      refine J_iconst E 0 dX3_nextToken_58 (by decide) ?_
      refine J_pI E in_X3 rfl (S_X3.h S0) 3 (by decide) wd256 tyX3 tyX3_ok nmX3 rfl rfl .int (by decide +kernel) rfl rfl dX3_nextToken_59 (fun v195 e196 => ?_)
      have o197 : Ok G v195 w94 := Ok.pf o103 e196 (S_X3.h S0) rfl ((Bd.lit 0 0 (by decide)).w I0 I1 (by decide))
      have k198 : Kp G v v195 := Kp.pf k104 e196 (S_X3.h S0) rfl
      have e199 : x98 = v195 h0 2 := by rw [e196, stv_k (by decide)]; exact e105
      have e200 : x98 = v195 h0 4 := by rw [e196, stv_k (by decide)]; exact e107
      have e201 : x110 = v195 h0 1 := by rw [e196, stv_k (by decide)]; exact e111
      have f202 : Fr G [3] v v195 := Fr.st f106 e196 (S_X3.h S0) rfl
      have e203 : (0 : Int32) = v195 h0 3 := by rw [e196, stv_s]
      refine J_goto E 236 dX3_nextToken_62 (by decide) ?_
      exact J_vret E hr dX3_nextToken_236 ⟨o197, k198, f202⟩
  have J0 : ∀ n : Nat, ∀ (v204 : Mv) (w205 : Mw), Ok G v204 w205 → Kp G v v204 → Fr G [3] v v204 → ∀ x210 : Int32, x210 = v204 h0 2 → Bd x210 0 150 → Mu x210 150 n → J p l e rm_X3_nextToken s m args below meth c 0 0 (MQ below (QcV D dA G (fun v1 w1 => Ok G v1 w1 ∧ Kp G v v1 ∧ Fr G [3] v v1)) args s 0 0 (dm G)) D dA G (dm G) s.heap 1 v204 w205 [(0, .ref h0)] 0 [] := by
    intro n
    induction n with
    | zero => intro v204 w205 o206 k207 f208 x210 e211 b209 hm; exact hm.zero b209 (by decide)
    | succ n ih0 =>
      intro v204 w205 o206 k207 f208 x210 e211 b209 hmu0
      refine J_aload_n E dX3_nextToken_0 0 rfl ?_
      refine J_getI E in_X3 rfl (S_X3.h S0) 2 (by decide) wd255 rfl dX3_nextToken_1 (fun x212 e213 => ?_)
      rw [show x212 = x210 from e213.trans (e211).symm]
      refine J_aload_n E dX3_nextToken_4 0 rfl ?_
      refine J_getI E in_X3 rfl (S_X3.h S0) 1 (by decide) wd253 rfl dX3_nextToken_5 (fun x214 e215 => ?_)
      have b216 : Bd x214 0 150 := Ok.fd o206 e215 (S_X3.h S0) rfl
      refine J_icmp_ge E 38 dX3_nextToken_8 (by decide) (fun c217 => ?_) (fun c217 => ?_)
      · exact J.sub [0] rfl (J38 v204 w205 (o206) (k207) f208)
      · have b218 : Bd x210 0 149 := Bd.lt_l (nle c217) b209 b216 149 (by decide)
        have b219 : Bd x214 1 150 := Bd.lt_r (nle c217) b209 b216 1 (by decide)
        refine J_aload_n E dX3_nextToken_11 0 rfl ?_
        refine J_getR E in_X3 rfl (S_X3.h S0) 0 (by decide) wd252 rfl dX3_nextToken_12 ?_
        refine J_aload_n E dX3_nextToken_15 0 rfl ?_
        refine J_getI E in_X3 rfl (S_X3.h S0) 2 (by decide) wd255 rfl dX3_nextToken_16 (fun x220 e221 => ?_)
        rw [show x220 = x210 from e221.trans (e211).symm]
        refine J_iald1 E (S_X3.f0 S0) (Bd.in b218 (by decide)) dX3_nextToken_19 (fun x222 e223 => ?_)
        refine J_bipush E 32 dX3_nextToken_20 (by decide) ?_
        refine J_icmp_ne E 38 dX3_nextToken_22 (by decide) (fun c224 => ?_) (fun c224 => ?_)
        · exact J.sub [0] rfl (J38 v204 w205 (o206) (k207) f208)
        · have b225 : Bd x222 32 32 := Bd.eq_l c224 (Bd.any x222) (Bd.lit 32 32 (by decide)) 32 32 (by decide)
          refine J_aload_n E dX3_nextToken_25 0 rfl ?_
          refine J_dup E dX3_nextToken_26 rfl ?_
          refine J_getI E in_X3 rfl (S_X3.h S0) 2 (by decide) wd255 rfl dX3_nextToken_27 (fun x226 e227 => ?_)
          rw [show x226 = x210 from e227.trans (e211).symm]
          refine J_iconst E 1 dX3_nextToken_30 (by decide) ?_
          refine J_iadd E dX3_nextToken_31 (fun x228 e229 => ?_)
          have b230 : Bd x228 1 150 := (Bd.add e229 b218 (Bd.lit 1 1 (by decide)) (by decide)).w _ _ (by decide)
          refine J_pI E in_X3 rfl (S_X3.h S0) 2 (by decide) wd255 tyX3 tyX3_ok nmX3 rfl rfl .int (by decide +kernel) rfl rfl dX3_nextToken_32 (fun v231 e232 => ?_)
          have o233 : Ok G v231 w205 := Ok.pf o206 e232 (S_X3.h S0) rfl (b230.w 0 150 (by decide))
          have k234 : Kp G v v231 := Kp.pf k207 e232 (S_X3.h S0) rfl
          have e235 : x214 = v231 h0 1 := by rw [e232, stv_k (by decide)]; exact e215
          have f236 : Fr G [3] v v231 := Fr.st f208 e232 (S_X3.h S0) rfl
          have e237 : x228 = v231 h0 2 := by rw [e232, stv_s]
          refine J_goto E 0 dX3_nextToken_35 (by decide) ?_
          exact J.sub [0] rfl (ih0 v231 w205 (o233) (k234) f236 x228 (e237) (b230.w 0 150 (by decide)) (Mu.step hmu0 e229 b218 (Bd.lit 1 1 (by decide)) (by decide)))
  obtain ⟨x238, e239⟩ : ∃ z : Int32, z = v h0 2 := ⟨_, rfl⟩
  have b240 : Bd x238 0 150 := Ok.fd hOk e239 (S_X3.h S0) rfl
  exact J.sub [0] rfl (J0 151 v w (hOk) (Kp.rf) Fr.rf x238 (e239) b240 (Mu.start _ b240 (by decide)))

abbrev rm_X3_takeNumber : Room := { frames := 3, cells := 0, slots := 0, locals := 64 }
set_option maxHeartbeats 4000000 in
set_option maxRecDepth 100000 in
theorem ct_X3_takeNumber (l : Launch) (D : va_G) (dA : Nat → ClassId) (G : Gm) (v : Mv) (w : Mw) (hOk : Ok G v w) (h0 : Nat) (S0 : S_X3 G h0) (x_0 : Int32) (x_1 : Int32) : CtI l yX3_takeNumber cX3_takeNumber 3 (some .boolean) rm_X3_takeNumber D dA G [.ref h0, .int x_0, .int x_1] v w (fun r v1 w1 => Ok G v1 w1 ∧ Kp G v v1 ∧ Bd r 0 1 ∧ (r = 0 ∨ (x_0 ≤ v1 h0 5 ∧ v1 h0 5 ≤ x_1)) ∧ Fr G [3] v v1) := by
  refine CtI.of RX3 [(0, .ref h0), (1, .int x_0), (2, .int x_1)] (Nat.le_of_ble_eq_true rfl) rfl (by decide) rfl ?_
  intro p e s m args below meth c E hr
  refine J_aload_n E dX3_takeNumber_0 0 rfl ?_
  refine J_callVV E cal_X3_nextToken wd405 rfl (S_X3.h S0) [] [] (ct_X3_nextToken l D dA G v w (hOk) h0 S0) rfl rfl (Nat.le_of_ble_eq_true rfl) ⟨rfl, rfl⟩ ⟨Nat.le_of_ble_eq_true rfl, Nat.le_of_ble_eq_true rfl⟩ dX3_takeNumber_1 (fun v1 w2 p3 => ?_)
  have o5 := p3.1
  have k6 : Kp G v v1 := (Kp.rf).tr p3.2.1
  have f7 : Fr G [3] v v1 := Fr.tr Fr.rf (p3.2.2) (by decide)
  refine J_aload_n E dX3_takeNumber_4 0 rfl ?_
  refine J_getI E in_X3 rfl (S_X3.h S0) 3 (by decide) wd256 rfl dX3_takeNumber_5 (fun x8 e9 => ?_)
  refine J_iconst E 2 dX3_takeNumber_8 (by decide) ?_
  refine J_icmp_ne E 28 dX3_takeNumber_9 (by decide) (fun c10 => ?_) (fun c10 => ?_)
  · refine J_iconst E 0 dX3_takeNumber_28 (by decide) ?_
    exact J_zret E hr (Bd.z (Bd.lit 0 0 (by decide)) (by decide)) dX3_takeNumber_29 ⟨o5, k6, ((Bd.lit 0 0 (by decide)).w 0 1 (by decide)), ⟨(Or.inl rfl), f7⟩⟩
  · have b11 : Bd x8 2 2 := Bd.eq_l c10 (Bd.any x8) (Bd.lit 2 2 (by decide)) 2 2 (by decide)
    refine J_aload_n E dX3_takeNumber_12 0 rfl ?_
    refine J_getI E in_X3 rfl (S_X3.h S0) 5 (by decide) wd258 rfl dX3_takeNumber_13 (fun x12 e13 => ?_)
    refine J_iload_n E dX3_takeNumber_16 1 rfl ?_
    refine J_iload_n E dX3_takeNumber_17 2 rfl ?_
    refine J_callSNI E cal_X7_isWithin wd409 [.int x12, .int x_0, .int x_1] [] (ct_X7_isWithin l D dA G v1 w2 (o5) x12 x_0 x_1) rfl rfl (Nat.le_of_ble_eq_true rfl) ⟨rfl, rfl⟩ ⟨Nat.le_of_ble_eq_true rfl, Nat.le_of_ble_eq_true rfl⟩ dX3_takeNumber_18 (fun x17 v14 w15 p16 => ?_)
    rw [p16.1, p16.2.1]
    have b18 : Bd x17 0 1 := p16.2.2.1
    refine J_if_eq E 28 dX3_takeNumber_21 (by decide) (fun c19 => ?_) (fun c19 => ?_)
    · have b20 : Bd x17 0 0 := Bd.eq_l c19 b18 (Bd.lit 0 0 (by decide)) 0 0 (by decide)
      have g21 : ¬ (x_0 ≤ x12 ∧ x12 ≤ x_1) := (p16.2.2.2.2).resolve_left (fun h9 => h9 c19)
      refine J_iconst E 0 dX3_takeNumber_28 (by decide) ?_
      exact J_zret E hr (Bd.z (Bd.lit 0 0 (by decide)) (by decide)) dX3_takeNumber_29 ⟨o5, k6, ((Bd.lit 0 0 (by decide)).w 0 1 (by decide)), ⟨(Or.inl rfl), f7⟩⟩
    · have b22 : Bd x17 1 1 := (Bd.ne_lo c19 b18 (Bd.lit 0 0 (by decide))).w _ _ (by decide)
      have g23 := (p16.2.2.2.1).resolve_left c19
      refine J_iconst E 1 dX3_takeNumber_24 (by decide) ?_
      refine J_goto E 29 dX3_takeNumber_25 (by decide) ?_
      exact J_zret E hr (Bd.z (Bd.lit 1 1 (by decide)) (by decide)) dX3_takeNumber_29 ⟨o5, k6, ((Bd.lit 1 1 (by decide)).w 0 1 (by decide)), ⟨(Or.inr (by rw [← e13]; exact ⟨g23.1, g23.2⟩)), f7⟩⟩

abbrev rm_X6_addThing : Room := { frames := 0, cells := 0, slots := 0, locals := 0 }
set_option maxHeartbeats 4000000 in
set_option maxRecDepth 100000 in
theorem ct_X6_addThing (l : Launch) (D : va_G) (dA : Nat → ClassId) (G : Gm) (v : Mv) (w : Mw) (hOk : Ok G v w) (h0 : Nat) (S0 : S_X6 G h0) (x_0 : Int32) (bx_0 : Bd x_0 0 5) (x_1 : Int32) (bx_1 : Bd x_1 1 30) (z_0 : Int32) (ez_0 : z_0 = v h0 0) (pre0 : Bd z_0 0 6) : CtI l yX6_addThing cX6_addThing 4 (some .int) rm_X6_addThing D dA G [.ref h0, .int x_0, .int x_1] v w (fun r v1 w1 => Ok G v1 w1 ∧ Kp G v v1 ∧ Bd r 0 6 ∧ Fr G [6, 107] v v1) := by
  refine CtI.of RX6 [(0, .ref h0), (1, .int x_0), (2, .int x_1)] (Nat.le_of_ble_eq_true rfl) rfl (by decide) rfl ?_
  intro p e s m args below meth c E hr
  refine J_aload_n E dX6_addThing_0 0 rfl ?_
  refine J_getI E in_X6 rfl (S_X6.h S0) 0 (by decide) wd191 rfl dX6_addThing_1 (fun x1 e2 => ?_)
  rw [show x1 = z_0 from e2.trans (ez_0).symm]
  refine J_istore_n E [(3, .int z_0), (0, .ref h0), (1, .int x_0), (2, .int x_1)] dX6_addThing_4 rfl (by decide) rfl ?_
  refine J_aload_n E dX6_addThing_5 1 rfl ?_
  refine J_getR E in_X6 rfl (S_X6.h S0) 1 (by decide) wd195 rfl dX6_addThing_6 ?_
  refine J_iload_n E dX6_addThing_9 0 rfl ?_
  refine J_iload_n E dX6_addThing_10 2 rfl ?_
  refine J_iast1 E (S_X6.f1 S0) (Bd.in pre0 (by decide)) dX6_addThing_11 (fun v3 e4 => ?_)
  have o5 : Ok G v3 w := by rw [e4]; exact Ok.sv hOk (S_X6.f1 S0) pre0 bx_0 0 7 (by decide) (by decide +kernel)
  have k6 : Kp G v v3 := by rw [e4]; exact Kp.sv Kp.rf (S_X6.f1 S0) pre0 0 7 0 5 (by decide) (by decide +kernel)
  have f7 : Fr G [6, 107] v v3 := Fr.st Fr.rf e4 (S_X6.f1 S0) rfl
  have e8 : z_0 = v3 h0 0 := by rw [e4, stv_a (tg_ne (S_X6.h S0) ((S_X6.f1 S0)) rfl)]; exact ez_0
  refine J_aload_n E dX6_addThing_12 1 rfl ?_
  refine J_getR E in_X6 rfl (S_X6.h S0) 2 (by decide) wd197 rfl dX6_addThing_13 ?_
  refine J_iload_n E dX6_addThing_16 0 rfl ?_
  refine J_iload_n E dX6_addThing_17 3 rfl ?_
  refine J_iast1 E (S_X6.f2 S0) (Bd.in pre0 (by decide)) dX6_addThing_18 (fun v9 e10 => ?_)
  have o11 : Ok G v9 w := by rw [e10]; exact Ok.sv o5 (S_X6.f2 S0) pre0 bx_1 0 7 (by decide) (by decide +kernel)
  have k12 : Kp G v v9 := by rw [e10]; exact Kp.sv k6 (S_X6.f2 S0) pre0 0 7 1 30 (by decide) (by decide +kernel)
  have f13 : Fr G [6, 107] v v9 := Fr.st f7 e10 (S_X6.f2 S0) rfl
  have e14 : z_0 = v9 h0 0 := by rw [e10, stv_a (tg_ne (S_X6.h S0) ((S_X6.f2 S0)) rfl)]; exact e8
  refine J_aload_n E dX6_addThing_19 1 rfl ?_
  refine J_dup E dX6_addThing_20 rfl ?_
  refine J_getI E in_X6 rfl (S_X6.h S0) 0 (by decide) wd191 rfl dX6_addThing_21 (fun x15 e16 => ?_)
  rw [show x15 = z_0 from e16.trans (e14).symm]
  refine J_iconst E 1 dX6_addThing_24 (by decide) ?_
  refine J_iadd E dX6_addThing_25 (fun x17 e18 => ?_)
  have b19 : Bd x17 1 7 := (Bd.add e18 pre0 (Bd.lit 1 1 (by decide)) (by decide)).w _ _ (by decide)
  refine J_pI E in_X6 rfl (S_X6.h S0) 0 (by decide) wd191 tyX6 tyX6_ok nmX6 rfl rfl .int (by decide +kernel) rfl rfl dX6_addThing_26 (fun v20 e21 => ?_)
  have o22 : Ok G v20 w := Ok.pf o11 e21 (S_X6.h S0) rfl (b19.w 0 7 (by decide))
  have k23 : Kp G v v20 := Kp.pf k12 e21 (S_X6.h S0) rfl
  have f24 : Fr G [6, 107] v v20 := Fr.st f13 e21 (S_X6.h S0) rfl
  have e25 : x17 = v20 h0 0 := by rw [e21, stv_s]
  refine J_aload_n E dX6_addThing_29 1 rfl ?_
  refine J_iconst E 0 dX6_addThing_30 (by decide) ?_
  refine J_pI E in_X6 rfl (S_X6.h S0) 8 (by decide) wd211 tyX6 tyX6_ok nmX6 rfl rfl .int (by decide +kernel) rfl rfl dX6_addThing_31 (fun v26 e27 => ?_)
  have o28 : Ok G v26 w := Ok.pf o22 e27 (S_X6.h S0) rfl ((Bd.lit 0 0 (by decide)).w 0 8 (by decide))
  have k29 : Kp G v v26 := Kp.pf k23 e27 (S_X6.h S0) rfl
  have e30 : x17 = v26 h0 0 := by rw [e27, stv_k (by decide)]; exact e25
  have f31 : Fr G [6, 107] v v26 := Fr.st f24 e27 (S_X6.h S0) rfl
  have e32 : (0 : Int32) = v26 h0 8 := by rw [e27, stv_s]
  refine J_iload_n E dX6_addThing_34 0 rfl ?_
  exact J_iret E hr dX6_addThing_35 ⟨o28, k29, pre0, f31⟩

abbrev rm_X3_takeThing : Room := { frames := 4, cells := 0, slots := 0, locals := 86 }
set_option maxHeartbeats 4000000 in
set_option maxRecDepth 100000 in
theorem ct_X3_takeThing (l : Launch) (D : va_G) (dA : Nat → ClassId) (G : Gm) (v : Mv) (w : Mw) (hOk : Ok G v w) (h0 : Nat) (S0 : S_X3 G h0) : CtI l yX3_takeThing cX3_takeThing 2 (some .boolean) rm_X3_takeThing D dA G [.ref h0] v w (fun r v1 w1 => Ok G v1 w1 ∧ Kp G v v1 ∧ Bd r 0 1 ∧ Fr G [3, 6, 107] v v1) := by
  refine CtI.of RX3 [(0, .ref h0)] (Nat.le_of_ble_eq_true rfl) rfl (by decide) rfl ?_
  intro p e s m args below meth c E hr
  refine J_aload_n E dX3_takeThing_0 0 rfl ?_
  refine J_getR E in_X3 rfl (S_X3.h S0) 6 (by decide) wd259 rfl dX3_takeThing_1 ?_
  refine J_getIN E in_X6 rfl (S_X6.h (S_X3.f6 S0)) 0 (by decide) wd194 rfl dX3_takeThing_4 (fun x1 e2 => ?_)
  have b3 : Bd x1 0 7 := Ok.fd hOk e2 (S_X6.h (S_X3.f6 S0)) rfl
  refine J_bipush E 7 dX3_takeThing_7 (by decide) ?_
  refine J_icmp_ge E 21 dX3_takeThing_9 (by decide) (fun c4 => ?_) (fun c4 => ?_)
  · have b5 : Bd x1 7 7 := Bd.le_r c4 (Bd.lit 7 7 (by decide)) b3 7 (by decide)
    refine J_iconst E 0 dX3_takeThing_21 (by decide) ?_
    exact J_zret E hr (Bd.z (Bd.lit 0 0 (by decide)) (by decide)) dX3_takeThing_22 ⟨hOk, Kp.rf, ((Bd.lit 0 0 (by decide)).w 0 1 (by decide)), Fr.rf⟩
  · have b6 : Bd x1 0 6 := Bd.lt_l (nle c4) b3 (Bd.lit 7 7 (by decide)) 6 (by decide)
    refine J_aload_n E dX3_takeThing_12 0 rfl ?_
    refine J_iconst E 0 dX3_takeThing_13 (by decide) ?_
    refine J_iconst E 5 dX3_takeThing_14 (by decide) ?_
    refine J_callVI E cal_X3_takeNumber wd476 rfl (S_X3.h S0) [.int 0, .int 5] [] (ct_X3_takeNumber l D dA G v w (hOk) h0 S0 0 5) rfl rfl (Nat.le_of_ble_eq_true rfl) ⟨rfl, rfl⟩ ⟨Nat.le_of_ble_eq_true rfl, Nat.le_of_ble_eq_true rfl⟩ dX3_takeThing_15 (fun x10 v7 w8 p9 => ?_)
    have o11 := p9.1
    have k12 : Kp G v v7 := (Kp.rf).tr p9.2.1
    have f13 : Fr G [3, 6, 107] v v7 := Fr.tr Fr.rf (p9.2.2.2.2) (by decide)
    have b14 : Bd x10 0 1 := p9.2.2.1
    refine J_if_ne E 23 dX3_takeThing_18 (by decide) (fun c15 => ?_) (fun c15 => ?_)
    · have b16 : Bd x10 1 1 := (Bd.ne_lo c15 b14 (Bd.lit 0 0 (by decide))).w _ _ (by decide)
      obtain ⟨x17, e18⟩ : ∃ z : Int32, z = v7 h0 5 := ⟨_, rfl⟩
      have g19 : 0 ≤ x17 ∧ x17 ≤ 5 := by rw [e18]; exact (p9.2.2.2.1).resolve_left c15
      have b20 : Bd x17 0 I1 := Bd.le_r g19.1 (Bd.lit 0 0 (by decide)) (Bd.any x17) 0 (by decide)
      have b21 : Bd x17 0 5 := Bd.le_l g19.2 b20 (Bd.lit 5 5 (by decide)) 5 (by decide)
      refine J_aload_n E dX3_takeThing_23 0 rfl ?_
      refine J_getI E in_X3 rfl (S_X3.h S0) 5 (by decide) wd258 rfl dX3_takeThing_24 (fun x22 e23 => ?_)
      rw [show x22 = x17 from e23.trans (e18).symm]
      refine J_istore_n E [(1, .int x17), (0, .ref h0)] dX3_takeThing_27 rfl (by decide) rfl ?_
      refine J_aload_n E dX3_takeThing_28 1 rfl ?_
      refine J_iconst E 1 dX3_takeThing_29 (by decide) ?_
      refine J_bipush E 30 dX3_takeThing_30 (by decide) ?_
      refine J_callVI E cal_X3_takeNumber wd476 rfl (S_X3.h S0) [.int 1, .int 30] [] (ct_X3_takeNumber l D dA G v7 w8 (o11) h0 S0 1 30) rfl rfl (Nat.le_of_ble_eq_true rfl) ⟨rfl, rfl⟩ ⟨Nat.le_of_ble_eq_true rfl, Nat.le_of_ble_eq_true rfl⟩ dX3_takeThing_32 (fun x27 v24 w25 p26 => ?_)
      have o28 := p26.1
      have k29 : Kp G v v24 := (k12).tr p26.2.1
      have f30 : Fr G [3, 6, 107] v v24 := Fr.tr f13 (p26.2.2.2.2) (by decide)
      have b31 : Bd x27 0 1 := p26.2.2.1
      refine J_if_ne E 40 dX3_takeThing_35 (by decide) (fun c32 => ?_) (fun c32 => ?_)
      · have b33 : Bd x27 1 1 := (Bd.ne_lo c32 b31 (Bd.lit 0 0 (by decide))).w _ _ (by decide)
        obtain ⟨x34, e35⟩ : ∃ z : Int32, z = v24 h0 5 := ⟨_, rfl⟩
        have g36 : 1 ≤ x34 ∧ x34 ≤ 30 := by rw [e35]; exact (p26.2.2.2.1).resolve_left c32
        have b37 : Bd x34 1 I1 := Bd.le_r g36.1 (Bd.lit 1 1 (by decide)) (Bd.any x34) 1 (by decide)
        have b38 : Bd x34 1 30 := Bd.le_l g36.2 b37 (Bd.lit 30 30 (by decide)) 30 (by decide)
        refine J_aload_n E dX3_takeThing_40 1 rfl ?_
        refine J_getR E in_X3 rfl (S_X3.h S0) 6 (by decide) wd259 rfl dX3_takeThing_41 ?_
        refine J_iload_n E dX3_takeThing_44 0 rfl ?_
        refine J_aload_n E dX3_takeThing_45 1 rfl ?_
        refine J_getI E in_X3 rfl (S_X3.h S0) 5 (by decide) wd258 rfl dX3_takeThing_46 (fun x39 e40 => ?_)
        rw [show x39 = x34 from e40.trans (e35).symm]
        refine J_callVNI E cal_X6_addThing wd480 rfl (S_X6.h (S_X3.f6 S0)) [.int x17, .int x34] [] (ct_X6_addThing l D dA G v24 w25 (o28) (rf G h0 6) (S_X3.f6 S0) x17 b21 x34 b38 x1 (((((e2).trans (Fr.at (p9.2.2.2.2) (S_X6.h (S_X3.f6 S0)) rfl 0).symm)).trans (Fr.at (p26.2.2.2.2) (S_X6.h (S_X3.f6 S0)) rfl 0).symm)) b6) rfl rfl (Nat.le_of_ble_eq_true rfl) ⟨rfl, rfl⟩ ⟨Nat.le_of_ble_eq_true rfl, Nat.le_of_ble_eq_true rfl⟩ dX3_takeThing_49 (fun x44 v41 w42 p43 => ?_)
        have o45 := p43.1
        have k46 : Kp G v v41 := (k29).tr p43.2.1
        have f47 : Fr G [3, 6, 107] v v41 := Fr.tr f30 (p43.2.2.2) (by decide)
        have b48 : Bd x44 0 6 := p43.2.2.1
        refine J_pop E dX3_takeThing_52 rfl ?_
        refine J_iconst E 1 dX3_takeThing_53 (by decide) ?_
        exact J_zret E hr (Bd.z (Bd.lit 1 1 (by decide)) (by decide)) dX3_takeThing_54 ⟨o45, k46, ((Bd.lit 1 1 (by decide)).w 0 1 (by decide)), f47⟩
      · have b49 : Bd x27 0 0 := Bd.eq_l c32 b31 (Bd.lit 0 0 (by decide)) 0 0 (by decide)
        refine J_iconst E 0 dX3_takeThing_38 (by decide) ?_
        exact J_zret E hr (Bd.z (Bd.lit 0 0 (by decide)) (by decide)) dX3_takeThing_39 ⟨o28, k29, ((Bd.lit 0 0 (by decide)).w 0 1 (by decide)), f30⟩
    · have b50 : Bd x10 0 0 := Bd.eq_l c15 b14 (Bd.lit 0 0 (by decide)) 0 0 (by decide)
      refine J_iconst E 0 dX3_takeThing_21 (by decide) ?_
      exact J_zret E hr (Bd.z (Bd.lit 0 0 (by decide)) (by decide)) dX3_takeThing_22 ⟨o11, k12, ((Bd.lit 0 0 (by decide)).w 0 1 (by decide)), f13⟩

abbrev rm_X6_addOne : Room := { frames := 0, cells := 0, slots := 0, locals := 0 }
set_option maxHeartbeats 4000000 in
set_option maxRecDepth 100000 in
theorem ct_X6_addOne (l : Launch) (D : va_G) (dA : Nat → ClassId) (G : Gm) (v : Mv) (w : Mw) (hOk : Ok G v w) (h0 : Nat) (S0 : S_X6 G h0) (x_0 : Int32) (bx_0 : Bd x_0 0 5) (x_1 : Int32) (bx_1 : Bd x_1 1 9) (x_2 : Int32) (bx_2 : Bd x_2 0 99) (z_0 : Int32) (ez_0 : z_0 = v h0 3) (pre0 : Bd z_0 0 6) : CtI l yX6_addOne cX6_addOne 5 (some .int) rm_X6_addOne D dA G [.ref h0, .int x_0, .int x_1, .int x_2] v w (fun r v1 w1 => Ok G v1 w1 ∧ Kp G v v1 ∧ Bd r 0 6 ∧ Fr G [2, 6, 107] v v1) := by
  refine CtI.of RX6 [(0, .ref h0), (1, .int x_0), (2, .int x_1), (3, .int x_2)] (Nat.le_of_ble_eq_true rfl) rfl (by decide) rfl ?_
  intro p e s m args below meth c E hr
  refine J_aload_n E dX6_addOne_0 0 rfl ?_
  refine J_getI E in_X6 rfl (S_X6.h S0) 3 (by decide) wd201 rfl dX6_addOne_1 (fun x1 e2 => ?_)
  rw [show x1 = z_0 from e2.trans (ez_0).symm]
  refine J_istore E [(4, .int z_0), (0, .ref h0), (1, .int x_0), (2, .int x_1), (3, .int x_2)] dX6_addOne_4 (by decide) rfl ?_
  refine J_aload_n E dX6_addOne_6 1 rfl ?_
  refine J_getR E in_X6 rfl (S_X6.h S0) 4 (by decide) wd203 rfl dX6_addOne_7 ?_
  refine J_iload E dX6_addOne_10 0 rfl ?_
  refine J_iload_n E dX6_addOne_12 2 rfl ?_
  refine J_iast1 E (S_X6.f4 S0) (Bd.in pre0 (by decide)) dX6_addOne_13 (fun v3 e4 => ?_)
  have o5 : Ok G v3 w := by rw [e4]; exact Ok.sv hOk (S_X6.f4 S0) pre0 bx_0 0 7 (by decide) (by decide +kernel)
  have k6 : Kp G v v3 := by rw [e4]; exact Kp.sv Kp.rf (S_X6.f4 S0) pre0 0 7 0 5 (by decide) (by decide +kernel)
  have f7 : Fr G [2, 6, 107] v v3 := Fr.st Fr.rf e4 (S_X6.f4 S0) rfl
  have e8 : z_0 = v3 h0 3 := by rw [e4, stv_a (tg_ne (S_X6.h S0) ((S_X6.f4 S0)) rfl)]; exact ez_0
  refine J_aload_n E dX6_addOne_14 1 rfl ?_
  refine J_getR E in_X6 rfl (S_X6.h S0) 5 (by decide) wd205 rfl dX6_addOne_15 ?_
  refine J_iload E dX6_addOne_18 0 rfl ?_
  refine J_iload_n E dX6_addOne_20 3 rfl ?_
  refine J_iast1 E (S_X6.f5 S0) (Bd.in pre0 (by decide)) dX6_addOne_21 (fun v9 e10 => ?_)
  have o11 : Ok G v9 w := by rw [e10]; exact Ok.sv o5 (S_X6.f5 S0) pre0 bx_1 0 7 (by decide) (by decide +kernel)
  have k12 : Kp G v v9 := by rw [e10]; exact Kp.sv k6 (S_X6.f5 S0) pre0 0 7 1 9 (by decide) (by decide +kernel)
  have f13 : Fr G [2, 6, 107] v v9 := Fr.st f7 e10 (S_X6.f5 S0) rfl
  have e14 : z_0 = v9 h0 3 := by rw [e10, stv_a (tg_ne (S_X6.h S0) ((S_X6.f5 S0)) rfl)]; exact e8
  refine J_aload_n E dX6_addOne_22 1 rfl ?_
  refine J_getR E in_X6 rfl (S_X6.h S0) 6 (by decide) wd207 rfl dX6_addOne_23 ?_
  refine J_getRN E in_X2 rfl (S_X2.h (S_X6.f6 S0)) 0 (by decide) wd151 rfl dX6_addOne_26 ?_
  refine J_iload E dX6_addOne_29 0 rfl ?_
  refine J_iload_n E dX6_addOne_31 4 rfl ?_
  refine J_iast1 E (S_X2.f0 (S_X6.f6 S0)) (Bd.in pre0 (by decide)) dX6_addOne_32 (fun v15 e16 => ?_)
  have o17 : Ok G v15 w := by rw [e16]; exact Ok.sv o11 (S_X2.f0 (S_X6.f6 S0)) pre0 bx_2 0 7 (by decide) (by decide +kernel)
  have k18 : Kp G v v15 := by rw [e16]; exact Kp.sv k12 (S_X2.f0 (S_X6.f6 S0)) pre0 0 7 0 99 (by decide) (by decide +kernel)
  have f19 : Fr G [2, 6, 107] v v15 := Fr.st f13 e16 (S_X2.f0 (S_X6.f6 S0)) rfl
  have e20 : z_0 = v15 h0 3 := by rw [e16, stv_a (tg_ne (S_X6.h S0) ((S_X2.f0 (S_X6.f6 S0))) rfl)]; exact e14
  refine J_aload_n E dX6_addOne_33 1 rfl ?_
  refine J_getR E in_X6 rfl (S_X6.h S0) 6 (by decide) wd207 rfl dX6_addOne_34 ?_
  refine J_getRN E in_X2 rfl (S_X2.h (S_X6.f6 S0)) 1 (by decide) wd153 rfl dX6_addOne_37 ?_
  refine J_iload E dX6_addOne_40 0 rfl ?_
  refine J_iconst E (-1) dX6_addOne_42 (by decide) ?_
  refine J_iast1 E (S_X2.f1 (S_X6.f6 S0)) (Bd.in pre0 (by decide)) dX6_addOne_43 (fun v21 e22 => ?_)
  have o23 : Ok G v21 w := by rw [e22]; exact Ok.sv o17 (S_X2.f1 (S_X6.f6 S0)) pre0 (Bd.lit (-1) (-1) (by decide)) 0 7 (by decide) (by decide +kernel)
  have k24 : Kp G v v21 := by rw [e22]; exact Kp.sv k18 (S_X2.f1 (S_X6.f6 S0)) pre0 0 7 (-1) (-1) (by decide) (by decide +kernel)
  have f25 : Fr G [2, 6, 107] v v21 := Fr.st f19 e22 (S_X2.f1 (S_X6.f6 S0)) rfl
  have e26 : z_0 = v21 h0 3 := by rw [e22, stv_a (tg_ne (S_X6.h S0) ((S_X2.f1 (S_X6.f6 S0))) rfl)]; exact e20
  refine J_aload_n E dX6_addOne_44 1 rfl ?_
  refine J_getR E in_X6 rfl (S_X6.h S0) 6 (by decide) wd207 rfl dX6_addOne_45 ?_
  refine J_dup E dX6_addOne_48 rfl ?_
  refine J_getIN E in_X2 rfl (S_X2.h (S_X6.f6 S0)) 2 (by decide) wd156 rfl dX6_addOne_49 (fun x27 e28 => ?_)
  refine J_iconst E 1 dX6_addOne_52 (by decide) ?_
  refine J_iload E dX6_addOne_53 0 rfl ?_
  refine J_ishl E dX6_addOne_55 (fun x29 e30 => ?_)
  have b31 : Bd x29 1 64 := Bd.shl1 e30 pre0 6 (by decide)
  refine J_ior E dX6_addOne_56 (fun x32 e33 => ?_)
  refine J_pIN E in_X2 rfl (S_X2.h (S_X6.f6 S0)) 2 (by decide) wd156 tyX2 tyX2_ok nmX2 rfl rfl .int (by decide +kernel) rfl rfl dX6_addOne_57 (fun v34 e35 => ?_)
  have o36 : Ok G v34 w := Ok.pf o23 e35 (S_X2.h (S_X6.f6 S0)) rfl (Bd.any x32)
  have k37 : Kp G v v34 := Kp.pf k24 e35 (S_X2.h (S_X6.f6 S0)) rfl
  have e38 : z_0 = v34 h0 3 := by rw [e35, stv_k (by decide)]; exact e26
  have f39 : Fr G [2, 6, 107] v v34 := Fr.st f25 e35 (S_X2.h (S_X6.f6 S0)) rfl
  have e40 : x32 = v34 (rf G h0 6) 2 := by rw [e35, stv_s]
  refine J_aload_n E dX6_addOne_60 1 rfl ?_
  refine J_dup E dX6_addOne_61 rfl ?_
  refine J_getI E in_X6 rfl (S_X6.h S0) 3 (by decide) wd201 rfl dX6_addOne_62 (fun x41 e42 => ?_)
  rw [show x41 = z_0 from e42.trans (e38).symm]
  refine J_iconst E 1 dX6_addOne_65 (by decide) ?_
  refine J_iadd E dX6_addOne_66 (fun x43 e44 => ?_)
  have b45 : Bd x43 1 7 := (Bd.add e44 pre0 (Bd.lit 1 1 (by decide)) (by decide)).w _ _ (by decide)
  refine J_pI E in_X6 rfl (S_X6.h S0) 3 (by decide) wd201 tyX6 tyX6_ok nmX6 rfl rfl .int (by decide +kernel) rfl rfl dX6_addOne_67 (fun v46 e47 => ?_)
  have o48 : Ok G v46 w := Ok.pf o36 e47 (S_X6.h S0) rfl (b45.w 0 7 (by decide))
  have k49 : Kp G v v46 := Kp.pf k37 e47 (S_X6.h S0) rfl
  have e50 : x32 = v46 (rf G h0 6) 2 := by rw [e47, stv_k (by decide)]; exact e40
  have f51 : Fr G [2, 6, 107] v v46 := Fr.st f39 e47 (S_X6.h S0) rfl
  have e52 : x43 = v46 h0 3 := by rw [e47, stv_s]
  refine J_aload_n E dX6_addOne_70 1 rfl ?_
  refine J_iconst E 0 dX6_addOne_71 (by decide) ?_
  refine J_pI E in_X6 rfl (S_X6.h S0) 8 (by decide) wd211 tyX6 tyX6_ok nmX6 rfl rfl .int (by decide +kernel) rfl rfl dX6_addOne_72 (fun v53 e54 => ?_)
  have o55 : Ok G v53 w := Ok.pf o48 e54 (S_X6.h S0) rfl ((Bd.lit 0 0 (by decide)).w 0 8 (by decide))
  have k56 : Kp G v v53 := Kp.pf k49 e54 (S_X6.h S0) rfl
  have e57 : x32 = v53 (rf G h0 6) 2 := by rw [e54, stv_k (by decide)]; exact e50
  have e58 : x43 = v53 h0 3 := by rw [e54, stv_k (by decide)]; exact e52
  have f59 : Fr G [2, 6, 107] v v53 := Fr.st f51 e54 (S_X6.h S0) rfl
  have e60 : (0 : Int32) = v53 h0 8 := by rw [e54, stv_s]
  refine J_iload E dX6_addOne_75 0 rfl ?_
  exact J_iret E hr dX6_addOne_77 ⟨o55, k56, pre0, f59⟩

abbrev rm_X3_takeOne : Room := { frames := 4, cells := 0, slots := 0, locals := 86 }
set_option maxHeartbeats 4000000 in
set_option maxRecDepth 100000 in
theorem ct_X3_takeOne (l : Launch) (D : va_G) (dA : Nat → ClassId) (G : Gm) (v : Mv) (w : Mw) (hOk : Ok G v w) (h0 : Nat) (S0 : S_X3 G h0) : CtI l yX3_takeOne cX3_takeOne 3 (some .boolean) rm_X3_takeOne D dA G [.ref h0] v w (fun r v1 w1 => Ok G v1 w1 ∧ Kp G v v1 ∧ Bd r 0 1 ∧ Fr G [2, 3, 6, 107] v v1) := by
  refine CtI.of RX3 [(0, .ref h0)] (Nat.le_of_ble_eq_true rfl) rfl (by decide) rfl ?_
  intro p e s m args below meth c E hr
  refine J_aload_n E dX3_takeOne_0 0 rfl ?_
  refine J_getR E in_X3 rfl (S_X3.h S0) 6 (by decide) wd259 rfl dX3_takeOne_1 ?_
  refine J_getIN E in_X6 rfl (S_X6.h (S_X3.f6 S0)) 3 (by decide) wd202 rfl dX3_takeOne_4 (fun x1 e2 => ?_)
  have b3 : Bd x1 0 7 := Ok.fd hOk e2 (S_X6.h (S_X3.f6 S0)) rfl
  refine J_bipush E 7 dX3_takeOne_7 (by decide) ?_
  refine J_icmp_ge E 21 dX3_takeOne_9 (by decide) (fun c4 => ?_) (fun c4 => ?_)
  · have b5 : Bd x1 7 7 := Bd.le_r c4 (Bd.lit 7 7 (by decide)) b3 7 (by decide)
    refine J_iconst E 0 dX3_takeOne_21 (by decide) ?_
    exact J_zret E hr (Bd.z (Bd.lit 0 0 (by decide)) (by decide)) dX3_takeOne_22 ⟨hOk, Kp.rf, ((Bd.lit 0 0 (by decide)).w 0 1 (by decide)), Fr.rf⟩
  · have b6 : Bd x1 0 6 := Bd.lt_l (nle c4) b3 (Bd.lit 7 7 (by decide)) 6 (by decide)
    refine J_aload_n E dX3_takeOne_12 0 rfl ?_
    refine J_iconst E 0 dX3_takeOne_13 (by decide) ?_
    refine J_iconst E 5 dX3_takeOne_14 (by decide) ?_
    refine J_callVI E cal_X3_takeNumber wd476 rfl (S_X3.h S0) [.int 0, .int 5] [] (ct_X3_takeNumber l D dA G v w (hOk) h0 S0 0 5) rfl rfl (Nat.le_of_ble_eq_true rfl) ⟨rfl, rfl⟩ ⟨Nat.le_of_ble_eq_true rfl, Nat.le_of_ble_eq_true rfl⟩ dX3_takeOne_15 (fun x10 v7 w8 p9 => ?_)
    have o11 := p9.1
    have k12 : Kp G v v7 := (Kp.rf).tr p9.2.1
    have f13 : Fr G [2, 3, 6, 107] v v7 := Fr.tr Fr.rf (p9.2.2.2.2) (by decide)
    have b14 : Bd x10 0 1 := p9.2.2.1
    refine J_if_ne E 23 dX3_takeOne_18 (by decide) (fun c15 => ?_) (fun c15 => ?_)
    · have b16 : Bd x10 1 1 := (Bd.ne_lo c15 b14 (Bd.lit 0 0 (by decide))).w _ _ (by decide)
      obtain ⟨x17, e18⟩ : ∃ z : Int32, z = v7 h0 5 := ⟨_, rfl⟩
      have g19 : 0 ≤ x17 ∧ x17 ≤ 5 := by rw [e18]; exact (p9.2.2.2.1).resolve_left c15
      have b20 : Bd x17 0 I1 := Bd.le_r g19.1 (Bd.lit 0 0 (by decide)) (Bd.any x17) 0 (by decide)
      have b21 : Bd x17 0 5 := Bd.le_l g19.2 b20 (Bd.lit 5 5 (by decide)) 5 (by decide)
      refine J_aload_n E dX3_takeOne_23 0 rfl ?_
      refine J_getI E in_X3 rfl (S_X3.h S0) 5 (by decide) wd258 rfl dX3_takeOne_24 (fun x22 e23 => ?_)
      rw [show x22 = x17 from e23.trans (e18).symm]
      refine J_istore_n E [(1, .int x17), (0, .ref h0)] dX3_takeOne_27 rfl (by decide) rfl ?_
      refine J_aload_n E dX3_takeOne_28 1 rfl ?_
      refine J_iconst E 1 dX3_takeOne_29 (by decide) ?_
      refine J_bipush E 9 dX3_takeOne_30 (by decide) ?_
      refine J_callVI E cal_X3_takeNumber wd476 rfl (S_X3.h S0) [.int 1, .int 9] [] (ct_X3_takeNumber l D dA G v7 w8 (o11) h0 S0 1 9) rfl rfl (Nat.le_of_ble_eq_true rfl) ⟨rfl, rfl⟩ ⟨Nat.le_of_ble_eq_true rfl, Nat.le_of_ble_eq_true rfl⟩ dX3_takeOne_32 (fun x27 v24 w25 p26 => ?_)
      have o28 := p26.1
      have k29 : Kp G v v24 := (k12).tr p26.2.1
      have f30 : Fr G [2, 3, 6, 107] v v24 := Fr.tr f13 (p26.2.2.2.2) (by decide)
      have b31 : Bd x27 0 1 := p26.2.2.1
      refine J_if_ne E 40 dX3_takeOne_35 (by decide) (fun c32 => ?_) (fun c32 => ?_)
      · have b33 : Bd x27 1 1 := (Bd.ne_lo c32 b31 (Bd.lit 0 0 (by decide))).w _ _ (by decide)
        obtain ⟨x34, e35⟩ : ∃ z : Int32, z = v24 h0 5 := ⟨_, rfl⟩
        have g36 : 1 ≤ x34 ∧ x34 ≤ 9 := by rw [e35]; exact (p26.2.2.2.1).resolve_left c32
        have b37 : Bd x34 1 I1 := Bd.le_r g36.1 (Bd.lit 1 1 (by decide)) (Bd.any x34) 1 (by decide)
        have b38 : Bd x34 1 9 := Bd.le_l g36.2 b37 (Bd.lit 9 9 (by decide)) 9 (by decide)
        refine J_aload_n E dX3_takeOne_40 1 rfl ?_
        refine J_getI E in_X3 rfl (S_X3.h S0) 5 (by decide) wd258 rfl dX3_takeOne_41 (fun x39 e40 => ?_)
        rw [show x39 = x34 from e40.trans (e35).symm]
        refine J_istore_n E [(2, .int x34), (1, .int x17), (0, .ref h0)] dX3_takeOne_44 rfl (by decide) rfl ?_
        refine J_aload_n E dX3_takeOne_45 2 rfl ?_
        refine J_iconst E 0 dX3_takeOne_46 (by decide) ?_
        refine J_bipush E 99 dX3_takeOne_47 (by decide) ?_
        refine J_callVI E cal_X3_takeNumber wd476 rfl (S_X3.h S0) [.int 0, .int 99] [] (ct_X3_takeNumber l D dA G v24 w25 (o28) h0 S0 0 99) rfl rfl (Nat.le_of_ble_eq_true rfl) ⟨rfl, rfl⟩ ⟨Nat.le_of_ble_eq_true rfl, Nat.le_of_ble_eq_true rfl⟩ dX3_takeOne_49 (fun x44 v41 w42 p43 => ?_)
        have o45 := p43.1
        have k46 : Kp G v v41 := (k29).tr p43.2.1
        have f47 : Fr G [2, 3, 6, 107] v v41 := Fr.tr f30 (p43.2.2.2.2) (by decide)
        have b48 : Bd x44 0 1 := p43.2.2.1
        refine J_if_ne E 57 dX3_takeOne_52 (by decide) (fun c49 => ?_) (fun c49 => ?_)
        · have b50 : Bd x44 1 1 := (Bd.ne_lo c49 b48 (Bd.lit 0 0 (by decide))).w _ _ (by decide)
          obtain ⟨x51, e52⟩ : ∃ z : Int32, z = v41 h0 5 := ⟨_, rfl⟩
          have g53 : 0 ≤ x51 ∧ x51 ≤ 99 := by rw [e52]; exact (p43.2.2.2.1).resolve_left c49
          have b54 : Bd x51 0 I1 := Bd.le_r g53.1 (Bd.lit 0 0 (by decide)) (Bd.any x51) 0 (by decide)
          have b55 : Bd x51 0 99 := Bd.le_l g53.2 b54 (Bd.lit 99 99 (by decide)) 99 (by decide)
          refine J_aload_n E dX3_takeOne_57 2 rfl ?_
          refine J_getR E in_X3 rfl (S_X3.h S0) 6 (by decide) wd259 rfl dX3_takeOne_58 ?_
          refine J_iload_n E dX3_takeOne_61 1 rfl ?_
          refine J_iload_n E dX3_takeOne_62 0 rfl ?_
          refine J_aload_n E dX3_takeOne_63 2 rfl ?_
          refine J_getI E in_X3 rfl (S_X3.h S0) 5 (by decide) wd258 rfl dX3_takeOne_64 (fun x56 e57 => ?_)
          rw [show x56 = x51 from e57.trans (e52).symm]
          refine J_callVNI E cal_X6_addOne wd486 rfl (S_X6.h (S_X3.f6 S0)) [.int x17, .int x34, .int x51] [] (ct_X6_addOne l D dA G v41 w42 (o45) (rf G h0 6) (S_X3.f6 S0) x17 b21 x34 b38 x51 b55 x1 (((((((e2).trans (Fr.at (p9.2.2.2.2) (S_X6.h (S_X3.f6 S0)) rfl 3).symm)).trans (Fr.at (p26.2.2.2.2) (S_X6.h (S_X3.f6 S0)) rfl 3).symm)).trans (Fr.at (p43.2.2.2.2) (S_X6.h (S_X3.f6 S0)) rfl 3).symm)) b6) rfl rfl (Nat.le_of_ble_eq_true rfl) ⟨rfl, rfl⟩ ⟨Nat.le_of_ble_eq_true rfl, Nat.le_of_ble_eq_true rfl⟩ dX3_takeOne_67 (fun x61 v58 w59 p60 => ?_)
          have o62 := p60.1
          have k63 : Kp G v v58 := (k46).tr p60.2.1
          have f64 : Fr G [2, 3, 6, 107] v v58 := Fr.tr f47 (p60.2.2.2) (by decide)
          have b65 : Bd x61 0 6 := p60.2.2.1
          refine J_pop E dX3_takeOne_70 rfl ?_
          refine J_iconst E 1 dX3_takeOne_71 (by decide) ?_
          exact J_zret E hr (Bd.z (Bd.lit 1 1 (by decide)) (by decide)) dX3_takeOne_72 ⟨o62, k63, ((Bd.lit 1 1 (by decide)).w 0 1 (by decide)), f64⟩
        · have b66 : Bd x44 0 0 := Bd.eq_l c49 b48 (Bd.lit 0 0 (by decide)) 0 0 (by decide)
          refine J_iconst E 0 dX3_takeOne_55 (by decide) ?_
          exact J_zret E hr (Bd.z (Bd.lit 0 0 (by decide)) (by decide)) dX3_takeOne_56 ⟨o45, k46, ((Bd.lit 0 0 (by decide)).w 0 1 (by decide)), f47⟩
      · have b67 : Bd x27 0 0 := Bd.eq_l c32 b31 (Bd.lit 0 0 (by decide)) 0 0 (by decide)
        refine J_iconst E 0 dX3_takeOne_38 (by decide) ?_
        exact J_zret E hr (Bd.z (Bd.lit 0 0 (by decide)) (by decide)) dX3_takeOne_39 ⟨o28, k29, ((Bd.lit 0 0 (by decide)).w 0 1 (by decide)), f30⟩
    · have b68 : Bd x10 0 0 := Bd.eq_l c15 b14 (Bd.lit 0 0 (by decide)) 0 0 (by decide)
      refine J_iconst E 0 dX3_takeOne_21 (by decide) ?_
      exact J_zret E hr (Bd.z (Bd.lit 0 0 (by decide)) (by decide)) dX3_takeOne_22 ⟨o11, k12, ((Bd.lit 0 0 (by decide)).w 0 1 (by decide)), f13⟩

abbrev rm_X6_mayGet : Room := { frames := 1, cells := 0, slots := 0, locals := 21 }
set_option maxHeartbeats 4000000 in
set_option maxRecDepth 100000 in
theorem ct_X6_mayGet (l : Launch) (D : va_G) (dA : Nat → ClassId) (G : Gm) (v : Mv) (w : Mw) (hOk : Ok G v w) (h0 : Nat) (S0 : S_X6 G h0) (x_0 : Int32) (bx_0 : Bd x_0 0 6) : CtI l yX6_mayGet cX6_mayGet 2 (some .boolean) rm_X6_mayGet D dA G [.ref h0, .int x_0] v w (fun r v1 w1 => v1 = v ∧ w1 = w ∧ Bd r 0 1 ∧ True) := by
  refine CtI.of RX6 [(0, .ref h0), (1, .int x_0)] (Nat.le_of_ble_eq_true rfl) rfl (by decide) rfl ?_
  intro p e s m args below meth c E hr
  refine J_aload_n E dX6_mayGet_0 0 rfl ?_
  refine J_getR E in_X6 rfl (S_X6.h S0) 6 (by decide) wd207 rfl dX6_mayGet_1 ?_
  refine J_iload_n E dX6_mayGet_4 1 rfl ?_
  refine J_callVNI E cal_X2_isHere wd496 rfl (S_X2.h (S_X6.f6 S0)) [.int x_0] [] (ct_X2_isHere l D dA G v w (hOk) (rf G h0 6) (S_X6.f6 S0) x_0 bx_0) rfl rfl (Nat.le_of_ble_eq_true rfl) ⟨rfl, rfl⟩ ⟨Nat.le_of_ble_eq_true rfl, Nat.le_of_ble_eq_true rfl⟩ dX6_mayGet_5 (fun x4 v1 w2 p3 => ?_)
  rw [p3.1, p3.2.1]
  have b5 : Bd x4 0 1 := p3.2.2.1
  refine J_if_eq E 28 dX6_mayGet_8 (by decide) (fun c6 => ?_) (fun c6 => ?_)
  · have b7 : Bd x4 0 0 := Bd.eq_l c6 b5 (Bd.lit 0 0 (by decide)) 0 0 (by decide)
    refine J_iconst E 0 dX6_mayGet_28 (by decide) ?_
    exact J_zret E hr (Bd.z (Bd.lit 0 0 (by decide)) (by decide)) dX6_mayGet_29 ⟨rfl, rfl, ((Bd.lit 0 0 (by decide)).w 0 1 (by decide)), trivial⟩
  · have b8 : Bd x4 1 1 := (Bd.ne_lo c6 b5 (Bd.lit 0 0 (by decide))).w _ _ (by decide)
    refine J_aload_n E dX6_mayGet_11 0 rfl ?_
    refine J_getR E in_X6 rfl (S_X6.h S0) 6 (by decide) wd207 rfl dX6_mayGet_12 ?_
    refine J_getRN E in_X2 rfl (S_X2.h (S_X6.f6 S0)) 1 (by decide) wd153 rfl dX6_mayGet_15 ?_
    refine J_iload_n E dX6_mayGet_18 1 rfl ?_
    refine J_iald1 E (S_X2.f1 (S_X6.f6 S0)) (Bd.in bx_0 (by decide)) dX6_mayGet_19 (fun x9 e10 => ?_)
    refine J_iconst E (-1) dX6_mayGet_20 (by decide) ?_
    refine J_icmp_ne E 28 dX6_mayGet_21 (by decide) (fun c11 => ?_) (fun c11 => ?_)
    · refine J_iconst E 0 dX6_mayGet_28 (by decide) ?_
      exact J_zret E hr (Bd.z (Bd.lit 0 0 (by decide)) (by decide)) dX6_mayGet_29 ⟨rfl, rfl, ((Bd.lit 0 0 (by decide)).w 0 1 (by decide)), trivial⟩
    · have b12 : Bd x9 (-1) (-1) := Bd.eq_l c11 (Bd.any x9) (Bd.lit (-1) (-1) (by decide)) (-1) (-1) (by decide)
      refine J_iconst E 1 dX6_mayGet_24 (by decide) ?_
      refine J_goto E 29 dX6_mayGet_25 (by decide) ?_
      exact J_zret E hr (Bd.z (Bd.lit 1 1 (by decide)) (by decide)) dX6_mayGet_29 ⟨rfl, rfl, ((Bd.lit 1 1 (by decide)).w 0 1 (by decide)), trivial⟩

abbrev rm_X6_ownerIn : Room := { frames := 0, cells := 0, slots := 0, locals := 0 }
set_option maxHeartbeats 4000000 in
set_option maxRecDepth 100000 in
theorem ct_X6_ownerIn (l : Launch) (D : va_G) (dA : Nat → ClassId) (G : Gm) (v : Mv) (w : Mw) (hOk : Ok G v w) (h0 : Nat) (S0 : S_X6 G h0) (h_0 : Nat) (S_0 : S_X2 G h_0) (x_1 : Int32) (bx_1 : Bd x_1 0 6) : CtI l yX6_ownerIn cX6_ownerIn 4 (some .int) rm_X6_ownerIn D dA G [.ref h0, .ref h_0, .int x_1] v w (fun r v1 w1 => v1 = v ∧ w1 = w ∧ Bd r (-1) 6 ∧ True) := by
  refine CtI.of RX6 [(0, .ref h0), (1, .ref h_0), (2, .int x_1)] (Nat.le_of_ble_eq_true rfl) rfl (by decide) rfl ?_
  intro p e s m args below meth c E hr
  have J2 : ∀ n : Nat, Bd x_1 0 6 → ∀ x2 : Int32, Bd x2 0 7 → Mu x2 7 n → J p l e rm_X6_ownerIn s m args below meth c 0 0 (MQ below (QcI D dA G (fun r v1 w1 => v1 = v ∧ w1 = w ∧ Bd r (-1) 6 ∧ True)) args s 0 0 (dm G)) D dA G (dm G) s.heap 4 v w [(0, .ref h0), (1, .ref h_0), (2, .int x_1), (3, .int x2)] 2 [] := by
    intro n
    induction n with
    | zero => intro b1 x2 b3 hm; exact hm.zero b3 (by decide)
    | succ n ih2 =>
      intro b1 x2 b3 hmu2
      refine J_iload_n E dX6_ownerIn_2 3 rfl ?_
      refine J_aload_n E dX6_ownerIn_3 0 rfl ?_
      refine J_getI E in_X6 rfl (S_X6.h S0) 3 (by decide) wd201 rfl dX6_ownerIn_4 (fun x4 e5 => ?_)
      have b6 : Bd x4 0 7 := Ok.fd hOk e5 (S_X6.h S0) rfl
      refine J_icmp_ge E 28 dX6_ownerIn_7 (by decide) (fun c7 => ?_) (fun c7 => ?_)
      · refine J_iconst E (-1) dX6_ownerIn_28 (by decide) ?_
        exact J_iret E hr dX6_ownerIn_29 ⟨rfl, rfl, ((Bd.lit (-1) (-1) (by decide)).w (-1) 6 (by decide)), trivial⟩
      · have b8 : Bd x2 0 6 := Bd.lt_l (nle c7) b3 b6 6 (by decide)
        have b9 : Bd x4 1 7 := Bd.lt_r (nle c7) b3 b6 1 (by decide)
        refine J_aload_n E dX6_ownerIn_10 1 rfl ?_
        refine J_getRN E in_X2 rfl (S_X2.h S_0) 1 (by decide) wd153 rfl dX6_ownerIn_11 ?_
        refine J_iload_n E dX6_ownerIn_14 3 rfl ?_
        refine J_iald1 E (S_X2.f1 S_0) (Bd.in b8 (by decide)) dX6_ownerIn_15 (fun x10 e11 => ?_)
        refine J_iload_n E dX6_ownerIn_16 2 rfl ?_
        refine J_icmp_ne E 22 dX6_ownerIn_17 (by decide) (fun c12 => ?_) (fun c12 => ?_)
        · refine J_iinc E 3 1 (fun z => [(3, .int z), (0, .ref h0), (1, .ref h_0), (2, .int x_1)]) dX6_ownerIn_22 rfl (by decide) (by decide) (fun _ => rfl) (fun x13 e14 => ?_)
          have b15 : Bd x13 1 7 := (Bd.add e14 b8 (Bd.lit 1 1 (by decide)) (by decide)).w _ _ (by decide)
          refine J_goto E 2 dX6_ownerIn_25 (by decide) ?_
          exact J.sub [1, 2, 3, 0] rfl (ih2 b1 x13 (b15.w 0 7 (by decide)) (Mu.step hmu2 e14 b8 (Bd.lit 1 1 (by decide)) (by decide)))
        · have b16 : Bd x10 0 6 := Bd.eq_l c12 (Bd.any x10) b1 0 6 (by decide)
          refine J_iload_n E dX6_ownerIn_20 3 rfl ?_
          exact J_iret E hr dX6_ownerIn_21 ⟨rfl, rfl, (b8.w (-1) 6 (by decide)), trivial⟩
  refine J_iconst E 0 dX6_ownerIn_0 (by decide) ?_
  refine J_istore_n E [(3, .int 0), (0, .ref h0), (1, .ref h_0), (2, .int x_1)] dX6_ownerIn_1 rfl (by decide) rfl ?_
  exact J.sub [1, 2, 3, 0] rfl (J2 8 bx_1 0 ((Bd.lit 0 0 (by decide)).w 0 7 (by decide)) (Mu.start _ (Bd.lit 0 0 (by decide)) (by decide)))

abbrev rm_X6_ownerOf : Room := { frames := 1, cells := 0, slots := 0, locals := 23 }
set_option maxHeartbeats 4000000 in
set_option maxRecDepth 100000 in
theorem ct_X6_ownerOf (l : Launch) (D : va_G) (dA : Nat → ClassId) (G : Gm) (v : Mv) (w : Mw) (hOk : Ok G v w) (h0 : Nat) (S0 : S_X6 G h0) (x_0 : Int32) (bx_0 : Bd x_0 0 6) : CtI l yX6_ownerOf cX6_ownerOf 2 (some .int) rm_X6_ownerOf D dA G [.ref h0, .int x_0] v w (fun r v1 w1 => v1 = v ∧ w1 = w ∧ True ∧ True) := by
  refine CtI.of RX6 [(0, .ref h0), (1, .int x_0)] (Nat.le_of_ble_eq_true rfl) rfl (by decide) rfl ?_
  intro p e s m args below meth c E hr
  refine J_aload_n E dX6_ownerOf_0 0 rfl ?_
  refine J_aload_n E dX6_ownerOf_1 0 rfl ?_
  refine J_getR E in_X6 rfl (S_X6.h S0) 6 (by decide) wd207 rfl dX6_ownerOf_2 ?_
  refine J_iload_n E dX6_ownerOf_5 1 rfl ?_
  refine J_callVI E cal_X6_ownerIn wd504 rfl (S_X6.h S0) [.ref (rf G h0 6), .int x_0] [] (ct_X6_ownerIn l D dA G v w (hOk) h0 S0 (rf G h0 6) (S_X6.f6 S0) x_0 bx_0) rfl rfl (Nat.le_of_ble_eq_true rfl) ⟨rfl, rfl⟩ ⟨Nat.le_of_ble_eq_true rfl, Nat.le_of_ble_eq_true rfl⟩ dX6_ownerOf_6 (fun x4 v1 w2 p3 => ?_)
  rw [p3.1, p3.2.1]
  have b5 : Bd x4 (-1) 6 := p3.2.2.1
  exact J_iret E hr dX6_ownerOf_9 ⟨rfl, rfl, trivial, trivial⟩

abbrev rm_X3_takeOwn : Room := { frames := 4, cells := 0, slots := 0, locals := 86 }
set_option maxHeartbeats 4000000 in
set_option maxRecDepth 100000 in
theorem ct_X3_takeOwn (l : Launch) (D : va_G) (dA : Nat → ClassId) (G : Gm) (v : Mv) (w : Mw) (hOk : Ok G v w) (h0 : Nat) (S0 : S_X3 G h0) : CtI l yX3_takeOwn cX3_takeOwn 2 (some .boolean) rm_X3_takeOwn D dA G [.ref h0] v w (fun r v1 w1 => Ok G v1 w1 ∧ Kp G v v1 ∧ Bd r 0 1 ∧ Fr G [3, 107] v v1) := by
  refine CtI.of RX3 [(0, .ref h0)] (Nat.le_of_ble_eq_true rfl) rfl (by decide) rfl ?_
  intro p e s m args below meth c E hr
  refine J_aload_n E dX3_takeOwn_0 0 rfl ?_
  refine J_iconst E 0 dX3_takeOwn_1 (by decide) ?_
  refine J_aload_n E dX3_takeOwn_2 0 rfl ?_
  refine J_getR E in_X3 rfl (S_X3.h S0) 6 (by decide) wd259 rfl dX3_takeOwn_3 ?_
  refine J_getIN E in_X6 rfl (S_X6.h (S_X3.f6 S0)) 3 (by decide) wd202 rfl dX3_takeOwn_6 (fun x1 e2 => ?_)
  have b3 : Bd x1 0 7 := Ok.fd hOk e2 (S_X6.h (S_X3.f6 S0)) rfl
  refine J_iconst E 1 dX3_takeOwn_9 (by decide) ?_
  refine J_isub E dX3_takeOwn_10 (fun x4 e5 => ?_)
  have b6 : Bd x4 (-1) 6 := (Bd.sub e5 b3 (Bd.lit 1 1 (by decide)) (by decide)).w _ _ (by decide)
  refine J_callVI E cal_X3_takeNumber wd476 rfl (S_X3.h S0) [.int 0, .int x4] [] (ct_X3_takeNumber l D dA G v w (hOk) h0 S0 0 x4) rfl rfl (Nat.le_of_ble_eq_true rfl) ⟨rfl, rfl⟩ ⟨Nat.le_of_ble_eq_true rfl, Nat.le_of_ble_eq_true rfl⟩ dX3_takeOwn_11 (fun x10 v7 w8 p9 => ?_)
  have o11 := p9.1
  have k12 : Kp G v v7 := (Kp.rf).tr p9.2.1
  have f13 : Fr G [3, 107] v v7 := Fr.tr Fr.rf (p9.2.2.2.2) (by decide)
  have b14 : Bd x10 0 1 := p9.2.2.1
  refine J_if_eq E 31 dX3_takeOwn_14 (by decide) (fun c15 => ?_) (fun c15 => ?_)
  · have b16 : Bd x10 0 0 := Bd.eq_l c15 b14 (Bd.lit 0 0 (by decide)) 0 0 (by decide)
    refine J_iconst E 0 dX3_takeOwn_31 (by decide) ?_
    exact J_zret E hr (Bd.z (Bd.lit 0 0 (by decide)) (by decide)) dX3_takeOwn_32 ⟨o11, k12, ((Bd.lit 0 0 (by decide)).w 0 1 (by decide)), f13⟩
  · have b17 : Bd x10 1 1 := (Bd.ne_lo c15 b14 (Bd.lit 0 0 (by decide))).w _ _ (by decide)
    obtain ⟨x18, e19⟩ : ∃ z : Int32, z = v7 h0 5 := ⟨_, rfl⟩
    have g20 : 0 ≤ x18 ∧ x18 ≤ x4 := by rw [e19]; exact (p9.2.2.2.1).resolve_left c15
    have b21 : Bd x18 0 I1 := Bd.le_r g20.1 (Bd.lit 0 0 (by decide)) (Bd.any x18) 0 (by decide)
    have b22 : Bd x18 0 6 := Bd.le_l g20.2 b21 b6 6 (by decide)
    have b23 : Bd x4 0 6 := Bd.le_r g20.2 b21 b6 0 (by decide)
    refine J_aload_n E dX3_takeOwn_17 0 rfl ?_
    refine J_getR E in_X3 rfl (S_X3.h S0) 6 (by decide) wd259 rfl dX3_takeOwn_18 ?_
    refine J_aload_n E dX3_takeOwn_21 0 rfl ?_
    refine J_getI E in_X3 rfl (S_X3.h S0) 5 (by decide) wd258 rfl dX3_takeOwn_22 (fun x24 e25 => ?_)
    rw [show x24 = x18 from e25.trans (e19).symm]
    refine J_callVNI E cal_X6_mayGet wd492 rfl (S_X6.h (S_X3.f6 S0)) [.int x18] [] (ct_X6_mayGet l D dA G v7 w8 (o11) (rf G h0 6) (S_X3.f6 S0) x18 b22) rfl rfl (Nat.le_of_ble_eq_true rfl) ⟨rfl, rfl⟩ ⟨Nat.le_of_ble_eq_true rfl, Nat.le_of_ble_eq_true rfl⟩ dX3_takeOwn_25 (fun x29 v26 w27 p28 => ?_)
    rw [p28.1, p28.2.1]
    have b30 : Bd x29 0 1 := p28.2.2.1
    refine J_if_ne E 33 dX3_takeOwn_28 (by decide) (fun c31 => ?_) (fun c31 => ?_)
    · have b32 : Bd x29 1 1 := (Bd.ne_lo c31 b30 (Bd.lit 0 0 (by decide))).w _ _ (by decide)
      refine J_aload_n E dX3_takeOwn_33 0 rfl ?_
      refine J_getI E in_X3 rfl (S_X3.h S0) 5 (by decide) wd258 rfl dX3_takeOwn_34 (fun x33 e34 => ?_)
      rw [show x33 = x18 from e34.trans (e19).symm]
      refine J_istore_n E [(1, .int x18), (0, .ref h0)] dX3_takeOwn_37 rfl (by decide) rfl ?_
      refine J_aload_n E dX3_takeOwn_38 1 rfl ?_
      refine J_iconst E 0 dX3_takeOwn_39 (by decide) ?_
      refine J_aload_n E dX3_takeOwn_40 1 rfl ?_
      refine J_getR E in_X3 rfl (S_X3.h S0) 6 (by decide) wd259 rfl dX3_takeOwn_41 ?_
      refine J_getIN E in_X6 rfl (S_X6.h (S_X3.f6 S0)) 0 (by decide) wd194 rfl dX3_takeOwn_44 (fun x35 e36 => ?_)
      have b37 : Bd x35 0 7 := Ok.fd o11 e36 (S_X6.h (S_X3.f6 S0)) rfl
      refine J_iconst E 1 dX3_takeOwn_47 (by decide) ?_
      refine J_isub E dX3_takeOwn_48 (fun x38 e39 => ?_)
      have b40 : Bd x38 (-1) 6 := (Bd.sub e39 b37 (Bd.lit 1 1 (by decide)) (by decide)).w _ _ (by decide)
      refine J_callVI E cal_X3_takeNumber wd476 rfl (S_X3.h S0) [.int 0, .int x38] [] (ct_X3_takeNumber l D dA G v7 w8 (o11) h0 S0 0 x38) rfl rfl (Nat.le_of_ble_eq_true rfl) ⟨rfl, rfl⟩ ⟨Nat.le_of_ble_eq_true rfl, Nat.le_of_ble_eq_true rfl⟩ dX3_takeOwn_49 (fun x44 v41 w42 p43 => ?_)
      have o45 := p43.1
      have k46 : Kp G v v41 := (k12).tr p43.2.1
      have f47 : Fr G [3, 107] v v41 := Fr.tr f13 (p43.2.2.2.2) (by decide)
      have b48 : Bd x44 0 1 := p43.2.2.1
      refine J_if_eq E 70 dX3_takeOwn_52 (by decide) (fun c49 => ?_) (fun c49 => ?_)
      · have b50 : Bd x44 0 0 := Bd.eq_l c49 b48 (Bd.lit 0 0 (by decide)) 0 0 (by decide)
        refine J_iconst E 0 dX3_takeOwn_70 (by decide) ?_
        exact J_zret E hr (Bd.z (Bd.lit 0 0 (by decide)) (by decide)) dX3_takeOwn_71 ⟨o45, k46, ((Bd.lit 0 0 (by decide)).w 0 1 (by decide)), f47⟩
      · have b51 : Bd x44 1 1 := (Bd.ne_lo c49 b48 (Bd.lit 0 0 (by decide))).w _ _ (by decide)
        obtain ⟨x52, e53⟩ : ∃ z : Int32, z = v41 h0 5 := ⟨_, rfl⟩
        have g54 : 0 ≤ x52 ∧ x52 ≤ x38 := by rw [e53]; exact (p43.2.2.2.1).resolve_left c49
        have b55 : Bd x52 0 I1 := Bd.le_r g54.1 (Bd.lit 0 0 (by decide)) (Bd.any x52) 0 (by decide)
        have b56 : Bd x52 0 6 := Bd.le_l g54.2 b55 b40 6 (by decide)
        have b57 : Bd x38 0 6 := Bd.le_r g54.2 b55 b40 0 (by decide)
        refine J_aload_n E dX3_takeOwn_55 1 rfl ?_
        refine J_getR E in_X3 rfl (S_X3.h S0) 6 (by decide) wd259 rfl dX3_takeOwn_56 ?_
        refine J_aload_n E dX3_takeOwn_59 1 rfl ?_
        refine J_getI E in_X3 rfl (S_X3.h S0) 5 (by decide) wd258 rfl dX3_takeOwn_60 (fun x58 e59 => ?_)
        rw [show x58 = x52 from e59.trans (e53).symm]
        refine J_callVNI E cal_X6_ownerOf wd500 rfl (S_X6.h (S_X3.f6 S0)) [.int x52] [] (ct_X6_ownerOf l D dA G v41 w42 (o45) (rf G h0 6) (S_X3.f6 S0) x52 b56) rfl rfl (Nat.le_of_ble_eq_true rfl) ⟨rfl, rfl⟩ ⟨Nat.le_of_ble_eq_true rfl, Nat.le_of_ble_eq_true rfl⟩ dX3_takeOwn_63 (fun x63 v60 w61 p62 => ?_)
        rw [p62.1, p62.2.1]
        refine J_iconst E (-1) dX3_takeOwn_66 (by decide) ?_
        refine J_icmp_eq E 72 dX3_takeOwn_67 (by decide) (fun c64 => ?_) (fun c64 => ?_)
        · have b65 : Bd x63 (-1) (-1) := Bd.eq_l c64 (Bd.any x63) (Bd.lit (-1) (-1) (by decide)) (-1) (-1) (by decide)
          refine J_aload_n E dX3_takeOwn_72 1 rfl ?_
          refine J_getR E in_X3 rfl (S_X3.h S0) 6 (by decide) wd259 rfl dX3_takeOwn_73 ?_
          refine J_getRN E in_X6 rfl (S_X6.h (S_X3.f6 S0)) 6 (by decide) wd208 rfl dX3_takeOwn_76 ?_
          refine J_getRN E in_X2 rfl (S_X2.h (S_X6.f6 (S_X3.f6 S0))) 1 (by decide) wd154 rfl dX3_takeOwn_79 ?_
          refine J_iload_n E dX3_takeOwn_82 0 rfl ?_
          refine J_aload_n E dX3_takeOwn_83 1 rfl ?_
          refine J_getI E in_X3 rfl (S_X3.h S0) 5 (by decide) wd258 rfl dX3_takeOwn_84 (fun x66 e67 => ?_)
          rw [show x66 = x52 from e67.trans (e53).symm]
          refine J_iast1 E (S_X2.f1 (S_X6.f6 (S_X3.f6 S0))) (Bd.in b22 (by decide)) dX3_takeOwn_87 (fun v68 e69 => ?_)
          have o70 : Ok G v68 w42 := by rw [e69]; exact Ok.sv o45 (S_X2.f1 (S_X6.f6 (S_X3.f6 S0))) b22 b56 0 7 (by decide) (by decide +kernel)
          have k71 : Kp G v v68 := by rw [e69]; exact Kp.sv k46 (S_X2.f1 (S_X6.f6 (S_X3.f6 S0))) b22 0 7 0 6 (by decide) (by decide +kernel)
          have f72 : Fr G [3, 107] v v68 := Fr.st f47 e69 (S_X2.f1 (S_X6.f6 (S_X3.f6 S0))) rfl
          have e73 : x1 = v68 (rf G h0 6) 3 := by rw [e69, stv_a (tg_ne (S_X6.h (S_X3.f6 S0)) ((S_X2.f1 (S_X6.f6 (S_X3.f6 S0)))) rfl)]; exact ((((e2).trans (Fr.at (p9.2.2.2.2) (S_X6.h (S_X3.f6 S0)) rfl 3).symm)).trans (Fr.at (p43.2.2.2.2) (S_X6.h (S_X3.f6 S0)) rfl 3).symm)
          have e74 : x35 = v68 (rf G h0 6) 0 := by rw [e69, stv_a (tg_ne (S_X6.h (S_X3.f6 S0)) ((S_X2.f1 (S_X6.f6 (S_X3.f6 S0)))) rfl)]; exact ((e36).trans (Fr.at (p43.2.2.2.2) (S_X6.h (S_X3.f6 S0)) rfl 0).symm)
          have e75 : x52 = v68 h0 5 := by rw [e69, stv_a (tg_ne (S_X3.h S0) ((S_X2.f1 (S_X6.f6 (S_X3.f6 S0)))) rfl)]; exact e53
          refine J_iconst E 1 dX3_takeOwn_88 (by decide) ?_
          exact J_zret E hr (Bd.z (Bd.lit 1 1 (by decide)) (by decide)) dX3_takeOwn_89 ⟨o70, k71, ((Bd.lit 1 1 (by decide)).w 0 1 (by decide)), f72⟩
        · refine J_iconst E 0 dX3_takeOwn_70 (by decide) ?_
          exact J_zret E hr (Bd.z (Bd.lit 0 0 (by decide)) (by decide)) dX3_takeOwn_71 ⟨o45, k46, ((Bd.lit 0 0 (by decide)).w 0 1 (by decide)), f47⟩
    · have b76 : Bd x29 0 0 := Bd.eq_l c31 b30 (Bd.lit 0 0 (by decide)) 0 0 (by decide)
      refine J_iconst E 0 dX3_takeOwn_31 (by decide) ?_
      exact J_zret E hr (Bd.z (Bd.lit 0 0 (by decide)) (by decide)) dX3_takeOwn_32 ⟨o11, k12, ((Bd.lit 0 0 (by decide)).w 0 1 (by decide)), f13⟩

abbrev rm_X3_takeLeave : Room := { frames := 4, cells := 0, slots := 0, locals := 86 }
set_option maxHeartbeats 4000000 in
set_option maxRecDepth 100000 in
theorem ct_X3_takeLeave (l : Launch) (D : va_G) (dA : Nat → ClassId) (G : Gm) (v : Mv) (w : Mw) (hOk : Ok G v w) (h0 : Nat) (S0 : S_X3 G h0) : CtI l yX3_takeLeave cX3_takeLeave 1 (some .boolean) rm_X3_takeLeave D dA G [.ref h0] v w (fun r v1 w1 => Ok G v1 w1 ∧ Kp G v v1 ∧ Bd r 0 1 ∧ Fr G [3, 107] v v1) := by
  refine CtI.of RX3 [(0, .ref h0)] (Nat.le_of_ble_eq_true rfl) rfl (by decide) rfl ?_
  intro p e s m args below meth c E hr
  refine J_aload_n E dX3_takeLeave_0 0 rfl ?_
  refine J_iconst E 0 dX3_takeLeave_1 (by decide) ?_
  refine J_aload_n E dX3_takeLeave_2 0 rfl ?_
  refine J_getR E in_X3 rfl (S_X3.h S0) 6 (by decide) wd259 rfl dX3_takeLeave_3 ?_
  refine J_getIN E in_X6 rfl (S_X6.h (S_X3.f6 S0)) 3 (by decide) wd202 rfl dX3_takeLeave_6 (fun x1 e2 => ?_)
  have b3 : Bd x1 0 7 := Ok.fd hOk e2 (S_X6.h (S_X3.f6 S0)) rfl
  refine J_iconst E 1 dX3_takeLeave_9 (by decide) ?_
  refine J_isub E dX3_takeLeave_10 (fun x4 e5 => ?_)
  have b6 : Bd x4 (-1) 6 := (Bd.sub e5 b3 (Bd.lit 1 1 (by decide)) (by decide)).w _ _ (by decide)
  refine J_callVI E cal_X3_takeNumber wd476 rfl (S_X3.h S0) [.int 0, .int x4] [] (ct_X3_takeNumber l D dA G v w (hOk) h0 S0 0 x4) rfl rfl (Nat.le_of_ble_eq_true rfl) ⟨rfl, rfl⟩ ⟨Nat.le_of_ble_eq_true rfl, Nat.le_of_ble_eq_true rfl⟩ dX3_takeLeave_11 (fun x10 v7 w8 p9 => ?_)
  have o11 := p9.1
  have k12 : Kp G v v7 := (Kp.rf).tr p9.2.1
  have f13 : Fr G [3, 107] v v7 := Fr.tr Fr.rf (p9.2.2.2.2) (by decide)
  have b14 : Bd x10 0 1 := p9.2.2.1
  refine J_if_eq E 36 dX3_takeLeave_14 (by decide) (fun c15 => ?_) (fun c15 => ?_)
  · have b16 : Bd x10 0 0 := Bd.eq_l c15 b14 (Bd.lit 0 0 (by decide)) 0 0 (by decide)
    refine J_iconst E 0 dX3_takeLeave_36 (by decide) ?_
    exact J_zret E hr (Bd.z (Bd.lit 0 0 (by decide)) (by decide)) dX3_takeLeave_37 ⟨o11, k12, ((Bd.lit 0 0 (by decide)).w 0 1 (by decide)), f13⟩
  · have b17 : Bd x10 1 1 := (Bd.ne_lo c15 b14 (Bd.lit 0 0 (by decide))).w _ _ (by decide)
    obtain ⟨x18, e19⟩ : ∃ z : Int32, z = v7 h0 5 := ⟨_, rfl⟩
    have g20 : 0 ≤ x18 ∧ x18 ≤ x4 := by rw [e19]; exact (p9.2.2.2.1).resolve_left c15
    have b21 : Bd x18 0 I1 := Bd.le_r g20.1 (Bd.lit 0 0 (by decide)) (Bd.any x18) 0 (by decide)
    have b22 : Bd x18 0 6 := Bd.le_l g20.2 b21 b6 6 (by decide)
    have b23 : Bd x4 0 6 := Bd.le_r g20.2 b21 b6 0 (by decide)
    refine J_aload_n E dX3_takeLeave_17 0 rfl ?_
    refine J_getR E in_X3 rfl (S_X3.h S0) 6 (by decide) wd259 rfl dX3_takeLeave_18 ?_
    refine J_getRN E in_X6 rfl (S_X6.h (S_X3.f6 S0)) 6 (by decide) wd208 rfl dX3_takeLeave_21 ?_
    refine J_getRN E in_X2 rfl (S_X2.h (S_X6.f6 (S_X3.f6 S0))) 1 (by decide) wd154 rfl dX3_takeLeave_24 ?_
    refine J_aload_n E dX3_takeLeave_27 0 rfl ?_
    refine J_getI E in_X3 rfl (S_X3.h S0) 5 (by decide) wd258 rfl dX3_takeLeave_28 (fun x24 e25 => ?_)
    rw [show x24 = x18 from e25.trans (e19).symm]
    refine J_iald1 E (S_X2.f1 (S_X6.f6 (S_X3.f6 S0))) (Bd.in b22 (by decide)) dX3_takeLeave_31 (fun x26 e27 => ?_)
    refine J_iconst E (-1) dX3_takeLeave_32 (by decide) ?_
    refine J_icmp_ne E 38 dX3_takeLeave_33 (by decide) (fun c28 => ?_) (fun c28 => ?_)
    · refine J_aload_n E dX3_takeLeave_38 0 rfl ?_
      refine J_getR E in_X3 rfl (S_X3.h S0) 6 (by decide) wd259 rfl dX3_takeLeave_39 ?_
      refine J_getRN E in_X6 rfl (S_X6.h (S_X3.f6 S0)) 6 (by decide) wd208 rfl dX3_takeLeave_42 ?_
      refine J_getRN E in_X2 rfl (S_X2.h (S_X6.f6 (S_X3.f6 S0))) 1 (by decide) wd154 rfl dX3_takeLeave_45 ?_
      refine J_aload_n E dX3_takeLeave_48 0 rfl ?_
      refine J_getI E in_X3 rfl (S_X3.h S0) 5 (by decide) wd258 rfl dX3_takeLeave_49 (fun x29 e30 => ?_)
      rw [show x29 = x18 from e30.trans (e19).symm]
      refine J_iconst E (-1) dX3_takeLeave_52 (by decide) ?_
      refine J_iast1 E (S_X2.f1 (S_X6.f6 (S_X3.f6 S0))) (Bd.in b22 (by decide)) dX3_takeLeave_53 (fun v31 e32 => ?_)
      have o33 : Ok G v31 w8 := by rw [e32]; exact Ok.sv o11 (S_X2.f1 (S_X6.f6 (S_X3.f6 S0))) b22 (Bd.lit (-1) (-1) (by decide)) 0 7 (by decide) (by decide +kernel)
      have k34 : Kp G v v31 := by rw [e32]; exact Kp.sv k12 (S_X2.f1 (S_X6.f6 (S_X3.f6 S0))) b22 0 7 (-1) (-1) (by decide) (by decide +kernel)
      have f35 : Fr G [3, 107] v v31 := Fr.st f13 e32 (S_X2.f1 (S_X6.f6 (S_X3.f6 S0))) rfl
      have e36 : x1 = v31 (rf G h0 6) 3 := by rw [e32, stv_a (tg_ne (S_X6.h (S_X3.f6 S0)) ((S_X2.f1 (S_X6.f6 (S_X3.f6 S0)))) rfl)]; exact ((e2).trans (Fr.at (p9.2.2.2.2) (S_X6.h (S_X3.f6 S0)) rfl 3).symm)
      have e37 : x18 = v31 h0 5 := by rw [e32, stv_a (tg_ne (S_X3.h S0) ((S_X2.f1 (S_X6.f6 (S_X3.f6 S0)))) rfl)]; exact e19
      refine J_iconst E 1 dX3_takeLeave_54 (by decide) ?_
      exact J_zret E hr (Bd.z (Bd.lit 1 1 (by decide)) (by decide)) dX3_takeLeave_55 ⟨o33, k34, ((Bd.lit 1 1 (by decide)).w 0 1 (by decide)), f35⟩
    · have b38 : Bd x26 (-1) (-1) := Bd.eq_l c28 (Bd.any x26) (Bd.lit (-1) (-1) (by decide)) (-1) (-1) (by decide)
      refine J_iconst E 0 dX3_takeLeave_36 (by decide) ?_
      exact J_zret E hr (Bd.z (Bd.lit 0 0 (by decide)) (by decide)) dX3_takeLeave_37 ⟨o11, k12, ((Bd.lit 0 0 (by decide)).w 0 1 (by decide)), f13⟩

abbrev rm_X6_hasThing : Room := { frames := 0, cells := 0, slots := 0, locals := 0 }
set_option maxHeartbeats 4000000 in
set_option maxRecDepth 100000 in
theorem ct_X6_hasThing (l : Launch) (D : va_G) (dA : Nat → ClassId) (G : Gm) (v : Mv) (w : Mw) (hOk : Ok G v w) (h0 : Nat) (S0 : S_X6 G h0) (x_0 : Int32) : CtI l yX6_hasThing cX6_hasThing 2 (some .boolean) rm_X6_hasThing D dA G [.ref h0, .int x_0] v w (fun r v1 w1 => v1 = v ∧ w1 = w ∧ Bd r 0 1 ∧ (r = 0 ∨ Bd x_0 0 6)) := by
  refine CtI.of RX6 [(0, .ref h0), (1, .int x_0)] (Nat.le_of_ble_eq_true rfl) rfl (by decide) rfl ?_
  intro p e s m args below meth c E hr
  refine J_iload_n E dX6_hasThing_0 1 rfl ?_
  refine J_if_lt E 16 dX6_hasThing_1 (by decide) (fun c1 => ?_) (fun c1 => ?_)
  · have b2 : Bd x_0 I0 (-1) := Bd.lt_l c1 (Bd.any x_0) (Bd.lit 0 0 (by decide)) (-1) (by decide)
    refine J_iconst E 0 dX6_hasThing_16 (by decide) ?_
    exact J_zret E hr (Bd.z (Bd.lit 0 0 (by decide)) (by decide)) dX6_hasThing_17 ⟨rfl, rfl, ((Bd.lit 0 0 (by decide)).w 0 1 (by decide)), (Or.inl rfl)⟩
  · have b3 : Bd x_0 0 I1 := Bd.le_r (nlt c1) (Bd.lit 0 0 (by decide)) (Bd.any x_0) 0 (by decide)
    refine J_iload_n E dX6_hasThing_4 1 rfl ?_
    refine J_aload_n E dX6_hasThing_5 0 rfl ?_
    refine J_getI E in_X6 rfl (S_X6.h S0) 0 (by decide) wd191 rfl dX6_hasThing_6 (fun x4 e5 => ?_)
    have b6 : Bd x4 0 7 := Ok.fd hOk e5 (S_X6.h S0) rfl
    refine J_icmp_ge E 16 dX6_hasThing_9 (by decide) (fun c7 => ?_) (fun c7 => ?_)
    · refine J_iconst E 0 dX6_hasThing_16 (by decide) ?_
      exact J_zret E hr (Bd.z (Bd.lit 0 0 (by decide)) (by decide)) dX6_hasThing_17 ⟨rfl, rfl, ((Bd.lit 0 0 (by decide)).w 0 1 (by decide)), (Or.inl rfl)⟩
    · have b8 : Bd x_0 0 6 := Bd.lt_l (nle c7) b3 b6 6 (by decide)
      have b9 : Bd x4 1 7 := Bd.lt_r (nle c7) b3 b6 1 (by decide)
      refine J_iconst E 1 dX6_hasThing_12 (by decide) ?_
      refine J_goto E 17 dX6_hasThing_13 (by decide) ?_
      exact J_zret E hr (Bd.z (Bd.lit 1 1 (by decide)) (by decide)) dX6_hasThing_17 ⟨rfl, rfl, ((Bd.lit 1 1 (by decide)).w 0 1 (by decide)), (Or.inr b8)⟩

abbrev rm_X6_isHeldIn : Room := { frames := 2, cells := 0, slots := 0, locals := 44 }
set_option maxHeartbeats 4000000 in
set_option maxRecDepth 100000 in
theorem ct_X6_isHeldIn (l : Launch) (D : va_G) (dA : Nat → ClassId) (G : Gm) (v : Mv) (w : Mw) (hOk : Ok G v w) (h0 : Nat) (S0 : S_X6 G h0) (h_0 : Nat) (S_0 : S_X2 G h_0) (x_1 : Int32) (bx_1 : Bd x_1 0 6) : CtI l yX6_isHeldIn cX6_isHeldIn 4 (some .boolean) rm_X6_isHeldIn D dA G [.ref h0, .ref h_0, .int x_1] v w (fun r v1 w1 => v1 = v ∧ w1 = w ∧ Bd r 0 1 ∧ True) := by
  refine CtI.of RX6 [(0, .ref h0), (1, .ref h_0), (2, .int x_1)] (Nat.le_of_ble_eq_true rfl) rfl (by decide) rfl ?_
  intro p e s m args below meth c E hr
  refine J_aload_n E dX6_isHeldIn_0 1 rfl ?_
  refine J_getRN E in_X2 rfl (S_X2.h S_0) 1 (by decide) wd153 rfl dX6_isHeldIn_1 ?_
  refine J_iload_n E dX6_isHeldIn_4 2 rfl ?_
  refine J_iald1 E (S_X2.f1 S_0) (Bd.in bx_1 (by decide)) dX6_isHeldIn_5 (fun x1 e2 => ?_)
  refine J_istore_n E [(3, .int x1), (0, .ref h0), (1, .ref h_0), (2, .int x_1)] dX6_isHeldIn_6 rfl (by decide) rfl ?_
  refine J_aload_n E dX6_isHeldIn_7 1 rfl ?_
  refine J_iload_n E dX6_isHeldIn_8 0 rfl ?_
  refine J_callVI E cal_X6_hasThing wd526 rfl (S_X6.h S0) [.int x1] [] (ct_X6_hasThing l D dA G v w (hOk) h0 S0 x1) rfl rfl (Nat.le_of_ble_eq_true rfl) ⟨rfl, rfl⟩ ⟨Nat.le_of_ble_eq_true rfl, Nat.le_of_ble_eq_true rfl⟩ dX6_isHeldIn_9 (fun x6 v3 w4 p5 => ?_)
  rw [p5.1, p5.2.1]
  have b7 : Bd x6 0 1 := p5.2.2.1
  refine J_if_eq E 62 dX6_isHeldIn_12 (by decide) (fun c8 => ?_) (fun c8 => ?_)
  · have b9 : Bd x6 0 0 := Bd.eq_l c8 b7 (Bd.lit 0 0 (by decide)) 0 0 (by decide)
    refine J_iconst E 0 dX6_isHeldIn_62 (by decide) ?_
    exact J_zret E hr (Bd.z (Bd.lit 0 0 (by decide)) (by decide)) dX6_isHeldIn_63 ⟨rfl, rfl, ((Bd.lit 0 0 (by decide)).w 0 1 (by decide)), trivial⟩
  · have b10 : Bd x6 1 1 := (Bd.ne_lo c8 b7 (Bd.lit 0 0 (by decide))).w _ _ (by decide)
    have b11 : Bd x1 0 6 := (p5.2.2.2).resolve_left c8
    refine J_aload_n E dX6_isHeldIn_15 1 rfl ?_
    refine J_getR E in_X6 rfl (S_X6.h S0) 1 (by decide) wd195 rfl dX6_isHeldIn_16 ?_
    refine J_iload_n E dX6_isHeldIn_19 0 rfl ?_
    refine J_iald1 E (S_X6.f1 S0) (Bd.in b11 (by decide)) dX6_isHeldIn_20 (fun x12 e13 => ?_)
    refine J_aload_n E dX6_isHeldIn_21 1 rfl ?_
    refine J_getR E in_X6 rfl (S_X6.h S0) 2 (by decide) wd197 rfl dX6_isHeldIn_22 ?_
    refine J_iload_n E dX6_isHeldIn_25 0 rfl ?_
    refine J_iald1 E (S_X6.f2 S0) (Bd.in b11 (by decide)) dX6_isHeldIn_26 (fun x14 e15 => ?_)
    refine J_aload_n E dX6_isHeldIn_27 2 rfl ?_
    refine J_getIN E in_X2 rfl (S_X2.h S_0) 3 (by decide) wd159 rfl dX6_isHeldIn_28 (fun x16 e17 => ?_)
    refine J_callSNI E cal_X5_thingWeighs wd530 [.int x12, .int x14, .int x16] [] (ct_X5_thingWeighs l D dA G v w (hOk) x12 x14 x16) rfl rfl (Nat.le_of_ble_eq_true rfl) ⟨rfl, rfl⟩ ⟨Nat.le_of_ble_eq_true rfl, Nat.le_of_ble_eq_true rfl⟩ dX6_isHeldIn_31 (fun x21 v18 w19 p20 => ?_)
    rw [p20.1, p20.2.1]
    refine J_aload_n E dX6_isHeldIn_34 1 rfl ?_
    refine J_getR E in_X6 rfl (S_X6.h S0) 4 (by decide) wd203 rfl dX6_isHeldIn_35 ?_
    refine J_iload_n E dX6_isHeldIn_38 3 rfl ?_
    refine J_iald1 E (S_X6.f4 S0) (Bd.in bx_1 (by decide)) dX6_isHeldIn_39 (fun x22 e23 => ?_)
    refine J_aload_n E dX6_isHeldIn_40 1 rfl ?_
    refine J_getR E in_X6 rfl (S_X6.h S0) 5 (by decide) wd205 rfl dX6_isHeldIn_41 ?_
    refine J_iload_n E dX6_isHeldIn_44 3 rfl ?_
    refine J_iald1 E (S_X6.f5 S0) (Bd.in bx_1 (by decide)) dX6_isHeldIn_45 (fun x24 e25 => ?_)
    refine J_aload_n E dX6_isHeldIn_46 2 rfl ?_
    refine J_getRN E in_X2 rfl (S_X2.h S_0) 0 (by decide) wd151 rfl dX6_isHeldIn_47 ?_
    refine J_iload_n E dX6_isHeldIn_50 3 rfl ?_
    refine J_iald1 E (S_X2.f0 S_0) (Bd.in bx_1 (by decide)) dX6_isHeldIn_51 (fun x26 e27 => ?_)
    refine J_callSNI E cal_X5_oneLifts wd542 [.int x22, .int x24, .int x26] [.int x21] (ct_X5_oneLifts l D dA G v w (hOk) x22 x24 x26) rfl rfl (Nat.le_of_ble_eq_true rfl) ⟨rfl, rfl⟩ ⟨Nat.le_of_ble_eq_true rfl, Nat.le_of_ble_eq_true rfl⟩ dX6_isHeldIn_52 (fun x31 v28 w29 p30 => ?_)
    rw [p30.1, p30.2.1]
    refine J_icmp_le E 62 dX6_isHeldIn_55 (by decide) (fun c32 => ?_) (fun c32 => ?_)
    · refine J_iconst E 0 dX6_isHeldIn_62 (by decide) ?_
      exact J_zret E hr (Bd.z (Bd.lit 0 0 (by decide)) (by decide)) dX6_isHeldIn_63 ⟨rfl, rfl, ((Bd.lit 0 0 (by decide)).w 0 1 (by decide)), trivial⟩
    · refine J_iconst E 1 dX6_isHeldIn_58 (by decide) ?_
      refine J_goto E 63 dX6_isHeldIn_59 (by decide) ?_
      exact J_zret E hr (Bd.z (Bd.lit 1 1 (by decide)) (by decide)) dX6_isHeldIn_63 ⟨rfl, rfl, ((Bd.lit 1 1 (by decide)).w 0 1 (by decide)), trivial⟩

abbrev rm_X6_passYears : Room := { frames := 3, cells := 0, slots := 0, locals := 67 }
set_option maxHeartbeats 4000000 in
set_option maxRecDepth 100000 in
theorem ct_X6_passYears (l : Launch) (D : va_G) (dA : Nat → ClassId) (G : Gm) (v : Mv) (w : Mw) (hOk : Ok G v w) (h0 : Nat) (S0 : S_X6 G h0) (h_0 : Nat) (S_0 : S_X2 G h_0) (x_1 : Int32) (bx_1 : Bd x_1 0 99) (x_2 : Int32) (bx_2 : Bd x_2 999 1059) : CtV l yX6_passYears cX6_passYears 6 none rm_X6_passYears D dA G [.ref h0, .ref h_0, .int x_1, .int x_2] v w (fun v1 w1 => Ok G v1 w1 ∧ Kp G v v1 ∧ Fr G [2, 107] v v1) := by
  refine CtV.of RX6 [(0, .ref h0), (1, .ref h_0), (2, .int x_1), (3, .int x_2)] (Nat.le_of_ble_eq_true rfl) rfl (by decide) rfl ?_
  intro p e s m args below meth c E hr
  have J3 : ∀ n : Nat, ∀ (v1 : Mv) (w2 : Mw), Ok G v1 w2 → Kp G v v1 → Fr G [2, 107] v v1 → Bd x_1 0 99 → Bd x_2 999 1059 → ∀ x8 : Int32, Bd x8 0 100 → Mu x8 100 n → J p l e rm_X6_passYears s m args below meth c 0 0 (MQ below (QcV D dA G (fun v1 w1 => Ok G v1 w1 ∧ Kp G v v1 ∧ Fr G [2, 107] v v1)) args s 0 0 (dm G)) D dA G (dm G) s.heap 6 v1 w2 [(0, .ref h0), (1, .ref h_0), (2, .int x_1), (3, .int x_2), (4, .int x8)] 3 [] := by
    intro n
    induction n with
    | zero => intro v1 w2 o3 k4 f5 b6 b7 x8 b9 hm; exact hm.zero b9 (by decide)
    | succ n ih3 =>
      intro v1 w2 o3 k4 f5 b6 b7 x8 b9 hmu3
      have J20 : ∀ n : Nat, ∀ (v10 : Mv) (w11 : Mw), Ok G v10 w11 → Kp G v v10 → Fr G [2, 107] v v10 → Bd x_1 1 99 → Bd x_2 999 1059 → Bd x8 0 99 → ∀ x18 : Int32, Bd x18 0 7 → Mu x18 7 n → J p l e rm_X6_passYears s m args below meth c 0 0 (MQ below (QcV D dA G (fun v1 w1 => Ok G v1 w1 ∧ Kp G v v1 ∧ Fr G [2, 107] v v1)) args s 0 0 (dm G)) D dA G (dm G) s.heap 6 v10 w11 [(0, .ref h0), (1, .ref h_0), (2, .int x_1), (3, .int x_2), (4, .int x8), (5, .int x18)] 20 [] := by
        intro n
        induction n with
        | zero => intro v10 w11 o12 k13 f14 b15 b16 b17 x18 b19 hm; exact hm.zero b19 (by decide)
        | succ n ih20 =>
          intro v10 w11 o12 k13 f14 b15 b16 b17 x18 b19 hmu20
          have J66 : ∀ (v20 : Mv) (w21 : Mw), Ok G v20 w21 → Kp G v v20 → Fr G [2, 107] v v20 → Bd x_1 1 99 → Bd x_2 999 1059 → Bd x8 0 99 → Bd x18 0 6 → J p l e rm_X6_passYears s m args below meth c 0 0 (MQ below (QcV D dA G (fun v1 w1 => Ok G v1 w1 ∧ Kp G v v1 ∧ Fr G [2, 107] v v1)) args s 0 0 (dm G)) D dA G (dm G) s.heap 6 v20 w21 [(0, .ref h0), (1, .ref h_0), (2, .int x_1), (3, .int x_2), (4, .int x8), (5, .int x18)] 66 [] := by
            intro v20 w21 o22 k23 f24 b25 b26 b27 b28
            refine J_iinc E 5 1 (fun z => [(5, .int z), (0, .ref h0), (1, .ref h_0), (2, .int x_1), (3, .int x_2), (4, .int x8)]) dX6_passYears_66 rfl (by decide) (by decide) (fun _ => rfl) (fun x29 e30 => ?_)
            have b31 : Bd x29 1 7 := (Bd.add e30 b28 (Bd.lit 1 1 (by decide)) (by decide)).w _ _ (by decide)
            refine J_goto E 20 dX6_passYears_69 (by decide) ?_
            exact J.sub [1, 2, 3, 4, 5, 0] rfl (ih20 v20 w21 (o22) (k23) f24 b25 b26 b27 x29 (b31.w 0 7 (by decide)) (Mu.step hmu20 e30 b28 (Bd.lit 1 1 (by decide)) (by decide)))
          refine J_iload E dX6_passYears_20 5 rfl ?_
          refine J_aload_n E dX6_passYears_22 0 rfl ?_
          refine J_getI E in_X6 rfl (S_X6.h S0) 3 (by decide) wd201 rfl dX6_passYears_23 (fun x32 e33 => ?_)
          have b34 : Bd x32 0 7 := Ok.fd o12 e33 (S_X6.h S0) rfl
          refine J_icmp_ge E 72 dX6_passYears_26 (by decide) (fun c35 => ?_) (fun c35 => ?_)
          · refine J_aload_n E dX6_passYears_72 1 rfl ?_
            refine J_dup E dX6_passYears_73 rfl ?_
            refine J_getIN E in_X2 rfl (S_X2.h S_0) 3 (by decide) wd159 rfl dX6_passYears_74 (fun x36 e37 => ?_)
            refine J_iconst E 1 dX6_passYears_77 (by decide) ?_
            refine J_iadd E dX6_passYears_78 (fun x38 e39 => ?_)
            refine J_pIN E in_X2 rfl (S_X2.h S_0) 3 (by decide) wd159 tyX2 tyX2_ok nmX2 rfl rfl .int (by decide +kernel) rfl rfl dX6_passYears_79 (fun v40 e41 => ?_)
            have o42 : Ok G v40 w11 := Ok.pf o12 e41 (S_X2.h S_0) rfl (Bd.any x38)
            have k43 : Kp G v v40 := Kp.pf k13 e41 (S_X2.h S_0) rfl
            have e44 : x32 = v40 h0 3 := by rw [e41, stv_a (tg_ne (S_X6.h S0) (S_X2.h S_0) rfl)]; exact e33
            have f45 : Fr G [2, 107] v v40 := Fr.st f14 e41 (S_X2.h S_0) rfl
            have e46 : x38 = v40 h_0 3 := by rw [e41, stv_s]
            refine J_iinc E 4 1 (fun z => [(4, .int z), (0, .ref h0), (1, .ref h_0), (2, .int x_1), (3, .int x_2), (5, .int x18)]) dX6_passYears_82 rfl (by decide) (by decide) (fun _ => rfl) (fun x47 e48 => ?_)
            have b49 : Bd x47 1 100 := (Bd.add e48 b17 (Bd.lit 1 1 (by decide)) (by decide)).w _ _ (by decide)
            refine J_goto E 3 dX6_passYears_85 (by decide) ?_
            exact J.sub [1, 2, 3, 4, 0] rfl (ih3 v40 w11 (o42) (k43) f45 (b15.w 0 99 (by decide)) b16 x47 (b49.w 0 100 (by decide)) (Mu.step hmu3 e48 b17 (Bd.lit 1 1 (by decide)) (by decide)))
          · have b50 : Bd x18 0 6 := Bd.lt_l (nle c35) b19 b34 6 (by decide)
            have b51 : Bd x32 1 7 := Bd.lt_r (nle c35) b19 b34 1 (by decide)
            refine J_aload_n E dX6_passYears_29 1 rfl ?_
            refine J_iload E dX6_passYears_30 5 rfl ?_
            refine J_callVNI E cal_X2_isHere wd496 rfl (S_X2.h S_0) [.int x18] [] (ct_X2_isHere l D dA G v10 w11 (o12) h_0 S_0 x18 b50) rfl rfl (Nat.le_of_ble_eq_true rfl) ⟨rfl, rfl⟩ ⟨Nat.le_of_ble_eq_true rfl, Nat.le_of_ble_eq_true rfl⟩ dX6_passYears_32 (fun x55 v52 w53 p54 => ?_)
            rw [p54.1, p54.2.1]
            have b56 : Bd x55 0 1 := p54.2.2.1
            refine J_if_ne E 41 dX6_passYears_35 (by decide) (fun c57 => ?_) (fun c57 => ?_)
            · have b58 : Bd x55 1 1 := (Bd.ne_lo c57 b56 (Bd.lit 0 0 (by decide))).w _ _ (by decide)
              refine J_aload_n E dX6_passYears_41 0 rfl ?_
              refine J_aload_n E dX6_passYears_42 1 rfl ?_
              refine J_iload E dX6_passYears_43 5 rfl ?_
              refine J_callVI E cal_X6_isHeldIn wd522 rfl (S_X6.h S0) [.ref h_0, .int x18] [] (ct_X6_isHeldIn l D dA G v10 w11 (o12) h0 S0 h_0 S_0 x18 b50) rfl rfl (Nat.le_of_ble_eq_true rfl) ⟨rfl, rfl⟩ ⟨Nat.le_of_ble_eq_true rfl, Nat.le_of_ble_eq_true rfl⟩ dX6_passYears_45 (fun x62 v59 w60 p61 => ?_)
              rw [p61.1, p61.2.1]
              have b63 : Bd x62 0 1 := p61.2.2.1
              refine J_if_eq E 60 dX6_passYears_48 (by decide) (fun c64 => ?_) (fun c64 => ?_)
              · have b65 : Bd x62 0 0 := Bd.eq_l c64 b63 (Bd.lit 0 0 (by decide)) 0 0 (by decide)
                refine J_aload_n E dX6_passYears_60 1 rfl ?_
                refine J_iload E dX6_passYears_61 5 rfl ?_
                refine J_callVNV E cal_X2_lose wd559 rfl (S_X2.h S_0) [.int x18] [] (ct_X2_lose l D dA G v10 w11 (o12) h_0 S_0 x18 b50) rfl rfl (Nat.le_of_ble_eq_true rfl) ⟨rfl, rfl⟩ ⟨Nat.le_of_ble_eq_true rfl, Nat.le_of_ble_eq_true rfl⟩ dX6_passYears_63 (fun v66 w67 p68 => ?_)
                have o70 := p68.1
                have k71 : Kp G v v66 := (k13).tr p68.2.1
                have f72 : Fr G [2, 107] v v66 := Fr.tr f14 (p68.2.2) (by decide)
                exact J.sub [0, 1, 2, 3, 4, 5] rfl (J66 v66 w67 (o70) (k71) f72 b15 b16 b17 b50)
              · have b73 : Bd x62 1 1 := (Bd.ne_lo c64 b63 (Bd.lit 0 0 (by decide))).w _ _ (by decide)
                refine J_aload_n E dX6_passYears_51 1 rfl ?_
                refine J_iload E dX6_passYears_52 5 rfl ?_
                refine J_callVNV E cal_X2_growOlder wd554 rfl (S_X2.h S_0) [.int x18] [] (ct_X2_growOlder l D dA G v10 w11 (o12) h_0 S_0 x18 b50) rfl rfl (Nat.le_of_ble_eq_true rfl) ⟨rfl, rfl⟩ ⟨Nat.le_of_ble_eq_true rfl, Nat.le_of_ble_eq_true rfl⟩ dX6_passYears_54 (fun v74 w75 p76 => ?_)
                have o78 := p76.1
                have k79 : Kp G v v74 := (k13).tr p76.2.1
                have f80 : Fr G [2, 107] v v74 := Fr.tr f14 (p76.2.2) (by decide)
                refine J_goto E 66 dX6_passYears_57 (by decide) ?_
                exact J.sub [0, 1, 2, 3, 4, 5] rfl (J66 v74 w75 (o78) (k79) f80 b15 b16 b17 b50)
            · have b81 : Bd x55 0 0 := Bd.eq_l c57 b56 (Bd.lit 0 0 (by decide)) 0 0 (by decide)
              refine J_goto E 66 dX6_passYears_38 (by decide) ?_
              exact J.sub [0, 1, 2, 3, 4, 5] rfl (J66 v10 w11 (o12) (k13) f14 b15 b16 b17 b50)
      refine J_iload E dX6_passYears_3 4 rfl ?_
      refine J_iload_n E dX6_passYears_5 2 rfl ?_
      refine J_icmp_ge E 88 dX6_passYears_6 (by decide) (fun c82 => ?_) (fun c82 => ?_)
      · exact J_vret E hr dX6_passYears_88 ⟨o3, k4, f5⟩
      · have b83 : Bd x8 0 98 := Bd.lt_l (nle c82) b9 b6 98 (by decide)
        have b84 : Bd x_1 1 99 := Bd.lt_r (nle c82) b9 b6 1 (by decide)
        refine J_aload_n E dX6_passYears_9 1 rfl ?_
        refine J_getIN E in_X2 rfl (S_X2.h S_0) 3 (by decide) wd159 rfl dX6_passYears_10 (fun x85 e86 => ?_)
        refine J_iload_n E dX6_passYears_13 3 rfl ?_
        refine J_icmp_ge E 88 dX6_passYears_14 (by decide) (fun c87 => ?_) (fun c87 => ?_)
        · have b88 : Bd x85 999 I1 := Bd.le_r c87 b7 (Bd.any x85) 999 (by decide)
          exact J_vret E hr dX6_passYears_88 ⟨o3, k4, f5⟩
        · have b89 : Bd x85 I0 1058 := Bd.lt_l (nle c87) (Bd.any x85) b7 1058 (by decide)
          refine J_iconst E 0 dX6_passYears_17 (by decide) ?_
          refine J_istore E [(5, .int 0), (0, .ref h0), (1, .ref h_0), (2, .int x_1), (3, .int x_2), (4, .int x8)] dX6_passYears_18 (by decide) rfl ?_
          exact J.sub [1, 2, 3, 4, 5, 0] rfl (J20 8 v1 w2 (o3) (k4) f5 b84 b7 (b83.w 0 99 (by decide)) 0 ((Bd.lit 0 0 (by decide)).w 0 7 (by decide)) (Mu.start _ (Bd.lit 0 0 (by decide)) (by decide)))
  refine J_iconst E 0 dX6_passYears_0 (by decide) ?_
  refine J_istore E [(4, .int 0), (0, .ref h0), (1, .ref h_0), (2, .int x_1), (3, .int x_2)] dX6_passYears_1 (by decide) rfl ?_
  exact J.sub [1, 2, 3, 4, 0] rfl (J3 101 v w (hOk) (Kp.rf) Fr.rf bx_1 bx_2 0 ((Bd.lit 0 0 (by decide)).w 0 100 (by decide)) (Mu.start _ (Bd.lit 0 0 (by decide)) (by decide)))

abbrev rm_X3_takeYears : Room := { frames := 4, cells := 0, slots := 0, locals := 92 }
set_option maxHeartbeats 4000000 in
set_option maxRecDepth 100000 in
theorem ct_X3_takeYears (l : Launch) (D : va_G) (dA : Nat → ClassId) (G : Gm) (v : Mv) (w : Mw) (hOk : Ok G v w) (h0 : Nat) (S0 : S_X3 G h0) : CtI l yX3_takeYears cX3_takeYears 1 (some .boolean) rm_X3_takeYears D dA G [.ref h0] v w (fun r v1 w1 => Ok G v1 w1 ∧ Kp G v v1 ∧ Bd r 0 1 ∧ Fr G [2, 3, 107] v v1) := by
  refine CtI.of RX3 [(0, .ref h0)] (Nat.le_of_ble_eq_true rfl) rfl (by decide) rfl ?_
  intro p e s m args below meth c E hr
  refine J_aload_n E dX3_takeYears_0 0 rfl ?_
  refine J_iconst E 1 dX3_takeYears_1 (by decide) ?_
  refine J_bipush E 99 dX3_takeYears_2 (by decide) ?_
  refine J_callVI E cal_X3_takeNumber wd476 rfl (S_X3.h S0) [.int 1, .int 99] [] (ct_X3_takeNumber l D dA G v w (hOk) h0 S0 1 99) rfl rfl (Nat.le_of_ble_eq_true rfl) ⟨rfl, rfl⟩ ⟨Nat.le_of_ble_eq_true rfl, Nat.le_of_ble_eq_true rfl⟩ dX3_takeYears_4 (fun x4 v1 w2 p3 => ?_)
  have o5 := p3.1
  have k6 : Kp G v v1 := (Kp.rf).tr p3.2.1
  have f7 : Fr G [2, 3, 107] v v1 := Fr.tr Fr.rf (p3.2.2.2.2) (by decide)
  have b8 : Bd x4 0 1 := p3.2.2.1
  refine J_if_ne E 12 dX3_takeYears_7 (by decide) (fun c9 => ?_) (fun c9 => ?_)
  · have b10 : Bd x4 1 1 := (Bd.ne_lo c9 b8 (Bd.lit 0 0 (by decide))).w _ _ (by decide)
    obtain ⟨x11, e12⟩ : ∃ z : Int32, z = v1 h0 5 := ⟨_, rfl⟩
    have g13 : 1 ≤ x11 ∧ x11 ≤ 99 := by rw [e12]; exact (p3.2.2.2.1).resolve_left c9
    have b14 : Bd x11 1 I1 := Bd.le_r g13.1 (Bd.lit 1 1 (by decide)) (Bd.any x11) 1 (by decide)
    have b15 : Bd x11 1 99 := Bd.le_l g13.2 b14 (Bd.lit 99 99 (by decide)) 99 (by decide)
    refine J_aload_n E dX3_takeYears_12 0 rfl ?_
    refine J_getR E in_X3 rfl (S_X3.h S0) 6 (by decide) wd259 rfl dX3_takeYears_13 ?_
    refine J_aload_n E dX3_takeYears_16 0 rfl ?_
    refine J_getR E in_X3 rfl (S_X3.h S0) 6 (by decide) wd259 rfl dX3_takeYears_17 ?_
    refine J_getRN E in_X6 rfl (S_X6.h (S_X3.f6 S0)) 6 (by decide) wd208 rfl dX3_takeYears_20 ?_
    refine J_aload_n E dX3_takeYears_23 0 rfl ?_
    refine J_getI E in_X3 rfl (S_X3.h S0) 5 (by decide) wd258 rfl dX3_takeYears_24 (fun x16 e17 => ?_)
    rw [show x16 = x11 from e17.trans (e12).symm]
    refine J_sipush E 999 dX3_takeYears_27 (by decide) ?_
    refine J_callVNV E cal_X6_passYears wd518 rfl (S_X6.h (S_X3.f6 S0)) [.ref (rf G (rf G h0 6) 6), .int x11, .int 999] [] (ct_X6_passYears l D dA G v1 w2 (o5) (rf G h0 6) (S_X3.f6 S0) (rf G (rf G h0 6) 6) (S_X6.f6 (S_X3.f6 S0)) x11 (b15.w 0 99 (by decide)) 999 ((Bd.lit 999 999 (by decide)).w 999 1059 (by decide))) rfl rfl (Nat.le_of_ble_eq_true rfl) ⟨rfl, rfl⟩ ⟨Nat.le_of_ble_eq_true rfl, Nat.le_of_ble_eq_true rfl⟩ dX3_takeYears_30 (fun v18 w19 p20 => ?_)
    have o22 := p20.1
    have k23 : Kp G v v18 := (k6).tr p20.2.1
    have f24 : Fr G [2, 3, 107] v v18 := Fr.tr f7 (p20.2.2) (by decide)
    refine J_iconst E 1 dX3_takeYears_33 (by decide) ?_
    exact J_zret E hr (Bd.z (Bd.lit 1 1 (by decide)) (by decide)) dX3_takeYears_34 ⟨o22, k23, ((Bd.lit 1 1 (by decide)).w 0 1 (by decide)), f24⟩
  · have b25 : Bd x4 0 0 := Bd.eq_l c9 b8 (Bd.lit 0 0 (by decide)) 0 0 (by decide)
    refine J_iconst E 0 dX3_takeYears_10 (by decide) ?_
    exact J_zret E hr (Bd.z (Bd.lit 0 0 (by decide)) (by decide)) dX3_takeYears_11 ⟨o5, k6, ((Bd.lit 0 0 (by decide)).w 0 1 (by decide)), f7⟩

abbrev rm_X3_takeStop : Room := { frames := 3, cells := 0, slots := 0, locals := 64 }
set_option maxHeartbeats 4000000 in
set_option maxRecDepth 100000 in
theorem ct_X3_takeStop (l : Launch) (D : va_G) (dA : Nat → ClassId) (G : Gm) (v : Mv) (w : Mw) (hOk : Ok G v w) (h0 : Nat) (S0 : S_X3 G h0) : CtI l yX3_takeStop cX3_takeStop 1 (some .boolean) rm_X3_takeStop D dA G [.ref h0] v w (fun r v1 w1 => Ok G v1 w1 ∧ Kp G v v1 ∧ Bd r 0 1 ∧ Fr G [3] v v1) := by
  refine CtI.of RX3 [(0, .ref h0)] (Nat.le_of_ble_eq_true rfl) rfl (by decide) rfl ?_
  intro p e s m args below meth c E hr
  refine J_aload_n E dX3_takeStop_0 0 rfl ?_
  refine J_callVV E cal_X3_nextToken wd405 rfl (S_X3.h S0) [] [] (ct_X3_nextToken l D dA G v w (hOk) h0 S0) rfl rfl (Nat.le_of_ble_eq_true rfl) ⟨rfl, rfl⟩ ⟨Nat.le_of_ble_eq_true rfl, Nat.le_of_ble_eq_true rfl⟩ dX3_takeStop_1 (fun v1 w2 p3 => ?_)
  have o5 := p3.1
  have k6 : Kp G v v1 := (Kp.rf).tr p3.2.1
  have f7 : Fr G [3] v v1 := Fr.tr Fr.rf (p3.2.2) (by decide)
  refine J_aload_n E dX3_takeStop_4 0 rfl ?_
  refine J_getI E in_X3 rfl (S_X3.h S0) 3 (by decide) wd256 rfl dX3_takeStop_5 (fun x8 e9 => ?_)
  refine J_iconst E 3 dX3_takeStop_8 (by decide) ?_
  refine J_icmp_ne E 16 dX3_takeStop_9 (by decide) (fun c10 => ?_) (fun c10 => ?_)
  · refine J_iconst E 0 dX3_takeStop_16 (by decide) ?_
    exact J_zret E hr (Bd.z (Bd.lit 0 0 (by decide)) (by decide)) dX3_takeStop_17 ⟨o5, k6, ((Bd.lit 0 0 (by decide)).w 0 1 (by decide)), f7⟩
  · have b11 : Bd x8 3 3 := Bd.eq_l c10 (Bd.any x8) (Bd.lit 3 3 (by decide)) 3 3 (by decide)
    refine J_iconst E 1 dX3_takeStop_12 (by decide) ?_
    refine J_goto E 17 dX3_takeStop_13 (by decide) ?_
    exact J_zret E hr (Bd.z (Bd.lit 1 1 (by decide)) (by decide)) dX3_takeStop_17 ⟨o5, k6, ((Bd.lit 1 1 (by decide)).w 0 1 (by decide)), f7⟩

abbrev rm_X4_isFull_5 : Room := { frames := 0, cells := 0, slots := 0, locals := 0 }
set_option maxHeartbeats 4000000 in
set_option maxRecDepth 100000 in
theorem ct_X4_isFull_5 (l : Launch) (D : va_G) (dA : Nat → ClassId) (G : Gm) (v : Mv) (w : Mw) (hOk : Ok G v w) (h0 : Nat) (S0 : S_X4 G h0 5) : CtI l yX4_isFull cX4_isFull 1 (some .boolean) rm_X4_isFull_5 D dA G [.ref h0] v w (fun r v1 w1 => v1 = v ∧ w1 = w ∧ Bd r 0 1 ∧ (¬ r = 0 ∨ Bd (v h0 2) 0 4)) := by
  refine CtI.of RX4 [(0, .ref h0)] (Nat.le_of_ble_eq_true rfl) rfl (by decide) rfl ?_
  intro p e s m args below meth c E hr
  refine J_aload_n E dX4_isFull_0 0 rfl ?_
  refine J_getI E in_X4 rfl (S_X4.h S0) 2 (by decide) wd181 rfl dX4_isFull_1 (fun x1 e2 => ?_)
  have b3 : Bd x1 0 5 := Ok.fd hOk e2 (S_X4.h S0) rfl
  refine J_aload_n E dX4_isFull_4 0 rfl ?_
  refine J_getI E in_X4 rfl (S_X4.h S0) 0 (by decide) wd179 rfl dX4_isFull_5 (fun x4 e5 => ?_)
  have b6 : Bd x4 5 5 := Ok.fd hOk e5 (S_X4.h S0) rfl
  refine J_icmp_lt E 15 dX4_isFull_8 (by decide) (fun c7 => ?_) (fun c7 => ?_)
  · have b8 : Bd x1 0 4 := Bd.lt_l c7 b3 b6 4 (by decide)
    refine J_iconst E 0 dX4_isFull_15 (by decide) ?_
    exact J_zret E hr (Bd.z (Bd.lit 0 0 (by decide)) (by decide)) dX4_isFull_16 ⟨rfl, rfl, ((Bd.lit 0 0 (by decide)).w 0 1 (by decide)), (Or.inr (Bd.e b8 (e2).symm))⟩
  · have b9 : Bd x1 5 5 := Bd.le_r (nlt c7) b6 b3 5 (by decide)
    refine J_iconst E 1 dX4_isFull_11 (by decide) ?_
    refine J_goto E 16 dX4_isFull_12 (by decide) ?_
    exact J_zret E hr (Bd.z (Bd.lit 1 1 (by decide)) (by decide)) dX4_isFull_16 ⟨rfl, rfl, ((Bd.lit 1 1 (by decide)).w 0 1 (by decide)), (Or.inl (by decide))⟩

abbrev rm_X4_isFull_6 : Room := { frames := 0, cells := 0, slots := 0, locals := 0 }
set_option maxHeartbeats 4000000 in
set_option maxRecDepth 100000 in
theorem ct_X4_isFull_6 (l : Launch) (D : va_G) (dA : Nat → ClassId) (G : Gm) (v : Mv) (w : Mw) (hOk : Ok G v w) (h0 : Nat) (S0 : S_X4 G h0 6) : CtI l yX4_isFull cX4_isFull 1 (some .boolean) rm_X4_isFull_6 D dA G [.ref h0] v w (fun r v1 w1 => v1 = v ∧ w1 = w ∧ Bd r 0 1 ∧ (¬ r = 0 ∨ Bd (v h0 2) 0 5)) := by
  refine CtI.of RX4 [(0, .ref h0)] (Nat.le_of_ble_eq_true rfl) rfl (by decide) rfl ?_
  intro p e s m args below meth c E hr
  refine J_aload_n E dX4_isFull_0 0 rfl ?_
  refine J_getI E in_X4 rfl (S_X4.h S0) 2 (by decide) wd181 rfl dX4_isFull_1 (fun x1 e2 => ?_)
  have b3 : Bd x1 0 6 := Ok.fd hOk e2 (S_X4.h S0) rfl
  refine J_aload_n E dX4_isFull_4 0 rfl ?_
  refine J_getI E in_X4 rfl (S_X4.h S0) 0 (by decide) wd179 rfl dX4_isFull_5 (fun x4 e5 => ?_)
  have b6 : Bd x4 6 6 := Ok.fd hOk e5 (S_X4.h S0) rfl
  refine J_icmp_lt E 15 dX4_isFull_8 (by decide) (fun c7 => ?_) (fun c7 => ?_)
  · have b8 : Bd x1 0 5 := Bd.lt_l c7 b3 b6 5 (by decide)
    refine J_iconst E 0 dX4_isFull_15 (by decide) ?_
    exact J_zret E hr (Bd.z (Bd.lit 0 0 (by decide)) (by decide)) dX4_isFull_16 ⟨rfl, rfl, ((Bd.lit 0 0 (by decide)).w 0 1 (by decide)), (Or.inr (Bd.e b8 (e2).symm))⟩
  · have b9 : Bd x1 6 6 := Bd.le_r (nlt c7) b6 b3 6 (by decide)
    refine J_iconst E 1 dX4_isFull_11 (by decide) ?_
    refine J_goto E 16 dX4_isFull_12 (by decide) ?_
    exact J_zret E hr (Bd.z (Bd.lit 1 1 (by decide)) (by decide)) dX4_isFull_16 ⟨rfl, rfl, ((Bd.lit 1 1 (by decide)).w 0 1 (by decide)), (Or.inl (by decide))⟩

abbrev rm_X4_add_5 : Room := { frames := 0, cells := 0, slots := 0, locals := 0 }
set_option maxHeartbeats 4000000 in
set_option maxRecDepth 100000 in
theorem ct_X4_add_5 (l : Launch) (D : va_G) (dA : Nat → ClassId) (G : Gm) (v : Mv) (w : Mw) (hOk : Ok G v w) (h0 : Nat) (S0 : S_X4 G h0 5) (x_0 : Int32) (bx_0 : Bd x_0 0 6) (x_1 : Int32) (bx_1 : Bd x_1 0 99) (x_2 : Int32) (bx_2 : Bd x_2 0 60) (x_3 : Int32) (bx_3 : Bd x_3 0 1) (z_0 : Int32) (ez_0 : z_0 = v h0 2) (pre0 : Bd z_0 0 4) : CtI l yX4_add cX4_add 6 (some .int) rm_X4_add_5 D dA G [.ref h0, .int x_0, .int x_1, .int x_2, .int x_3] v w (fun r v1 w1 => Ok G v1 w1 ∧ Kp G v v1 ∧ Bd r 1 5 ∧ Fr G [4, 120, 124] v v1) := by
  refine CtI.of RX4 [(0, .ref h0), (1, .int x_0), (2, .int x_1), (3, .int x_2), (4, .int x_3)] (Nat.le_of_ble_eq_true rfl) rfl (by decide) rfl ?_
  intro p e s m args below meth c E hr
  refine J_iconst E 4 dX4_add_0 (by decide) ?_
  refine J_aload_n E dX4_add_1 0 rfl ?_
  refine J_getI E in_X4 rfl (S_X4.h S0) 2 (by decide) wd181 rfl dX4_add_2 (fun x1 e2 => ?_)
  rw [show x1 = z_0 from e2.trans (ez_0).symm]
  refine J_imul E dX4_add_5 (fun x3 e4 => ?_)
  have b5 : Bd x3 0 16 := Bd.mul e4 (Bd.lit 4 4 (by decide)) pre0 (by decide)
  refine J_istore E [(5, .int x3), (0, .ref h0), (1, .int x_0), (2, .int x_1), (3, .int x_2), (4, .int x_3)] dX4_add_6 (by decide) rfl ?_
  refine J_aload_n E dX4_add_8 1 rfl ?_
  refine J_getR E in_X4 rfl (S_X4.h S0) 1 (by decide) wd180 rfl dX4_add_9 ?_
  refine J_iload E dX4_add_12 0 rfl ?_
  refine J_iload_n E dX4_add_14 2 rfl ?_
  refine J_iast1 E (S_X4.f1 S0) (Bd.in b5 (by decide)) dX4_add_15 (fun v6 e7 => ?_)
  have o8 : Ok G v6 w := by rw [e7]; exact Ok.sv hOk (S_X4.f1 S0) b5 bx_0 0 17 (by decide) (by decide +kernel)
  have k9 : Kp G v v6 := by rw [e7]; exact Kp.sv Kp.rf (S_X4.f1 S0) b5 0 17 0 6 (by decide) (by decide +kernel)
  have f10 : Fr G [4, 120, 124] v v6 := Fr.st Fr.rf e7 (S_X4.f1 S0) rfl
  have e11 : z_0 = v6 h0 2 := by rw [e7, stv_a (tg_ne (S_X4.h S0) ((S_X4.f1 S0)) rfl)]; exact ez_0
  refine J_aload_n E dX4_add_16 1 rfl ?_
  refine J_getR E in_X4 rfl (S_X4.h S0) 1 (by decide) wd180 rfl dX4_add_17 ?_
  refine J_iload E dX4_add_20 0 rfl ?_
  refine J_iconst E 1 dX4_add_22 (by decide) ?_
  refine J_iadd E dX4_add_23 (fun x12 e13 => ?_)
  have b14 : Bd x12 1 17 := (Bd.add e13 b5 (Bd.lit 1 1 (by decide)) (by decide)).w _ _ (by decide)
  refine J_iload_n E dX4_add_24 3 rfl ?_
  refine J_iast1 E (S_X4.f1 S0) (Bd.in b14 (by decide)) dX4_add_25 (fun v15 e16 => ?_)
  have o17 : Ok G v15 w := by rw [e16]; exact Ok.sv o8 (S_X4.f1 S0) b14 bx_1 1 17 (by decide) (by decide +kernel)
  have k18 : Kp G v v15 := by rw [e16]; exact Kp.sv k9 (S_X4.f1 S0) b14 1 17 0 99 (by decide) (by decide +kernel)
  have f19 : Fr G [4, 120, 124] v v15 := Fr.st f10 e16 (S_X4.f1 S0) rfl
  have e20 : z_0 = v15 h0 2 := by rw [e16, stv_a (tg_ne (S_X4.h S0) ((S_X4.f1 S0)) rfl)]; exact e11
  refine J_aload_n E dX4_add_26 1 rfl ?_
  refine J_getR E in_X4 rfl (S_X4.h S0) 1 (by decide) wd180 rfl dX4_add_27 ?_
  refine J_iload E dX4_add_30 0 rfl ?_
  refine J_iconst E 2 dX4_add_32 (by decide) ?_
  refine J_iadd E dX4_add_33 (fun x21 e22 => ?_)
  have b23 : Bd x21 2 18 := (Bd.add e22 b5 (Bd.lit 2 2 (by decide)) (by decide)).w _ _ (by decide)
  refine J_iload_n E dX4_add_34 4 rfl ?_
  refine J_iast1 E (S_X4.f1 S0) (Bd.in b23 (by decide)) dX4_add_35 (fun v24 e25 => ?_)
  have o26 : Ok G v24 w := by rw [e25]; exact Ok.sv o17 (S_X4.f1 S0) b23 bx_2 2 17 (by decide) (by decide +kernel)
  have k27 : Kp G v v24 := by rw [e25]; exact Kp.sv k18 (S_X4.f1 S0) b23 2 17 0 60 (by decide) (by decide +kernel)
  have f28 : Fr G [4, 120, 124] v v24 := Fr.st f19 e25 (S_X4.f1 S0) rfl
  have e29 : z_0 = v24 h0 2 := by rw [e25, stv_a (tg_ne (S_X4.h S0) ((S_X4.f1 S0)) rfl)]; exact e20
  refine J_aload_n E dX4_add_36 1 rfl ?_
  refine J_getR E in_X4 rfl (S_X4.h S0) 1 (by decide) wd180 rfl dX4_add_37 ?_
  refine J_iload E dX4_add_40 0 rfl ?_
  refine J_iconst E 3 dX4_add_42 (by decide) ?_
  refine J_iadd E dX4_add_43 (fun x30 e31 => ?_)
  have b32 : Bd x30 3 19 := (Bd.add e31 b5 (Bd.lit 3 3 (by decide)) (by decide)).w _ _ (by decide)
  refine J_iload E dX4_add_44 5 rfl ?_
  refine J_iast1 E (S_X4.f1 S0) (Bd.in b32 (by decide)) dX4_add_46 (fun v33 e34 => ?_)
  have o35 : Ok G v33 w := by rw [e34]; exact Ok.sv o26 (S_X4.f1 S0) b32 bx_3 3 17 (by decide) (by decide +kernel)
  have k36 : Kp G v v33 := by rw [e34]; exact Kp.sv k27 (S_X4.f1 S0) b32 3 17 0 1 (by decide) (by decide +kernel)
  have f37 : Fr G [4, 120, 124] v v33 := Fr.st f28 e34 (S_X4.f1 S0) rfl
  have e38 : z_0 = v33 h0 2 := by rw [e34, stv_a (tg_ne (S_X4.h S0) ((S_X4.f1 S0)) rfl)]; exact e29
  refine J_aload_n E dX4_add_47 1 rfl ?_
  refine J_dup E dX4_add_48 rfl ?_
  refine J_getI E in_X4 rfl (S_X4.h S0) 2 (by decide) wd181 rfl dX4_add_49 (fun x39 e40 => ?_)
  rw [show x39 = z_0 from e40.trans (e38).symm]
  refine J_iconst E 1 dX4_add_52 (by decide) ?_
  refine J_iadd E dX4_add_53 (fun x41 e42 => ?_)
  have b43 : Bd x41 1 5 := (Bd.add e42 pre0 (Bd.lit 1 1 (by decide)) (by decide)).w _ _ (by decide)
  refine J_pI E in_X4 rfl (S_X4.h S0) 2 (by decide) wd181 tyX4 tyX4_ok nmX4 rfl rfl .int (by decide +kernel) rfl rfl dX4_add_54 (fun v44 e45 => ?_)
  have o46 : Ok G v44 w := Ok.pf o35 e45 (S_X4.h S0) rfl (b43.w 0 5 (by decide))
  have k47 : Kp G v v44 := Kp.pf k36 e45 (S_X4.h S0) rfl
  have f48 : Fr G [4, 120, 124] v v44 := Fr.st f37 e45 (S_X4.h S0) rfl
  have e49 : x41 = v44 h0 2 := by rw [e45, stv_s]
  refine J_aload_n E dX4_add_57 1 rfl ?_
  refine J_getI E in_X4 rfl (S_X4.h S0) 2 (by decide) wd181 rfl dX4_add_58 (fun x50 e51 => ?_)
  rw [show x50 = x41 from e51.trans (e49).symm]
  exact J_iret E hr dX4_add_61 ⟨o46, k47, b43, f48⟩

abbrev rm_X4_add_6 : Room := { frames := 0, cells := 0, slots := 0, locals := 0 }
set_option maxHeartbeats 4000000 in
set_option maxRecDepth 100000 in
theorem ct_X4_add_6 (l : Launch) (D : va_G) (dA : Nat → ClassId) (G : Gm) (v : Mv) (w : Mw) (hOk : Ok G v w) (h0 : Nat) (S0 : S_X4 G h0 6) (x_0 : Int32) (bx_0 : Bd x_0 0 6) (x_1 : Int32) (bx_1 : Bd x_1 1 30) (x_2 : Int32) (bx_2 : Bd x_2 0 99) (x_3 : Int32) (bx_3 : Bd x_3 0 99) (z_0 : Int32) (ez_0 : z_0 = v h0 2) (pre0 : Bd z_0 0 5) : CtI l yX4_add cX4_add 6 (some .int) rm_X4_add_6 D dA G [.ref h0, .int x_0, .int x_1, .int x_2, .int x_3] v w (fun r v1 w1 => Ok G v1 w1 ∧ Kp G v v1 ∧ Bd r 1 6 ∧ Fr G [4, 120, 124] v v1) := by
  refine CtI.of RX4 [(0, .ref h0), (1, .int x_0), (2, .int x_1), (3, .int x_2), (4, .int x_3)] (Nat.le_of_ble_eq_true rfl) rfl (by decide) rfl ?_
  intro p e s m args below meth c E hr
  refine J_iconst E 4 dX4_add_0 (by decide) ?_
  refine J_aload_n E dX4_add_1 0 rfl ?_
  refine J_getI E in_X4 rfl (S_X4.h S0) 2 (by decide) wd181 rfl dX4_add_2 (fun x1 e2 => ?_)
  rw [show x1 = z_0 from e2.trans (ez_0).symm]
  refine J_imul E dX4_add_5 (fun x3 e4 => ?_)
  have b5 : Bd x3 0 20 := Bd.mul e4 (Bd.lit 4 4 (by decide)) pre0 (by decide)
  refine J_istore E [(5, .int x3), (0, .ref h0), (1, .int x_0), (2, .int x_1), (3, .int x_2), (4, .int x_3)] dX4_add_6 (by decide) rfl ?_
  refine J_aload_n E dX4_add_8 1 rfl ?_
  refine J_getR E in_X4 rfl (S_X4.h S0) 1 (by decide) wd180 rfl dX4_add_9 ?_
  refine J_iload E dX4_add_12 0 rfl ?_
  refine J_iload_n E dX4_add_14 2 rfl ?_
  refine J_iast1 E (S_X4.f1 S0) (Bd.in b5 (by decide)) dX4_add_15 (fun v6 e7 => ?_)
  have o8 : Ok G v6 w := by rw [e7]; exact Ok.sv hOk (S_X4.f1 S0) b5 bx_0 0 21 (by decide) (by decide +kernel)
  have k9 : Kp G v v6 := by rw [e7]; exact Kp.sv Kp.rf (S_X4.f1 S0) b5 0 21 0 6 (by decide) (by decide +kernel)
  have f10 : Fr G [4, 120, 124] v v6 := Fr.st Fr.rf e7 (S_X4.f1 S0) rfl
  have e11 : z_0 = v6 h0 2 := by rw [e7, stv_a (tg_ne (S_X4.h S0) ((S_X4.f1 S0)) rfl)]; exact ez_0
  refine J_aload_n E dX4_add_16 1 rfl ?_
  refine J_getR E in_X4 rfl (S_X4.h S0) 1 (by decide) wd180 rfl dX4_add_17 ?_
  refine J_iload E dX4_add_20 0 rfl ?_
  refine J_iconst E 1 dX4_add_22 (by decide) ?_
  refine J_iadd E dX4_add_23 (fun x12 e13 => ?_)
  have b14 : Bd x12 1 21 := (Bd.add e13 b5 (Bd.lit 1 1 (by decide)) (by decide)).w _ _ (by decide)
  refine J_iload_n E dX4_add_24 3 rfl ?_
  refine J_iast1 E (S_X4.f1 S0) (Bd.in b14 (by decide)) dX4_add_25 (fun v15 e16 => ?_)
  have o17 : Ok G v15 w := by rw [e16]; exact Ok.sv o8 (S_X4.f1 S0) b14 bx_1 1 21 (by decide) (by decide +kernel)
  have k18 : Kp G v v15 := by rw [e16]; exact Kp.sv k9 (S_X4.f1 S0) b14 1 21 1 30 (by decide) (by decide +kernel)
  have f19 : Fr G [4, 120, 124] v v15 := Fr.st f10 e16 (S_X4.f1 S0) rfl
  have e20 : z_0 = v15 h0 2 := by rw [e16, stv_a (tg_ne (S_X4.h S0) ((S_X4.f1 S0)) rfl)]; exact e11
  refine J_aload_n E dX4_add_26 1 rfl ?_
  refine J_getR E in_X4 rfl (S_X4.h S0) 1 (by decide) wd180 rfl dX4_add_27 ?_
  refine J_iload E dX4_add_30 0 rfl ?_
  refine J_iconst E 2 dX4_add_32 (by decide) ?_
  refine J_iadd E dX4_add_33 (fun x21 e22 => ?_)
  have b23 : Bd x21 2 22 := (Bd.add e22 b5 (Bd.lit 2 2 (by decide)) (by decide)).w _ _ (by decide)
  refine J_iload_n E dX4_add_34 4 rfl ?_
  refine J_iast1 E (S_X4.f1 S0) (Bd.in b23 (by decide)) dX4_add_35 (fun v24 e25 => ?_)
  have o26 : Ok G v24 w := by rw [e25]; exact Ok.sv o17 (S_X4.f1 S0) b23 bx_2 2 21 (by decide) (by decide +kernel)
  have k27 : Kp G v v24 := by rw [e25]; exact Kp.sv k18 (S_X4.f1 S0) b23 2 21 0 99 (by decide) (by decide +kernel)
  have f28 : Fr G [4, 120, 124] v v24 := Fr.st f19 e25 (S_X4.f1 S0) rfl
  have e29 : z_0 = v24 h0 2 := by rw [e25, stv_a (tg_ne (S_X4.h S0) ((S_X4.f1 S0)) rfl)]; exact e20
  refine J_aload_n E dX4_add_36 1 rfl ?_
  refine J_getR E in_X4 rfl (S_X4.h S0) 1 (by decide) wd180 rfl dX4_add_37 ?_
  refine J_iload E dX4_add_40 0 rfl ?_
  refine J_iconst E 3 dX4_add_42 (by decide) ?_
  refine J_iadd E dX4_add_43 (fun x30 e31 => ?_)
  have b32 : Bd x30 3 23 := (Bd.add e31 b5 (Bd.lit 3 3 (by decide)) (by decide)).w _ _ (by decide)
  refine J_iload E dX4_add_44 5 rfl ?_
  refine J_iast1 E (S_X4.f1 S0) (Bd.in b32 (by decide)) dX4_add_46 (fun v33 e34 => ?_)
  have o35 : Ok G v33 w := by rw [e34]; exact Ok.sv o26 (S_X4.f1 S0) b32 bx_3 3 21 (by decide) (by decide +kernel)
  have k36 : Kp G v v33 := by rw [e34]; exact Kp.sv k27 (S_X4.f1 S0) b32 3 21 0 99 (by decide) (by decide +kernel)
  have f37 : Fr G [4, 120, 124] v v33 := Fr.st f28 e34 (S_X4.f1 S0) rfl
  have e38 : z_0 = v33 h0 2 := by rw [e34, stv_a (tg_ne (S_X4.h S0) ((S_X4.f1 S0)) rfl)]; exact e29
  refine J_aload_n E dX4_add_47 1 rfl ?_
  refine J_dup E dX4_add_48 rfl ?_
  refine J_getI E in_X4 rfl (S_X4.h S0) 2 (by decide) wd181 rfl dX4_add_49 (fun x39 e40 => ?_)
  rw [show x39 = z_0 from e40.trans (e38).symm]
  refine J_iconst E 1 dX4_add_52 (by decide) ?_
  refine J_iadd E dX4_add_53 (fun x41 e42 => ?_)
  have b43 : Bd x41 1 6 := (Bd.add e42 pre0 (Bd.lit 1 1 (by decide)) (by decide)).w _ _ (by decide)
  refine J_pI E in_X4 rfl (S_X4.h S0) 2 (by decide) wd181 tyX4 tyX4_ok nmX4 rfl rfl .int (by decide +kernel) rfl rfl dX4_add_54 (fun v44 e45 => ?_)
  have o46 : Ok G v44 w := Ok.pf o35 e45 (S_X4.h S0) rfl (b43.w 0 6 (by decide))
  have k47 : Kp G v v44 := Kp.pf k36 e45 (S_X4.h S0) rfl
  have f48 : Fr G [4, 120, 124] v v44 := Fr.st f37 e45 (S_X4.h S0) rfl
  have e49 : x41 = v44 h0 2 := by rw [e45, stv_s]
  refine J_aload_n E dX4_add_57 1 rfl ?_
  refine J_getI E in_X4 rfl (S_X4.h S0) 2 (by decide) wd181 rfl dX4_add_58 (fun x50 e51 => ?_)
  rw [show x50 = x41 from e51.trans (e49).symm]
  exact J_iret E hr dX4_add_61 ⟨o46, k47, b43, f48⟩

abbrev rm_X4_cell_5 : Room := { frames := 0, cells := 0, slots := 0, locals := 0 }
set_option maxHeartbeats 4000000 in
set_option maxRecDepth 100000 in
theorem ct_X4_cell_5 (l : Launch) (D : va_G) (dA : Nat → ClassId) (G : Gm) (v : Mv) (w : Mw) (hOk : Ok G v w) (h0 : Nat) (S0 : S_X4 G h0 5) (x_0 : Int32) (bx_0 : Bd x_0 0 4) (x_1 : Int32) (bx_1 : Bd x_1 0 3) : CtI l yX4_cell cX4_cell 3 (some .int) rm_X4_cell_5 D dA G [.ref h0, .int x_0, .int x_1] v w (fun r v1 w1 => v1 = v ∧ w1 = w ∧ True ∧ True) := by
  refine CtI.of RX4 [(0, .ref h0), (1, .int x_0), (2, .int x_1)] (Nat.le_of_ble_eq_true rfl) rfl (by decide) rfl ?_
  intro p e s m args below meth c E hr
  refine J_aload_n E dX4_cell_0 0 rfl ?_
  refine J_getR E in_X4 rfl (S_X4.h S0) 1 (by decide) wd180 rfl dX4_cell_1 ?_
  refine J_iconst E 4 dX4_cell_4 (by decide) ?_
  refine J_iload_n E dX4_cell_5 1 rfl ?_
  refine J_imul E dX4_cell_6 (fun x1 e2 => ?_)
  have b3 : Bd x1 0 16 := Bd.mul e2 (Bd.lit 4 4 (by decide)) bx_0 (by decide)
  refine J_iload_n E dX4_cell_7 2 rfl ?_
  refine J_iadd E dX4_cell_8 (fun x4 e5 => ?_)
  have b6 : Bd x4 0 19 := (Bd.add e5 b3 bx_1 (by decide)).w _ _ (by decide)
  refine J_iald1 E (S_X4.f1 S0) (Bd.in b6 (by decide)) dX4_cell_9 (fun x7 e8 => ?_)
  exact J_iret E hr dX4_cell_10 ⟨rfl, rfl, trivial, trivial⟩

abbrev rm_X4_cell_6 : Room := { frames := 0, cells := 0, slots := 0, locals := 0 }
set_option maxHeartbeats 4000000 in
set_option maxRecDepth 100000 in
theorem ct_X4_cell_6 (l : Launch) (D : va_G) (dA : Nat → ClassId) (G : Gm) (v : Mv) (w : Mw) (hOk : Ok G v w) (h0 : Nat) (S0 : S_X4 G h0 6) (x_0 : Int32) (bx_0 : Bd x_0 0 5) (x_1 : Int32) (bx_1 : Bd x_1 0 3) : CtI l yX4_cell cX4_cell 3 (some .int) rm_X4_cell_6 D dA G [.ref h0, .int x_0, .int x_1] v w (fun r v1 w1 => v1 = v ∧ w1 = w ∧ True ∧ True) := by
  refine CtI.of RX4 [(0, .ref h0), (1, .int x_0), (2, .int x_1)] (Nat.le_of_ble_eq_true rfl) rfl (by decide) rfl ?_
  intro p e s m args below meth c E hr
  refine J_aload_n E dX4_cell_0 0 rfl ?_
  refine J_getR E in_X4 rfl (S_X4.h S0) 1 (by decide) wd180 rfl dX4_cell_1 ?_
  refine J_iconst E 4 dX4_cell_4 (by decide) ?_
  refine J_iload_n E dX4_cell_5 1 rfl ?_
  refine J_imul E dX4_cell_6 (fun x1 e2 => ?_)
  have b3 : Bd x1 0 20 := Bd.mul e2 (Bd.lit 4 4 (by decide)) bx_0 (by decide)
  refine J_iload_n E dX4_cell_7 2 rfl ?_
  refine J_iadd E dX4_cell_8 (fun x4 e5 => ?_)
  have b6 : Bd x4 0 23 := (Bd.add e5 b3 bx_1 (by decide)).w _ _ (by decide)
  refine J_iald1 E (S_X4.f1 S0) (Bd.in b6 (by decide)) dX4_cell_9 (fun x7 e8 => ?_)
  exact J_iret E hr dX4_cell_10 ⟨rfl, rfl, trivial, trivial⟩

abbrev rm_X4_copyFrom_5 : Room := { frames := 0, cells := 0, slots := 0, locals := 0 }
set_option maxHeartbeats 4000000 in
set_option maxRecDepth 100000 in
theorem ct_X4_copyFrom_5 (l : Launch) (D : va_G) (dA : Nat → ClassId) (G : Gm) (v : Mv) (w : Mw) (hOk : Ok G v w) (h0 : Nat) (S0 : S_X4 G h0 5) (h_0 : Nat) (S_0 : S_X4 G h_0 5) : CtV l yX4_copyFrom cX4_copyFrom 3 none rm_X4_copyFrom_5 D dA G [.ref h0, .ref h_0] v w (fun v1 w1 => Ok G v1 w1 ∧ Kp G v v1 ∧ Fr G [4, 120, 124] v v1) := by
  refine CtV.of RX4 [(0, .ref h0), (1, .ref h_0)] (Nat.le_of_ble_eq_true rfl) rfl (by decide) rfl ?_
  intro p e s m args below meth c E hr
  have J10 : ∀ n : Nat, ∀ (v1 : Mv) (w2 : Mw), Ok G v1 w2 → Kp G v v1 → Fr G [4, 120, 124] v v1 → ∀ x6 : Int32, Bd x6 0 60 → Mu x6 60 n → J p l e rm_X4_copyFrom_5 s m args below meth c 0 0 (MQ below (QcV D dA G (fun v1 w1 => Ok G v1 w1 ∧ Kp G v v1 ∧ Fr G [4, 120, 124] v v1)) args s 0 0 (dm G)) D dA G (dm G) s.heap 3 v1 w2 [(0, .ref h0), (1, .ref h_0), (2, .int x6)] 10 [] := by
    intro n
    induction n with
    | zero => intro v1 w2 o3 k4 f5 x6 b7 hm; exact hm.zero b7 (by decide)
    | succ n ih10 =>
      intro v1 w2 o3 k4 f5 x6 b7 hmu10
      refine J_iload_n E dX4_copyFrom_10 2 rfl ?_
      refine J_iconst E 4 dX4_copyFrom_11 (by decide) ?_
      refine J_aload_n E dX4_copyFrom_12 0 rfl ?_
      refine J_getI E in_X4 rfl (S_X4.h S0) 2 (by decide) wd181 rfl dX4_copyFrom_13 (fun x8 e9 => ?_)
      have b10 : Bd x8 0 5 := Ok.fd o3 e9 (S_X4.h S0) rfl
      refine J_imul E dX4_copyFrom_16 (fun x11 e12 => ?_)
      have b13 : Bd x11 0 20 := Bd.mul e12 (Bd.lit 4 4 (by decide)) b10 (by decide)
      refine J_icmp_ge E 38 dX4_copyFrom_17 (by decide) (fun c14 => ?_) (fun c14 => ?_)
      · exact J_vret E hr dX4_copyFrom_38 ⟨o3, k4, f5⟩
      · have b15 : Bd x6 0 19 := Bd.lt_l (nle c14) b7 b13 19 (by decide)
        have b16 : Bd x11 1 20 := Bd.lt_r (nle c14) b7 b13 1 (by decide)
        refine J_aload_n E dX4_copyFrom_20 0 rfl ?_
        refine J_getR E in_X4 rfl (S_X4.h S0) 1 (by decide) wd180 rfl dX4_copyFrom_21 ?_
        refine J_iload_n E dX4_copyFrom_24 2 rfl ?_
        refine J_aload_n E dX4_copyFrom_25 1 rfl ?_
        refine J_getR E in_X4 rfl (S_X4.h S_0) 1 (by decide) wd180 rfl dX4_copyFrom_26 ?_
        refine J_iload_n E dX4_copyFrom_29 2 rfl ?_
        refine J_iald1 E (S_X4.f1 S_0) (Bd.in b15 (by decide)) dX4_copyFrom_30 (fun x17 e18 => ?_)
        refine J_iast1 E (S_X4.f1 S0) (Bd.in b15 (by decide)) dX4_copyFrom_31 (fun v19 e20 => ?_)
        have o21 : Ok G v19 w2 := by rw [e20]; exact Ok.sv o3 (S_X4.f1 S0) b15 (Bd.any x17) 0 20 (by decide) (by decide +kernel)
        have k22 : Kp G v v19 := by rw [e20]; exact Kp.sv k4 (S_X4.f1 S0) b15 0 20 I0 I1 (by decide) (by decide +kernel)
        have f23 : Fr G [4, 120, 124] v v19 := Fr.st f5 e20 (S_X4.f1 S0) rfl
        have e24 : x8 = v19 h0 2 := by rw [e20, stv_a (tg_ne (S_X4.h S0) ((S_X4.f1 S0)) rfl)]; exact e9
        refine J_iinc E 2 1 (fun z => [(2, .int z), (0, .ref h0), (1, .ref h_0)]) dX4_copyFrom_32 rfl (by decide) (by decide) (fun _ => rfl) (fun x25 e26 => ?_)
        have b27 : Bd x25 1 20 := (Bd.add e26 b15 (Bd.lit 1 1 (by decide)) (by decide)).w _ _ (by decide)
        refine J_goto E 10 dX4_copyFrom_35 (by decide) ?_
        exact J.sub [1, 2, 0] rfl (ih10 v19 w2 (o21) (k22) f23 x25 (b27.w 0 60 (by decide)) (Mu.step hmu10 e26 b15 (Bd.lit 1 1 (by decide)) (by decide)))
  refine J_aload_n E dX4_copyFrom_0 0 rfl ?_
  refine J_aload_n E dX4_copyFrom_1 1 rfl ?_
  refine J_getI E in_X4 rfl (S_X4.h S_0) 2 (by decide) wd181 rfl dX4_copyFrom_2 (fun x28 e29 => ?_)
  have b30 : Bd x28 0 5 := Ok.fd hOk e29 (S_X4.h S_0) rfl
  refine J_pI E in_X4 rfl (S_X4.h S0) 2 (by decide) wd181 tyX4 tyX4_ok nmX4 rfl rfl .int (by decide +kernel) rfl rfl dX4_copyFrom_5 (fun v31 e32 => ?_)
  have o33 : Ok G v31 w := Ok.pf hOk e32 (S_X4.h S0) rfl b30
  have k34 : Kp G v v31 := Kp.pf Kp.rf e32 (S_X4.h S0) rfl
  have f35 : Fr G [4, 120, 124] v v31 := Fr.st Fr.rf e32 (S_X4.h S0) rfl
  have e36 : x28 = v31 h0 2 := by rw [e32, stv_s]
  refine J_iconst E 0 dX4_copyFrom_8 (by decide) ?_
  refine J_istore_n E [(2, .int 0), (0, .ref h0), (1, .ref h_0)] dX4_copyFrom_9 rfl (by decide) rfl ?_
  exact J.sub [1, 2, 0] rfl (J10 61 v31 w (o33) (k34) f35 0 ((Bd.lit 0 0 (by decide)).w 0 60 (by decide)) (Mu.start _ (Bd.lit 0 0 (by decide)) (by decide)))

abbrev rm_X4_copyFrom_6 : Room := { frames := 0, cells := 0, slots := 0, locals := 0 }
set_option maxHeartbeats 4000000 in
set_option maxRecDepth 100000 in
theorem ct_X4_copyFrom_6 (l : Launch) (D : va_G) (dA : Nat → ClassId) (G : Gm) (v : Mv) (w : Mw) (hOk : Ok G v w) (h0 : Nat) (S0 : S_X4 G h0 6) (h_0 : Nat) (S_0 : S_X4 G h_0 6) : CtV l yX4_copyFrom cX4_copyFrom 3 none rm_X4_copyFrom_6 D dA G [.ref h0, .ref h_0] v w (fun v1 w1 => Ok G v1 w1 ∧ Kp G v v1 ∧ Fr G [4, 120, 124] v v1) := by
  refine CtV.of RX4 [(0, .ref h0), (1, .ref h_0)] (Nat.le_of_ble_eq_true rfl) rfl (by decide) rfl ?_
  intro p e s m args below meth c E hr
  have J10 : ∀ n : Nat, ∀ (v1 : Mv) (w2 : Mw), Ok G v1 w2 → Kp G v v1 → Fr G [4, 120, 124] v v1 → ∀ x6 : Int32, Bd x6 0 60 → Mu x6 60 n → J p l e rm_X4_copyFrom_6 s m args below meth c 0 0 (MQ below (QcV D dA G (fun v1 w1 => Ok G v1 w1 ∧ Kp G v v1 ∧ Fr G [4, 120, 124] v v1)) args s 0 0 (dm G)) D dA G (dm G) s.heap 3 v1 w2 [(0, .ref h0), (1, .ref h_0), (2, .int x6)] 10 [] := by
    intro n
    induction n with
    | zero => intro v1 w2 o3 k4 f5 x6 b7 hm; exact hm.zero b7 (by decide)
    | succ n ih10 =>
      intro v1 w2 o3 k4 f5 x6 b7 hmu10
      refine J_iload_n E dX4_copyFrom_10 2 rfl ?_
      refine J_iconst E 4 dX4_copyFrom_11 (by decide) ?_
      refine J_aload_n E dX4_copyFrom_12 0 rfl ?_
      refine J_getI E in_X4 rfl (S_X4.h S0) 2 (by decide) wd181 rfl dX4_copyFrom_13 (fun x8 e9 => ?_)
      have b10 : Bd x8 0 6 := Ok.fd o3 e9 (S_X4.h S0) rfl
      refine J_imul E dX4_copyFrom_16 (fun x11 e12 => ?_)
      have b13 : Bd x11 0 24 := Bd.mul e12 (Bd.lit 4 4 (by decide)) b10 (by decide)
      refine J_icmp_ge E 38 dX4_copyFrom_17 (by decide) (fun c14 => ?_) (fun c14 => ?_)
      · exact J_vret E hr dX4_copyFrom_38 ⟨o3, k4, f5⟩
      · have b15 : Bd x6 0 23 := Bd.lt_l (nle c14) b7 b13 23 (by decide)
        have b16 : Bd x11 1 24 := Bd.lt_r (nle c14) b7 b13 1 (by decide)
        refine J_aload_n E dX4_copyFrom_20 0 rfl ?_
        refine J_getR E in_X4 rfl (S_X4.h S0) 1 (by decide) wd180 rfl dX4_copyFrom_21 ?_
        refine J_iload_n E dX4_copyFrom_24 2 rfl ?_
        refine J_aload_n E dX4_copyFrom_25 1 rfl ?_
        refine J_getR E in_X4 rfl (S_X4.h S_0) 1 (by decide) wd180 rfl dX4_copyFrom_26 ?_
        refine J_iload_n E dX4_copyFrom_29 2 rfl ?_
        refine J_iald1 E (S_X4.f1 S_0) (Bd.in b15 (by decide)) dX4_copyFrom_30 (fun x17 e18 => ?_)
        refine J_iast1 E (S_X4.f1 S0) (Bd.in b15 (by decide)) dX4_copyFrom_31 (fun v19 e20 => ?_)
        have o21 : Ok G v19 w2 := by rw [e20]; exact Ok.sv o3 (S_X4.f1 S0) b15 (Bd.any x17) 0 24 (by decide) (by decide +kernel)
        have k22 : Kp G v v19 := by rw [e20]; exact Kp.sv k4 (S_X4.f1 S0) b15 0 24 I0 I1 (by decide) (by decide +kernel)
        have f23 : Fr G [4, 120, 124] v v19 := Fr.st f5 e20 (S_X4.f1 S0) rfl
        have e24 : x8 = v19 h0 2 := by rw [e20, stv_a (tg_ne (S_X4.h S0) ((S_X4.f1 S0)) rfl)]; exact e9
        refine J_iinc E 2 1 (fun z => [(2, .int z), (0, .ref h0), (1, .ref h_0)]) dX4_copyFrom_32 rfl (by decide) (by decide) (fun _ => rfl) (fun x25 e26 => ?_)
        have b27 : Bd x25 1 24 := (Bd.add e26 b15 (Bd.lit 1 1 (by decide)) (by decide)).w _ _ (by decide)
        refine J_goto E 10 dX4_copyFrom_35 (by decide) ?_
        exact J.sub [1, 2, 0] rfl (ih10 v19 w2 (o21) (k22) f23 x25 (b27.w 0 60 (by decide)) (Mu.step hmu10 e26 b15 (Bd.lit 1 1 (by decide)) (by decide)))
  refine J_aload_n E dX4_copyFrom_0 0 rfl ?_
  refine J_aload_n E dX4_copyFrom_1 1 rfl ?_
  refine J_getI E in_X4 rfl (S_X4.h S_0) 2 (by decide) wd181 rfl dX4_copyFrom_2 (fun x28 e29 => ?_)
  have b30 : Bd x28 0 6 := Ok.fd hOk e29 (S_X4.h S_0) rfl
  refine J_pI E in_X4 rfl (S_X4.h S0) 2 (by decide) wd181 tyX4 tyX4_ok nmX4 rfl rfl .int (by decide +kernel) rfl rfl dX4_copyFrom_5 (fun v31 e32 => ?_)
  have o33 : Ok G v31 w := Ok.pf hOk e32 (S_X4.h S0) rfl b30
  have k34 : Kp G v v31 := Kp.pf Kp.rf e32 (S_X4.h S0) rfl
  have f35 : Fr G [4, 120, 124] v v31 := Fr.st Fr.rf e32 (S_X4.h S0) rfl
  have e36 : x28 = v31 h0 2 := by rw [e32, stv_s]
  refine J_iconst E 0 dX4_copyFrom_8 (by decide) ?_
  refine J_istore_n E [(2, .int 0), (0, .ref h0), (1, .ref h_0)] dX4_copyFrom_9 rfl (by decide) rfl ?_
  exact J.sub [1, 2, 0] rfl (J10 61 v31 w (o33) (k34) f35 0 ((Bd.lit 0 0 (by decide)).w 0 60 (by decide)) (Mu.start _ (Bd.lit 0 0 (by decide)) (by decide)))

abbrev rm_X4_mixInto_5 : Room := { frames := 0, cells := 0, slots := 0, locals := 0 }
set_option maxHeartbeats 4000000 in
set_option maxRecDepth 100000 in
theorem ct_X4_mixInto_5 (l : Launch) (D : va_G) (dA : Nat → ClassId) (G : Gm) (v : Mv) (w : Mw) (hOk : Ok G v w) (h0 : Nat) (S0 : S_X4 G h0 5) (y_0 : Int64) : CtL l yX4_mixInto cX4_mixInto 6 (some .long) rm_X4_mixInto_5 D dA G [.ref h0, .long y_0] v w (fun _ v1 w1 => v1 = v ∧ w1 = w ∧ True) := by
  refine CtL.of RX4 [(0, .ref h0), (1, .long y_0)] (Nat.le_of_ble_eq_true rfl) rfl (by decide) rfl ?_
  intro p e s m args below meth c E hr
  have J5 : ∀ n : Nat, ∀ y1 : Int64, ∀ x2 : Int32, Bd x2 0 60 → Mu x2 60 n → J p l e rm_X4_mixInto_5 s m args below meth c 0 0 (MQ below (QcL D dA G (fun _ v1 w1 => v1 = v ∧ w1 = w ∧ True)) args s 0 0 (dm G)) D dA G (dm G) s.heap 6 v w [(0, .ref h0), (3, .long y1), (5, .int x2)] 5 [] := by
    intro n
    induction n with
    | zero => intro y1 x2 b3 hm; exact hm.zero b3 (by decide)
    | succ n ih5 =>
      intro y1 x2 b3 hmu5
      refine J_iload E dX4_mixInto_5 2 rfl ?_
      refine J_iconst E 4 dX4_mixInto_7 (by decide) ?_
      refine J_aload_n E dX4_mixInto_8 0 rfl ?_
      refine J_getI E in_X4 rfl (S_X4.h S0) 2 (by decide) wd181 rfl dX4_mixInto_9 (fun x4 e5 => ?_)
      have b6 : Bd x4 0 5 := Ok.fd hOk e5 (S_X4.h S0) rfl
      refine J_imul E dX4_mixInto_12 (fun x7 e8 => ?_)
      have b9 : Bd x7 0 20 := Bd.mul e8 (Bd.lit 4 4 (by decide)) b6 (by decide)
      refine J_icmp_ge E 37 dX4_mixInto_13 (by decide) (fun c10 => ?_) (fun c10 => ?_)
      · refine J_lload_n E dX4_mixInto_37 1 rfl ?_
        exact J_lret E hr dX4_mixInto_38 ⟨rfl, rfl, trivial⟩
      · have b11 : Bd x2 0 19 := Bd.lt_l (nle c10) b3 b9 19 (by decide)
        have b12 : Bd x7 1 20 := Bd.lt_r (nle c10) b3 b9 1 (by decide)
        refine J_ldc2 E wd924 dX4_mixInto_16 ?_
        refine J_lload_n E dX4_mixInto_19 1 rfl ?_
        refine J_lmul E dX4_mixInto_20 (fun y13 e14 => ?_)
        refine J_aload_n E dX4_mixInto_21 0 rfl ?_
        refine J_getR E in_X4 rfl (S_X4.h S0) 1 (by decide) wd180 rfl dX4_mixInto_22 ?_
        refine J_iload E dX4_mixInto_25 2 rfl ?_
        refine J_iald1 E (S_X4.f1 S0) (Bd.in b11 (by decide)) dX4_mixInto_27 (fun x15 e16 => ?_)
        refine J_i2l E dX4_mixInto_28 (fun y17 e18 => ?_)
        refine J_ladd E dX4_mixInto_29 (fun y19 e20 => ?_)
        refine J_lstore_n E [(3, .long y19), (0, .ref h0), (5, .int x2)] dX4_mixInto_30 rfl (by decide) rfl ?_
        refine J_iinc E 2 1 (fun z => [(5, .int z), (3, .long y19), (0, .ref h0)]) dX4_mixInto_31 rfl (by decide) (by decide) (fun _ => rfl) (fun x21 e22 => ?_)
        have b23 : Bd x21 1 20 := (Bd.add e22 b11 (Bd.lit 1 1 (by decide)) (by decide)).w _ _ (by decide)
        refine J_goto E 5 dX4_mixInto_34 (by decide) ?_
        exact J.sub [2, 1, 0] rfl (ih5 y19 x21 (b23.w 0 60 (by decide)) (Mu.step hmu5 e22 b11 (Bd.lit 1 1 (by decide)) (by decide)))
  refine J_lload_n E dX4_mixInto_0 1 rfl ?_
  refine J_lstore_n E [(3, .long y_0), (0, .ref h0), (1, .long y_0)] dX4_mixInto_1 rfl (by decide) rfl ?_
  refine J_iconst E 0 dX4_mixInto_2 (by decide) ?_
  refine J_istore E [(5, .int 0), (3, .long y_0), (0, .ref h0), (1, .long y_0)] dX4_mixInto_3 (by decide) rfl ?_
  exact J.sub [2, 1, 0] rfl (J5 61 y_0 0 ((Bd.lit 0 0 (by decide)).w 0 60 (by decide)) (Mu.start _ (Bd.lit 0 0 (by decide)) (by decide)))
