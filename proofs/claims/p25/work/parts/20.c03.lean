abbrev rm_X7_of : Room := { frames := 2, cells := 0, slots := 0, locals := 43 }
set_option maxHeartbeats 4000000 in
set_option maxRecDepth 100000 in
theorem ct_X7_of (l : Launch) (D : va_G) (dA : Nat → ClassId) (G : Gm) (v : Mv) (w : Mw) (hOk : Ok G v w) (h0 : Nat) (S0 : S_X7 G h0) (x_0 : Int32) (x_1 : Int32) : CtI l yX7_of cX7_of 3 (some .int) rm_X7_of D dA G [.ref h0, .int x_0, .int x_1] v w (fun r v1 w1 => Ok G v1 w1 ∧ Kp G v v1 ∧ True ∧ Fr G [7] v v1) := by
  refine CtI.of RX7 [(0, .ref h0), (1, .int x_0), (2, .int x_1)] (Nat.le_of_ble_eq_true rfl) rfl (by decide) rfl ?_
  intro p e s m args below meth c E hr
  have J20 :  J p l e rm_X7_of s m args below meth c 0 0 (MQ below (QcI D dA G (fun r v1 w1 => Ok G v1 w1 ∧ Kp G v v1 ∧ True ∧ Fr G [7] v v1)) args s 0 0 (dm G)) D dA G (dm G) s.heap 3 v w [(0, .ref h0)] 20 [] := by
    refine J_aload_n E dX7_of_20 0 rfl ?_
    refine J_callVI E cal_X7_bad wd364 rfl (S_X7.h S0) [] [] (ct_X7_bad l D dA G v w (hOk) h0 S0) rfl rfl (Nat.le_of_ble_eq_true rfl) ⟨rfl, rfl⟩ ⟨Nat.le_of_ble_eq_true rfl, Nat.le_of_ble_eq_true rfl⟩ dX7_of_21 (fun x4 v1 w2 p3 => ?_)
    have ew9 : w = w2 := p3.2.2.2.1.1.symm
    subst ew9
    have o5 := p3.1
    have k6 : Kp G v v1 := (Kp.rf).tr p3.2.1
    have f7 : Fr G [7] v v1 := Fr.tr Fr.rf (p3.2.2.2.2) (by decide)
    have b8 : Bd x4 (-2) (-2) := p3.2.2.1
    exact J_iret E hr dX7_of_24 ⟨o5, k6, trivial, f7⟩
  refine J_aload_n E dX7_of_0 0 rfl ?_
  refine J_getR E in_X7 rfl (S_X7.h S0) 0 (by decide) wd308 rfl dX7_of_1 ?_
  refine J_iload_n E dX7_of_4 1 rfl ?_
  refine J_callVNI E cal_X6_hasOne wd584 rfl (S_X6.h (S_X7.f0 S0)) [.int x_0] [] (ct_X6_hasOne l D dA G v w (hOk) (rf G h0 0) (S_X7.f0 S0) x_0) rfl rfl (Nat.le_of_ble_eq_true rfl) ⟨rfl, rfl⟩ ⟨Nat.le_of_ble_eq_true rfl, Nat.le_of_ble_eq_true rfl⟩ dX7_of_5 (fun x12 v9 w10 p11 => ?_)
  rw [p11.1, p11.2.1]
  have b13 : Bd x12 0 1 := p11.2.2.1
  refine J_if_eq E 20 dX7_of_8 (by decide) (fun c14 => ?_) (fun c14 => ?_)
  · have b15 : Bd x12 0 0 := Bd.eq_l c14 b13 (Bd.lit 0 0 (by decide)) 0 0 (by decide)
    exact J.sub [0] rfl (J20)
  · have b16 : Bd x12 1 1 := (Bd.ne_lo c14 b13 (Bd.lit 0 0 (by decide))).w _ _ (by decide)
    have b17 : Bd x_0 0 6 := (p11.2.2.2.1).resolve_left c14
    refine J_iload_n E dX7_of_11 2 rfl ?_
    refine J_iconst E 0 dX7_of_12 (by decide) ?_
    refine J_iconst E 4 dX7_of_13 (by decide) ?_
    refine J_callSI E cal_X7_isWithin wd361 [.int x_1, .int 0, .int 4] [] (ct_X7_isWithin l D dA G v w (hOk) x_1 0 4) rfl rfl (Nat.le_of_ble_eq_true rfl) ⟨rfl, rfl⟩ ⟨Nat.le_of_ble_eq_true rfl, Nat.le_of_ble_eq_true rfl⟩ dX7_of_14 (fun x21 v18 w19 p20 => ?_)
    rw [p20.1, p20.2.1]
    have b22 : Bd x21 0 1 := p20.2.2.1
    refine J_if_ne E 25 dX7_of_17 (by decide) (fun c23 => ?_) (fun c23 => ?_)
    · have b24 : Bd x21 1 1 := (Bd.ne_lo c23 b22 (Bd.lit 0 0 (by decide))).w _ _ (by decide)
      have g25 := (p20.2.2.2.1).resolve_left c23
      have b26 : Bd x_1 0 I1 := Bd.le_r g25.1 (Bd.lit 0 0 (by decide)) (Bd.any x_1) 0 (by decide)
      have b27 : Bd x_1 0 4 := Bd.le_l g25.2 b26 (Bd.lit 4 4 (by decide)) 4 (by decide)
      refine J_aload_n E dX7_of_25 0 rfl ?_
      refine J_getR E in_X7 rfl (S_X7.h S0) 0 (by decide) wd308 rfl dX7_of_26 ?_
      refine J_iload_n E dX7_of_29 1 rfl ?_
      refine J_iload_n E dX7_of_30 2 rfl ?_
      refine J_callVNI E cal_X6_factOfOne wd643 rfl (S_X6.h (S_X7.f0 S0)) [.int x_0, .int x_1] [] (ct_X6_factOfOne l D dA G v w (hOk) (rf G h0 0) (S_X7.f0 S0) x_0 b17 x_1 b27) rfl rfl (Nat.le_of_ble_eq_true rfl) ⟨rfl, rfl⟩ ⟨Nat.le_of_ble_eq_true rfl, Nat.le_of_ble_eq_true rfl⟩ dX7_of_31 (fun x31 v28 w29 p30 => ?_)
      rw [p30.1, p30.2.1]
      exact J_iret E hr dX7_of_34 ⟨hOk, Kp.rf, trivial, Fr.rf⟩
    · have b32 : Bd x21 0 0 := Bd.eq_l c23 b22 (Bd.lit 0 0 (by decide)) 0 0 (by decide)
      have g33 : ¬ (0 ≤ x_1 ∧ x_1 ≤ 4) := (p20.2.2.2.2.1).resolve_left (fun h9 => h9 c23)
      exact J.sub [0] rfl (J20)

abbrev rm_X7_about : Room := { frames := 2, cells := 0, slots := 0, locals := 44 }
set_option maxHeartbeats 4000000 in
set_option maxRecDepth 100000 in
theorem ct_X7_about (l : Launch) (D : va_G) (dA : Nat → ClassId) (G : Gm) (v : Mv) (w : Mw) (hOk : Ok G v w) (h0 : Nat) (S0 : S_X7 G h0) (x_0 : Int32) (x_1 : Int32) : CtI l yX7_about cX7_about 3 (some .int) rm_X7_about D dA G [.ref h0, .int x_0, .int x_1] v w (fun r v1 w1 => Ok G v1 w1 ∧ Kp G v v1 ∧ True ∧ Fr G [7] v v1) := by
  refine CtI.of RX7 [(0, .ref h0), (1, .int x_0), (2, .int x_1)] (Nat.le_of_ble_eq_true rfl) rfl (by decide) rfl ?_
  intro p e s m args below meth c E hr
  have J20 :  J p l e rm_X7_about s m args below meth c 0 0 (MQ below (QcI D dA G (fun r v1 w1 => Ok G v1 w1 ∧ Kp G v v1 ∧ True ∧ Fr G [7] v v1)) args s 0 0 (dm G)) D dA G (dm G) s.heap 3 v w [(0, .ref h0)] 20 [] := by
    refine J_aload_n E dX7_about_20 0 rfl ?_
    refine J_callVI E cal_X7_bad wd364 rfl (S_X7.h S0) [] [] (ct_X7_bad l D dA G v w (hOk) h0 S0) rfl rfl (Nat.le_of_ble_eq_true rfl) ⟨rfl, rfl⟩ ⟨Nat.le_of_ble_eq_true rfl, Nat.le_of_ble_eq_true rfl⟩ dX7_about_21 (fun x4 v1 w2 p3 => ?_)
    have ew9 : w = w2 := p3.2.2.2.1.1.symm
    subst ew9
    have o5 := p3.1
    have k6 : Kp G v v1 := (Kp.rf).tr p3.2.1
    have f7 : Fr G [7] v v1 := Fr.tr Fr.rf (p3.2.2.2.2) (by decide)
    have b8 : Bd x4 (-2) (-2) := p3.2.2.1
    exact J_iret E hr dX7_about_24 ⟨o5, k6, trivial, f7⟩
  refine J_aload_n E dX7_about_0 0 rfl ?_
  refine J_getR E in_X7 rfl (S_X7.h S0) 0 (by decide) wd308 rfl dX7_about_1 ?_
  refine J_iload_n E dX7_about_4 1 rfl ?_
  refine J_callVNI E cal_X6_hasThing wd588 rfl (S_X6.h (S_X7.f0 S0)) [.int x_0] [] (ct_X6_hasThing l D dA G v w (hOk) (rf G h0 0) (S_X7.f0 S0) x_0) rfl rfl (Nat.le_of_ble_eq_true rfl) ⟨rfl, rfl⟩ ⟨Nat.le_of_ble_eq_true rfl, Nat.le_of_ble_eq_true rfl⟩ dX7_about_5 (fun x12 v9 w10 p11 => ?_)
  rw [p11.1, p11.2.1]
  have b13 : Bd x12 0 1 := p11.2.2.1
  refine J_if_eq E 20 dX7_about_8 (by decide) (fun c14 => ?_) (fun c14 => ?_)
  · have b15 : Bd x12 0 0 := Bd.eq_l c14 b13 (Bd.lit 0 0 (by decide)) 0 0 (by decide)
    exact J.sub [0] rfl (J20)
  · have b16 : Bd x12 1 1 := (Bd.ne_lo c14 b13 (Bd.lit 0 0 (by decide))).w _ _ (by decide)
    have b17 : Bd x_0 0 6 := (p11.2.2.2.1).resolve_left c14
    refine J_iload_n E dX7_about_11 2 rfl ?_
    refine J_iconst E 0 dX7_about_12 (by decide) ?_
    refine J_iconst E 2 dX7_about_13 (by decide) ?_
    refine J_callSI E cal_X7_isWithin wd361 [.int x_1, .int 0, .int 2] [] (ct_X7_isWithin l D dA G v w (hOk) x_1 0 2) rfl rfl (Nat.le_of_ble_eq_true rfl) ⟨rfl, rfl⟩ ⟨Nat.le_of_ble_eq_true rfl, Nat.le_of_ble_eq_true rfl⟩ dX7_about_14 (fun x21 v18 w19 p20 => ?_)
    rw [p20.1, p20.2.1]
    have b22 : Bd x21 0 1 := p20.2.2.1
    refine J_if_ne E 25 dX7_about_17 (by decide) (fun c23 => ?_) (fun c23 => ?_)
    · have b24 : Bd x21 1 1 := (Bd.ne_lo c23 b22 (Bd.lit 0 0 (by decide))).w _ _ (by decide)
      have g25 := (p20.2.2.2.1).resolve_left c23
      have b26 : Bd x_1 0 I1 := Bd.le_r g25.1 (Bd.lit 0 0 (by decide)) (Bd.any x_1) 0 (by decide)
      have b27 : Bd x_1 0 2 := Bd.le_l g25.2 b26 (Bd.lit 2 2 (by decide)) 2 (by decide)
      refine J_iload_n E dX7_about_25 2 rfl ?_
      refine J_if_ne E 39 dX7_about_26 (by decide) (fun c28 => ?_) (fun c28 => ?_)
      · have b29 : Bd x_1 1 2 := (Bd.ne_lo c28 b27 (Bd.lit 0 0 (by decide))).w _ _ (by decide)
        refine J_iload_n E dX7_about_39 2 rfl ?_
        refine J_iconst E 1 dX7_about_40 (by decide) ?_
        refine J_icmp_ne E 56 dX7_about_41 (by decide) (fun c30 => ?_) (fun c30 => ?_)
        · have b31 : Bd x_1 2 2 := (Bd.ne_lo c30 b29 (Bd.lit 1 1 (by decide))).w _ _ (by decide)
          refine J_aload_n E dX7_about_56 0 rfl ?_
          refine J_getR E in_X7 rfl (S_X7.h S0) 0 (by decide) wd308 rfl dX7_about_57 ?_
          refine J_iload_n E dX7_about_60 1 rfl ?_
          refine J_callVNI E cal_X6_ownerOf wd590 rfl (S_X6.h (S_X7.f0 S0)) [.int x_0] [] (ct_X6_ownerOf l D dA G v w (hOk) (rf G h0 0) (S_X7.f0 S0) x_0 b17) rfl rfl (Nat.le_of_ble_eq_true rfl) ⟨rfl, rfl⟩ ⟨Nat.le_of_ble_eq_true rfl, Nat.le_of_ble_eq_true rfl⟩ dX7_about_61 (fun x35 v32 w33 p34 => ?_)
          rw [p34.1, p34.2.1]
          exact J_iret E hr dX7_about_64 ⟨hOk, Kp.rf, trivial, Fr.rf⟩
        · have b36 : Bd x_1 1 1 := Bd.eq_l c30 b29 (Bd.lit 1 1 (by decide)) 1 1 (by decide)
          refine J_aload_n E dX7_about_44 0 rfl ?_
          refine J_getR E in_X7 rfl (S_X7.h S0) 0 (by decide) wd308 rfl dX7_about_45 ?_
          refine J_getRN E in_X6 rfl (S_X6.h (S_X7.f0 S0)) 2 (by decide) wd198 rfl dX7_about_48 ?_
          refine J_iload_n E dX7_about_51 1 rfl ?_
          refine J_iald1 E (S_X6.f2 (S_X7.f0 S0)) (Bd.in b17 (by decide)) dX7_about_52 (fun x37 e38 => ?_)
          refine J_goto E 64 dX7_about_53 (by decide) ?_
          exact J_iret E hr dX7_about_64 ⟨hOk, Kp.rf, trivial, Fr.rf⟩
      · have b39 : Bd x_1 0 0 := Bd.eq_l c28 b27 (Bd.lit 0 0 (by decide)) 0 0 (by decide)
        refine J_aload_n E dX7_about_29 0 rfl ?_
        refine J_getR E in_X7 rfl (S_X7.h S0) 0 (by decide) wd308 rfl dX7_about_30 ?_
        refine J_getRN E in_X6 rfl (S_X6.h (S_X7.f0 S0)) 1 (by decide) wd196 rfl dX7_about_33 ?_
        refine J_iload_n E dX7_about_36 1 rfl ?_
        refine J_iald1 E (S_X6.f1 (S_X7.f0 S0)) (Bd.in b17 (by decide)) dX7_about_37 (fun x40 e41 => ?_)
        exact J_iret E hr dX7_about_38 ⟨hOk, Kp.rf, trivial, Fr.rf⟩
    · have b42 : Bd x21 0 0 := Bd.eq_l c23 b22 (Bd.lit 0 0 (by decide)) 0 0 (by decide)
      have g43 : ¬ (0 ≤ x_1 ∧ x_1 ≤ 2) := (p20.2.2.2.2.1).resolve_left (fun h9 => h9 c23)
      exact J.sub [0] rfl (J20)

abbrev rm_X7_lifts : Room := { frames := 3, cells := 0, slots := 0, locals := 67 }
set_option maxHeartbeats 4000000 in
set_option maxRecDepth 100000 in
theorem ct_X7_lifts (l : Launch) (D : va_G) (dA : Nat → ClassId) (G : Gm) (v : Mv) (w : Mw) (hOk : Ok G v w) (h0 : Nat) (S0 : S_X7 G h0) (x_0 : Int32) (x_1 : Int32) : CtI l yX7_lifts cX7_lifts 3 (some .int) rm_X7_lifts D dA G [.ref h0, .int x_0, .int x_1] v w (fun r v1 w1 => Ok G v1 w1 ∧ Kp G v v1 ∧ True ∧ Fr G [7] v v1) := by
  refine CtI.of RX7 [(0, .ref h0), (1, .int x_0), (2, .int x_1)] (Nat.le_of_ble_eq_true rfl) rfl (by decide) rfl ?_
  intro p e s m args below meth c E hr
  have J21 :  J p l e rm_X7_lifts s m args below meth c 0 0 (MQ below (QcI D dA G (fun r v1 w1 => Ok G v1 w1 ∧ Kp G v v1 ∧ True ∧ Fr G [7] v v1)) args s 0 0 (dm G)) D dA G (dm G) s.heap 3 v w [(0, .ref h0)] 21 [] := by
    refine J_aload_n E dX7_lifts_21 0 rfl ?_
    refine J_callVI E cal_X7_bad wd364 rfl (S_X7.h S0) [] [] (ct_X7_bad l D dA G v w (hOk) h0 S0) rfl rfl (Nat.le_of_ble_eq_true rfl) ⟨rfl, rfl⟩ ⟨Nat.le_of_ble_eq_true rfl, Nat.le_of_ble_eq_true rfl⟩ dX7_lifts_22 (fun x4 v1 w2 p3 => ?_)
    have ew9 : w = w2 := p3.2.2.2.1.1.symm
    subst ew9
    have o5 := p3.1
    have k6 : Kp G v v1 := (Kp.rf).tr p3.2.1
    have f7 : Fr G [7] v v1 := Fr.tr Fr.rf (p3.2.2.2.2) (by decide)
    have b8 : Bd x4 (-2) (-2) := p3.2.2.1
    exact J_iret E hr dX7_lifts_25 ⟨o5, k6, trivial, f7⟩
  refine J_aload_n E dX7_lifts_0 0 rfl ?_
  refine J_getR E in_X7 rfl (S_X7.h S0) 0 (by decide) wd308 rfl dX7_lifts_1 ?_
  refine J_iload_n E dX7_lifts_4 1 rfl ?_
  refine J_callVNI E cal_X6_hasOne wd584 rfl (S_X6.h (S_X7.f0 S0)) [.int x_0] [] (ct_X6_hasOne l D dA G v w (hOk) (rf G h0 0) (S_X7.f0 S0) x_0) rfl rfl (Nat.le_of_ble_eq_true rfl) ⟨rfl, rfl⟩ ⟨Nat.le_of_ble_eq_true rfl, Nat.le_of_ble_eq_true rfl⟩ dX7_lifts_5 (fun x12 v9 w10 p11 => ?_)
  rw [p11.1, p11.2.1]
  have b13 : Bd x12 0 1 := p11.2.2.1
  refine J_if_eq E 21 dX7_lifts_8 (by decide) (fun c14 => ?_) (fun c14 => ?_)
  · have b15 : Bd x12 0 0 := Bd.eq_l c14 b13 (Bd.lit 0 0 (by decide)) 0 0 (by decide)
    exact J.sub [0] rfl (J21)
  · have b16 : Bd x12 1 1 := (Bd.ne_lo c14 b13 (Bd.lit 0 0 (by decide))).w _ _ (by decide)
    have b17 : Bd x_0 0 6 := (p11.2.2.2.1).resolve_left c14
    refine J_iload_n E dX7_lifts_11 2 rfl ?_
    refine J_iconst E 0 dX7_lifts_12 (by decide) ?_
    refine J_bipush E 60 dX7_lifts_13 (by decide) ?_
    refine J_callSI E cal_X7_isWithin wd361 [.int x_1, .int 0, .int 60] [] (ct_X7_isWithin l D dA G v w (hOk) x_1 0 60) rfl rfl (Nat.le_of_ble_eq_true rfl) ⟨rfl, rfl⟩ ⟨Nat.le_of_ble_eq_true rfl, Nat.le_of_ble_eq_true rfl⟩ dX7_lifts_15 (fun x21 v18 w19 p20 => ?_)
    rw [p20.1, p20.2.1]
    have b22 : Bd x21 0 1 := p20.2.2.1
    refine J_if_ne E 26 dX7_lifts_18 (by decide) (fun c23 => ?_) (fun c23 => ?_)
    · have b24 : Bd x21 1 1 := (Bd.ne_lo c23 b22 (Bd.lit 0 0 (by decide))).w _ _ (by decide)
      have g25 := (p20.2.2.2.1).resolve_left c23
      have b26 : Bd x_1 0 I1 := Bd.le_r g25.1 (Bd.lit 0 0 (by decide)) (Bd.any x_1) 0 (by decide)
      have b27 : Bd x_1 0 60 := Bd.le_l g25.2 b26 (Bd.lit 60 60 (by decide)) 60 (by decide)
      refine J_aload_n E dX7_lifts_26 0 rfl ?_
      refine J_getR E in_X7 rfl (S_X7.h S0) 0 (by decide) wd308 rfl dX7_lifts_27 ?_
      refine J_iload_n E dX7_lifts_30 1 rfl ?_
      refine J_iload_n E dX7_lifts_31 2 rfl ?_
      refine J_callVNI E cal_X6_liftOf wd655 rfl (S_X6.h (S_X7.f0 S0)) [.int x_0, .int x_1] [] (ct_X6_liftOf l D dA G v w (hOk) (rf G h0 0) (S_X7.f0 S0) x_0 b17 x_1 b27) rfl rfl (Nat.le_of_ble_eq_true rfl) ⟨rfl, rfl⟩ ⟨Nat.le_of_ble_eq_true rfl, Nat.le_of_ble_eq_true rfl⟩ dX7_lifts_32 (fun x31 v28 w29 p30 => ?_)
      rw [p30.1, p30.2.1]
      exact J_iret E hr dX7_lifts_35 ⟨hOk, Kp.rf, trivial, Fr.rf⟩
    · have b32 : Bd x21 0 0 := Bd.eq_l c23 b22 (Bd.lit 0 0 (by decide)) 0 0 (by decide)
      have g33 : ¬ (0 ≤ x_1 ∧ x_1 ≤ 60) := (p20.2.2.2.2.1).resolve_left (fun h9 => h9 c23)
      exact J.sub [0] rfl (J21)

abbrev rm_X7_weighs : Room := { frames := 3, cells := 0, slots := 0, locals := 65 }
set_option maxHeartbeats 4000000 in
set_option maxRecDepth 100000 in
theorem ct_X7_weighs (l : Launch) (D : va_G) (dA : Nat → ClassId) (G : Gm) (v : Mv) (w : Mw) (hOk : Ok G v w) (h0 : Nat) (S0 : S_X7 G h0) (x_0 : Int32) (x_1 : Int32) : CtI l yX7_weighs cX7_weighs 3 (some .int) rm_X7_weighs D dA G [.ref h0, .int x_0, .int x_1] v w (fun r v1 w1 => Ok G v1 w1 ∧ Kp G v v1 ∧ True ∧ Fr G [7] v v1) := by
  refine CtI.of RX7 [(0, .ref h0), (1, .int x_0), (2, .int x_1)] (Nat.le_of_ble_eq_true rfl) rfl (by decide) rfl ?_
  intro p e s m args below meth c E hr
  have J21 :  J p l e rm_X7_weighs s m args below meth c 0 0 (MQ below (QcI D dA G (fun r v1 w1 => Ok G v1 w1 ∧ Kp G v v1 ∧ True ∧ Fr G [7] v v1)) args s 0 0 (dm G)) D dA G (dm G) s.heap 3 v w [(0, .ref h0)] 21 [] := by
    refine J_aload_n E dX7_weighs_21 0 rfl ?_
    refine J_callVI E cal_X7_bad wd364 rfl (S_X7.h S0) [] [] (ct_X7_bad l D dA G v w (hOk) h0 S0) rfl rfl (Nat.le_of_ble_eq_true rfl) ⟨rfl, rfl⟩ ⟨Nat.le_of_ble_eq_true rfl, Nat.le_of_ble_eq_true rfl⟩ dX7_weighs_22 (fun x4 v1 w2 p3 => ?_)
    have ew9 : w = w2 := p3.2.2.2.1.1.symm
    subst ew9
    have o5 := p3.1
    have k6 : Kp G v v1 := (Kp.rf).tr p3.2.1
    have f7 : Fr G [7] v v1 := Fr.tr Fr.rf (p3.2.2.2.2) (by decide)
    have b8 : Bd x4 (-2) (-2) := p3.2.2.1
    exact J_iret E hr dX7_weighs_25 ⟨o5, k6, trivial, f7⟩
  refine J_aload_n E dX7_weighs_0 0 rfl ?_
  refine J_getR E in_X7 rfl (S_X7.h S0) 0 (by decide) wd308 rfl dX7_weighs_1 ?_
  refine J_iload_n E dX7_weighs_4 1 rfl ?_
  refine J_callVNI E cal_X6_hasThing wd588 rfl (S_X6.h (S_X7.f0 S0)) [.int x_0] [] (ct_X6_hasThing l D dA G v w (hOk) (rf G h0 0) (S_X7.f0 S0) x_0) rfl rfl (Nat.le_of_ble_eq_true rfl) ⟨rfl, rfl⟩ ⟨Nat.le_of_ble_eq_true rfl, Nat.le_of_ble_eq_true rfl⟩ dX7_weighs_5 (fun x12 v9 w10 p11 => ?_)
  rw [p11.1, p11.2.1]
  have b13 : Bd x12 0 1 := p11.2.2.1
  refine J_if_eq E 21 dX7_weighs_8 (by decide) (fun c14 => ?_) (fun c14 => ?_)
  · have b15 : Bd x12 0 0 := Bd.eq_l c14 b13 (Bd.lit 0 0 (by decide)) 0 0 (by decide)
    exact J.sub [0] rfl (J21)
  · have b16 : Bd x12 1 1 := (Bd.ne_lo c14 b13 (Bd.lit 0 0 (by decide))).w _ _ (by decide)
    have b17 : Bd x_0 0 6 := (p11.2.2.2.1).resolve_left c14
    refine J_iload_n E dX7_weighs_11 2 rfl ?_
    refine J_iconst E 0 dX7_weighs_12 (by decide) ?_
    refine J_bipush E 60 dX7_weighs_13 (by decide) ?_
    refine J_callSI E cal_X7_isWithin wd361 [.int x_1, .int 0, .int 60] [] (ct_X7_isWithin l D dA G v w (hOk) x_1 0 60) rfl rfl (Nat.le_of_ble_eq_true rfl) ⟨rfl, rfl⟩ ⟨Nat.le_of_ble_eq_true rfl, Nat.le_of_ble_eq_true rfl⟩ dX7_weighs_15 (fun x21 v18 w19 p20 => ?_)
    rw [p20.1, p20.2.1]
    have b22 : Bd x21 0 1 := p20.2.2.1
    refine J_if_ne E 26 dX7_weighs_18 (by decide) (fun c23 => ?_) (fun c23 => ?_)
    · have b24 : Bd x21 1 1 := (Bd.ne_lo c23 b22 (Bd.lit 0 0 (by decide))).w _ _ (by decide)
      have g25 := (p20.2.2.2.1).resolve_left c23
      have b26 : Bd x_1 0 I1 := Bd.le_r g25.1 (Bd.lit 0 0 (by decide)) (Bd.any x_1) 0 (by decide)
      have b27 : Bd x_1 0 60 := Bd.le_l g25.2 b26 (Bd.lit 60 60 (by decide)) 60 (by decide)
      refine J_aload_n E dX7_weighs_26 0 rfl ?_
      refine J_getR E in_X7 rfl (S_X7.h S0) 0 (by decide) wd308 rfl dX7_weighs_27 ?_
      refine J_iload_n E dX7_weighs_30 1 rfl ?_
      refine J_iload_n E dX7_weighs_31 2 rfl ?_
      refine J_callVNI E cal_X6_weightOf wd660 rfl (S_X6.h (S_X7.f0 S0)) [.int x_0, .int x_1] [] (ct_X6_weightOf l D dA G v w (hOk) (rf G h0 0) (S_X7.f0 S0) x_0 b17 x_1 b27) rfl rfl (Nat.le_of_ble_eq_true rfl) ⟨rfl, rfl⟩ ⟨Nat.le_of_ble_eq_true rfl, Nat.le_of_ble_eq_true rfl⟩ dX7_weighs_32 (fun x31 v28 w29 p30 => ?_)
      rw [p30.1, p30.2.1]
      exact J_iret E hr dX7_weighs_35 ⟨hOk, Kp.rf, trivial, Fr.rf⟩
    · have b32 : Bd x21 0 0 := Bd.eq_l c23 b22 (Bd.lit 0 0 (by decide)) 0 0 (by decide)
      have g33 : ¬ (0 ≤ x_1 ∧ x_1 ≤ 60) := (p20.2.2.2.2.1).resolve_left (fun h9 => h9 c23)
      exact J.sub [0] rfl (J21)

abbrev rm_X7_held : Room := { frames := 3, cells := 0, slots := 0, locals := 67 }
set_option maxHeartbeats 4000000 in
set_option maxRecDepth 100000 in
theorem ct_X7_held (l : Launch) (D : va_G) (dA : Nat → ClassId) (G : Gm) (v : Mv) (w : Mw) (hOk : Ok G v w) (h0 : Nat) (S0 : S_X7 G h0) : CtI l yX7_held cX7_held 3 (some .int) rm_X7_held D dA G [.ref h0] v w (fun r v1 w1 => v1 = v ∧ w1 = w ∧ Bd r 0 127 ∧ True) := by
  refine CtI.of RX7 [(0, .ref h0)] (Nat.le_of_ble_eq_true rfl) rfl (by decide) rfl ?_
  intro p e s m args below meth c E hr
  have J4 : ∀ n4 : Nat, ∀ x1 : Int32, Bd x1 0 127 → ∀ x3 : Int32, Bd x3 0 7 → Mu x3 7 n4 → J p l e rm_X7_held s m args below meth c 0 0 (MQ below (QcI D dA G (fun r v1 w1 => v1 = v ∧ w1 = w ∧ Bd r 0 127 ∧ True)) args s 0 0 (dm G)) D dA G (dm G) s.heap 3 v w [(0, .ref h0), (1, .int x1), (2, .int x3)] 4 [] := by
    intro n4
    induction n4 with
    | zero => intro x1 b2 x3 b4 hm; exact hm.zero b4 (by decide)
    | succ n4 ih4 =>
      intro x1 b2 x3 b4 hmu4
      have J53 : ∀ x5 : Int32, Bd x5 0 127 → Bd x3 0 6 → J p l e rm_X7_held s m args below meth c 0 0 (MQ below (QcI D dA G (fun r v1 w1 => v1 = v ∧ w1 = w ∧ Bd r 0 127 ∧ True)) args s 0 0 (dm G)) D dA G (dm G) s.heap 3 v w [(0, .ref h0), (1, .int x5), (2, .int x3)] 53 [] := by
        intro x5 b6 b7
        refine J_iinc E 2 1 (fun z => [(2, .int z), (0, .ref h0), (1, .int x5)]) dX7_held_53 rfl (by decide) (by decide) (fun _ => rfl) (fun x8 e9 => ?_)
        have b10 : Bd x8 1 7 := (Bd.add e9 b7 (Bd.lit 1 1 (by decide)) (by decide)).w _ _ (by decide)
        refine J_goto E 4 dX7_held_56 (by decide) ?_
        exact J.sub [1, 2, 0] rfl (ih4 x5 b6 x8 (b10.w 0 7 (by decide)) (Mu.step hmu4 e9 b7 (Bd.lit 1 1 (by decide)) (by decide)))
      refine J_iload_n E dX7_held_4 2 rfl ?_
      refine J_aload_n E dX7_held_5 0 rfl ?_
      refine J_getR E in_X7 rfl (S_X7.h S0) 0 (by decide) wd308 rfl dX7_held_6 ?_
      refine J_getIN E in_X6 rfl (S_X6.h (S_X7.f0 S0)) 3 (by decide) wd200 rfl dX7_held_9 (fun x11 e12 => ?_)
      have b13 : Bd x11 0 7 := Ok.fd hOk e12 (S_X6.h (S_X7.f0 S0)) rfl
      refine J_icmp_ge E 59 dX7_held_12 (by decide) (fun c14 => ?_) (fun c14 => ?_)
      · refine J_iload_n E dX7_held_59 1 rfl ?_
        exact J_iret E hr dX7_held_60 ⟨rfl, rfl, b2, trivial⟩
      · have b15 : Bd x3 0 6 := Bd.lt_l (nle c14) b4 b13 6 (by decide)
        have b16 : Bd x11 1 7 := Bd.lt_r (nle c14) b4 b13 1 (by decide)
        refine J_aload_n E dX7_held_15 0 rfl ?_
        refine J_getR E in_X7 rfl (S_X7.h S0) 0 (by decide) wd308 rfl dX7_held_16 ?_
        refine J_getRN E in_X6 rfl (S_X6.h (S_X7.f0 S0)) 6 (by decide) wd209 rfl dX7_held_19 ?_
        refine J_iload_n E dX7_held_22 2 rfl ?_
        refine J_callVNI E cal_X2_isHere wd665 rfl (S_X2.h (S_X6.f6 (S_X7.f0 S0))) [.int x3] [] (ct_X2_isHere l D dA G v w (hOk) (rf G (rf G h0 0) 6) (S_X6.f6 (S_X7.f0 S0)) x3 b15) rfl rfl (Nat.le_of_ble_eq_true rfl) ⟨rfl, rfl⟩ ⟨Nat.le_of_ble_eq_true rfl, Nat.le_of_ble_eq_true rfl⟩ dX7_held_23 (fun x20 v17 w18 p19 => ?_)
        rw [p19.1, p19.2.1]
        have b21 : Bd x20 0 1 := p19.2.2.1
        refine J_if_eq E 53 dX7_held_26 (by decide) (fun c22 => ?_) (fun c22 => ?_)
        · have b23 : Bd x20 0 0 := Bd.eq_l c22 b21 (Bd.lit 0 0 (by decide)) 0 0 (by decide)
          exact J.sub [0, 1, 2] rfl (J53 x1 b2 b15)
        · have b24 : Bd x20 1 1 := (Bd.ne_lo c22 b21 (Bd.lit 0 0 (by decide))).w _ _ (by decide)
          refine J_aload_n E dX7_held_29 0 rfl ?_
          refine J_getR E in_X7 rfl (S_X7.h S0) 0 (by decide) wd308 rfl dX7_held_30 ?_
          refine J_aload_n E dX7_held_33 0 rfl ?_
          refine J_getR E in_X7 rfl (S_X7.h S0) 0 (by decide) wd308 rfl dX7_held_34 ?_
          refine J_getRN E in_X6 rfl (S_X6.h (S_X7.f0 S0)) 6 (by decide) wd209 rfl dX7_held_37 ?_
          refine J_iload_n E dX7_held_40 2 rfl ?_
          refine J_callVNI E cal_X6_isHeldIn wd666 rfl (S_X6.h (S_X7.f0 S0)) [.ref (rf G (rf G h0 0) 6), .int x3] [] (ct_X6_isHeldIn l D dA G v w (hOk) (rf G h0 0) (S_X7.f0 S0) (rf G (rf G h0 0) 6) (S_X6.f6 (S_X7.f0 S0)) x3 b15) rfl rfl (Nat.le_of_ble_eq_true rfl) ⟨rfl, rfl⟩ ⟨Nat.le_of_ble_eq_true rfl, Nat.le_of_ble_eq_true rfl⟩ dX7_held_41 (fun x28 v25 w26 p27 => ?_)
          rw [p27.1, p27.2.1]
          have b29 : Bd x28 0 1 := p27.2.2.1
          refine J_if_eq E 53 dX7_held_44 (by decide) (fun c30 => ?_) (fun c30 => ?_)
          · have b31 : Bd x28 0 0 := Bd.eq_l c30 b29 (Bd.lit 0 0 (by decide)) 0 0 (by decide)
            exact J.sub [0, 1, 2] rfl (J53 x1 b2 b15)
          · have b32 : Bd x28 1 1 := (Bd.ne_lo c30 b29 (Bd.lit 0 0 (by decide))).w _ _ (by decide)
            refine J_iload_n E dX7_held_47 1 rfl ?_
            refine J_iconst E 1 dX7_held_48 (by decide) ?_
            refine J_iload_n E dX7_held_49 2 rfl ?_
            refine J_ishl E dX7_held_50 (fun x33 e34 => ?_)
            have b35 : Bd x33 1 64 := Bd.shl1 e34 b15 6 (by decide)
            refine J_ior E dX7_held_51 (fun x36 e37 => ?_)
            have b38 : Bd x36 0 127 := Bd.or e37 b2 b35 7 (by decide)
            refine J_istore_n E [(1, .int x36), (0, .ref h0), (2, .int x3)] dX7_held_52 rfl (by decide) rfl ?_
            exact J.sub [1, 0, 2] rfl (J53 x36 b38 b15)
  refine J_iconst E 0 dX7_held_0 (by decide) ?_
  refine J_istore_n E [(1, .int 0), (0, .ref h0)] dX7_held_1 rfl (by decide) rfl ?_
  refine J_iconst E 0 dX7_held_2 (by decide) ?_
  refine J_istore_n E [(2, .int 0), (1, .int 0), (0, .ref h0)] dX7_held_3 rfl (by decide) rfl ?_
  exact J.sub [2, 1, 0] rfl (J4 8 0 ((Bd.lit 0 0 (by decide)).w 0 127 (by decide)) 0 ((Bd.lit 0 0 (by decide)).w 0 7 (by decide)) (Mu.start _ (Bd.lit 0 0 (by decide)) (by decide)))

abbrev rm_X7_left : Room := { frames := 4, cells := 0, slots := 0, locals := 92 }
set_option maxHeartbeats 4000000 in
set_option maxRecDepth 100000 in
theorem ct_X7_left (l : Launch) (D : va_G) (dA : Nat → ClassId) (G : Gm) (v : Mv) (w : Mw) (hOk : Ok G v w) (h0 : Nat) (S0 : S_X7 G h0) (x_0 : Int32) : CtI l yX7_left cX7_left 2 (some .int) rm_X7_left D dA G [.ref h0, .int x_0] v w (fun r v1 w1 => Ok G v1 w1 ∧ Kp G v v1 ∧ True ∧ Fr G [2, 7, 107] v v1) := by
  refine CtI.of RX7 [(0, .ref h0), (1, .int x_0)] (Nat.le_of_ble_eq_true rfl) rfl (by decide) rfl ?_
  intro p e s m args below meth c E hr
  refine J_iload_n E dX7_left_0 1 rfl ?_
  refine J_iconst E 0 dX7_left_1 (by decide) ?_
  refine J_bipush E 60 dX7_left_2 (by decide) ?_
  refine J_callSI E cal_X7_isWithin wd361 [.int x_0, .int 0, .int 60] [] (ct_X7_isWithin l D dA G v w (hOk) x_0 0 60) rfl rfl (Nat.le_of_ble_eq_true rfl) ⟨rfl, rfl⟩ ⟨Nat.le_of_ble_eq_true rfl, Nat.le_of_ble_eq_true rfl⟩ dX7_left_4 (fun x4 v1 w2 p3 => ?_)
  rw [p3.1, p3.2.1]
  have b5 : Bd x4 0 1 := p3.2.2.1
  refine J_if_ne E 15 dX7_left_7 (by decide) (fun c6 => ?_) (fun c6 => ?_)
  · have b7 : Bd x4 1 1 := (Bd.ne_lo c6 b5 (Bd.lit 0 0 (by decide))).w _ _ (by decide)
    have g8 := (p3.2.2.2.1).resolve_left c6
    have b9 : Bd x_0 0 I1 := Bd.le_r g8.1 (Bd.lit 0 0 (by decide)) (Bd.any x_0) 0 (by decide)
    have b10 : Bd x_0 0 60 := Bd.le_l g8.2 b9 (Bd.lit 60 60 (by decide)) 60 (by decide)
    refine J_aload_n E dX7_left_15 0 rfl ?_
    refine J_getR E in_X7 rfl (S_X7.h S0) 6 (by decide) wd314 rfl dX7_left_16 ?_
    refine J_aload_n E dX7_left_19 0 rfl ?_
    refine J_getR E in_X7 rfl (S_X7.h S0) 0 (by decide) wd308 rfl dX7_left_20 ?_
    refine J_getRN E in_X6 rfl (S_X6.h (S_X7.f0 S0)) 6 (by decide) wd209 rfl dX7_left_23 ?_
    refine J_callVNV E cal_X2_copyFrom wd671 rfl (S_X2.h (S_X7.f6 S0)) [.ref (rf G (rf G h0 0) 6)] [] (ct_X2_copyFrom l D dA G v w (hOk) (rf G h0 6) (S_X7.f6 S0) (rf G (rf G h0 0) 6) (S_X6.f6 (S_X7.f0 S0))) rfl rfl (Nat.le_of_ble_eq_true rfl) ⟨rfl, rfl⟩ ⟨Nat.le_of_ble_eq_true rfl, Nat.le_of_ble_eq_true rfl⟩ dX7_left_26 (fun v11 w12 p13 => ?_)
    have ew9 : w = w12 := p13.2.2.1.1.symm
    subst ew9
    have o15 := p13.1
    have k16 : Kp G v v11 := (Kp.rf).tr p13.2.1
    have f17 : Fr G [2, 7, 107] v v11 := Fr.tr Fr.rf (p13.2.2.2) (by decide)
    refine J_aload_n E dX7_left_29 0 rfl ?_
    refine J_getR E in_X7 rfl (S_X7.h S0) 0 (by decide) wd308 rfl dX7_left_30 ?_
    refine J_aload_n E dX7_left_33 0 rfl ?_
    refine J_getR E in_X7 rfl (S_X7.h S0) 6 (by decide) wd314 rfl dX7_left_34 ?_
    refine J_iload_n E dX7_left_37 1 rfl ?_
    refine J_sipush E 1059 dX7_left_38 (by decide) ?_
    refine J_callVNV E cal_X6_passYears wd620 rfl (S_X6.h (S_X7.f0 S0)) [.ref (rf G h0 6), .int x_0, .int 1059] [] (ct_X6_passYears l D dA G v11 w (o15) (rf G h0 0) (S_X7.f0 S0) (rf G h0 6) (S_X7.f6 S0) x_0 (b10.w 0 99 (by decide)) 1059 ((Bd.lit 1059 1059 (by decide)).w 999 1059 (by decide))) rfl rfl (Nat.le_of_ble_eq_true rfl) ⟨rfl, rfl⟩ ⟨Nat.le_of_ble_eq_true rfl, Nat.le_of_ble_eq_true rfl⟩ dX7_left_41 (fun v18 w19 p20 => ?_)
    have ew9 : w = w19 := p20.2.2.1.1.symm
    subst ew9
    have o22 := p20.1
    have k23 : Kp G v v18 := (k16).tr p20.2.1
    have f24 : Fr G [2, 7, 107] v v18 := Fr.tr f17 (p20.2.2.2) (by decide)
    refine J_aload_n E dX7_left_44 0 rfl ?_
    refine J_getR E in_X7 rfl (S_X7.h S0) 6 (by decide) wd314 rfl dX7_left_45 ?_
    refine J_getIN E in_X2 rfl (S_X2.h (S_X7.f6 S0)) 2 (by decide) wd158 rfl dX7_left_48 (fun x25 e26 => ?_)
    exact J_iret E hr dX7_left_51 ⟨o22, k23, trivial, f24⟩
  · have b27 : Bd x4 0 0 := Bd.eq_l c6 b5 (Bd.lit 0 0 (by decide)) 0 0 (by decide)
    have g28 : ¬ (0 ≤ x_0 ∧ x_0 ≤ 60) := (p3.2.2.2.2.1).resolve_left (fun h9 => h9 c6)
    refine J_aload_n E dX7_left_10 0 rfl ?_
    refine J_callVI E cal_X7_bad wd364 rfl (S_X7.h S0) [] [] (ct_X7_bad l D dA G v w (hOk) h0 S0) rfl rfl (Nat.le_of_ble_eq_true rfl) ⟨rfl, rfl⟩ ⟨Nat.le_of_ble_eq_true rfl, Nat.le_of_ble_eq_true rfl⟩ dX7_left_11 (fun x32 v29 w30 p31 => ?_)
    have ew9 : w = w30 := p31.2.2.2.1.1.symm
    subst ew9
    have o33 := p31.1
    have k34 : Kp G v v29 := (Kp.rf).tr p31.2.1
    have f35 : Fr G [2, 7, 107] v v29 := Fr.tr Fr.rf (p31.2.2.2.2) (by decide)
    have b36 : Bd x32 (-2) (-2) := p31.2.2.1
    exact J_iret E hr dX7_left_14 ⟨o33, k34, trivial, f35⟩

abbrev rm_X7_when : Room := { frames := 4, cells := 0, slots := 0, locals := 91 }
set_option maxHeartbeats 4000000 in
set_option maxRecDepth 100000 in
theorem ct_X7_when (l : Launch) (D : va_G) (dA : Nat → ClassId) (G : Gm) (v : Mv) (w : Mw) (hOk : Ok G v w) (h0 : Nat) (S0 : S_X7 G h0) (x_0 : Int32) : CtI l yX7_when cX7_when 4 (some .int) rm_X7_when D dA G [.ref h0, .int x_0] v w (fun r v1 w1 => Ok G v1 w1 ∧ Kp G v v1 ∧ True ∧ Fr G [7] v v1) := by
  refine CtI.of RX7 [(0, .ref h0), (1, .int x_0)] (Nat.le_of_ble_eq_true rfl) rfl (by decide) rfl ?_
  intro p e s m args below meth c E hr
  have J71 : ∀ x1 : Int32, Bd x1 0 60 → J p l e rm_X7_when s m args below meth c 0 0 (MQ below (QcI D dA G (fun r v1 w1 => Ok G v1 w1 ∧ Kp G v v1 ∧ True ∧ Fr G [7] v v1)) args s 0 0 (dm G)) D dA G (dm G) s.heap 4 v w [] 71 [.int x1] := by
    intro x1 b2
    refine J_istore_n E [(3, .int x1)] dX7_when_71 rfl (by decide) rfl ?_
    refine J_iload_n E dX7_when_72 0 rfl ?_
    refine J_bipush E 60 dX7_when_73 (by decide) ?_
    refine J_icmp_ge E 84 dX7_when_75 (by decide) (fun c3 => ?_) (fun c3 => ?_)
    · have b4 : Bd x1 60 60 := Bd.le_r c3 (Bd.lit 60 60 (by decide)) b2 60 (by decide)
      refine J_iconst E (-1) dX7_when_84 (by decide) ?_
      exact J_iret E hr dX7_when_85 ⟨hOk, Kp.rf, trivial, Fr.rf⟩
    · have b5 : Bd x1 0 59 := Bd.lt_l (nle c3) b2 (Bd.lit 60 60 (by decide)) 59 (by decide)
      refine J_iload_n E dX7_when_78 0 rfl ?_
      refine J_iconst E 1 dX7_when_79 (by decide) ?_
      refine J_iadd E dX7_when_80 (fun x6 e7 => ?_)
      have b8 : Bd x6 1 60 := (Bd.add e7 b5 (Bd.lit 1 1 (by decide)) (by decide)).w _ _ (by decide)
      refine J_goto E 85 dX7_when_81 (by decide) ?_
      exact J_iret E hr dX7_when_85 ⟨hOk, Kp.rf, trivial, Fr.rf⟩
  refine J_aload_n E dX7_when_0 0 rfl ?_
  refine J_getR E in_X7 rfl (S_X7.h S0) 0 (by decide) wd308 rfl dX7_when_1 ?_
  refine J_iload_n E dX7_when_4 1 rfl ?_
  refine J_callVNI E cal_X6_hasOne wd584 rfl (S_X6.h (S_X7.f0 S0)) [.int x_0] [] (ct_X6_hasOne l D dA G v w (hOk) (rf G h0 0) (S_X7.f0 S0) x_0) rfl rfl (Nat.le_of_ble_eq_true rfl) ⟨rfl, rfl⟩ ⟨Nat.le_of_ble_eq_true rfl, Nat.le_of_ble_eq_true rfl⟩ dX7_when_5 (fun x12 v9 w10 p11 => ?_)
  rw [p11.1, p11.2.1]
  have b13 : Bd x12 0 1 := p11.2.2.1
  refine J_if_ne E 16 dX7_when_8 (by decide) (fun c14 => ?_) (fun c14 => ?_)
  · have b15 : Bd x12 1 1 := (Bd.ne_lo c14 b13 (Bd.lit 0 0 (by decide))).w _ _ (by decide)
    have b16 : Bd x_0 0 6 := (p11.2.2.2.1).resolve_left c14
    refine J_aload_n E dX7_when_16 0 rfl ?_
    refine J_getR E in_X7 rfl (S_X7.h S0) 0 (by decide) wd308 rfl dX7_when_17 ?_
    refine J_getRN E in_X6 rfl (S_X6.h (S_X7.f0 S0)) 6 (by decide) wd209 rfl dX7_when_20 ?_
    refine J_iload_n E dX7_when_23 1 rfl ?_
    refine J_callVNI E cal_X2_isHere wd665 rfl (S_X2.h (S_X6.f6 (S_X7.f0 S0))) [.int x_0] [] (ct_X2_isHere l D dA G v w (hOk) (rf G (rf G h0 0) 6) (S_X6.f6 (S_X7.f0 S0)) x_0 b16) rfl rfl (Nat.le_of_ble_eq_true rfl) ⟨rfl, rfl⟩ ⟨Nat.le_of_ble_eq_true rfl, Nat.le_of_ble_eq_true rfl⟩ dX7_when_24 (fun x20 v17 w18 p19 => ?_)
    rw [p19.1, p19.2.1]
    have b21 : Bd x20 0 1 := p19.2.2.1
    refine J_if_ne E 32 dX7_when_27 (by decide) (fun c22 => ?_) (fun c22 => ?_)
    · have b23 : Bd x20 1 1 := (Bd.ne_lo c22 b21 (Bd.lit 0 0 (by decide))).w _ _ (by decide)
      refine J_aload_n E dX7_when_32 0 rfl ?_
      refine J_getR E in_X7 rfl (S_X7.h S0) 0 (by decide) wd308 rfl dX7_when_33 ?_
      refine J_getRN E in_X6 rfl (S_X6.h (S_X7.f0 S0)) 6 (by decide) wd209 rfl dX7_when_36 ?_
      refine J_getRN E in_X2 rfl (S_X2.h (S_X6.f6 (S_X7.f0 S0))) 1 (by decide) wd155 rfl dX7_when_39 ?_
      refine J_iload_n E dX7_when_42 1 rfl ?_
      refine J_iald1 E (S_X2.f1 (S_X6.f6 (S_X7.f0 S0))) (Bd.in b16 (by decide)) dX7_when_43 (fun x24 e25 => ?_)
      refine J_istore_n E [(2, .int x24), (0, .ref h0), (1, .int x_0)] dX7_when_44 rfl (by decide) rfl ?_
      refine J_aload_n E dX7_when_45 1 rfl ?_
      refine J_getR E in_X7 rfl (S_X7.h S0) 0 (by decide) wd308 rfl dX7_when_46 ?_
      refine J_iload_n E dX7_when_49 0 rfl ?_
      refine J_callVNI E cal_X6_hasThing wd588 rfl (S_X6.h (S_X7.f0 S0)) [.int x24] [] (ct_X6_hasThing l D dA G v w (hOk) (rf G h0 0) (S_X7.f0 S0) x24) rfl rfl (Nat.le_of_ble_eq_true rfl) ⟨rfl, rfl⟩ ⟨Nat.le_of_ble_eq_true rfl, Nat.le_of_ble_eq_true rfl⟩ dX7_when_50 (fun x29 v26 w27 p28 => ?_)
      rw [p28.1, p28.2.1]
      have b30 : Bd x29 0 1 := p28.2.2.1
      refine J_if_eq E 70 dX7_when_53 (by decide) (fun c31 => ?_) (fun c31 => ?_)
      · have b32 : Bd x29 0 0 := Bd.eq_l c31 b30 (Bd.lit 0 0 (by decide)) 0 0 (by decide)
        refine J_iconst E 0 dX7_when_70 (by decide) ?_
        exact J.sub [] rfl (J71 0 ((Bd.lit 0 0 (by decide)).w 0 60 (by decide)))
      · have b33 : Bd x29 1 1 := (Bd.ne_lo c31 b30 (Bd.lit 0 0 (by decide))).w _ _ (by decide)
        have b34 : Bd x24 0 6 := (p28.2.2.2.1).resolve_left c31
        refine J_aload_n E dX7_when_56 1 rfl ?_
        refine J_getR E in_X7 rfl (S_X7.h S0) 0 (by decide) wd308 rfl dX7_when_57 ?_
        refine J_iload_n E dX7_when_60 0 rfl ?_
        refine J_iload_n E dX7_when_61 2 rfl ?_
        refine J_bipush E 60 dX7_when_62 (by decide) ?_
        refine J_callVNI E cal_X6_holdsFor wd599 rfl (S_X6.h (S_X7.f0 S0)) [.int x24, .int x_0, .int 60] [] (ct_X6_holdsFor l D dA G v w (hOk) (rf G h0 0) (S_X7.f0 S0) x24 b34 x_0 b16 60 ((Bd.lit 60 60 (by decide)).w 1 60 (by decide))) rfl rfl (Nat.le_of_ble_eq_true rfl) ⟨rfl, rfl⟩ ⟨Nat.le_of_ble_eq_true rfl, Nat.le_of_ble_eq_true rfl⟩ dX7_when_64 (fun x38 v35 w36 p37 => ?_)
        rw [p37.1, p37.2.1]
        have b39 : Bd x38 0 60 := p37.2.2.1
        refine J_goto E 71 dX7_when_67 (by decide) ?_
        exact J.sub [] rfl (J71 x38 b39)
    · have b40 : Bd x20 0 0 := Bd.eq_l c22 b21 (Bd.lit 0 0 (by decide)) 0 0 (by decide)
      refine J_iconst E (-1) dX7_when_30 (by decide) ?_
      exact J_iret E hr dX7_when_31 ⟨hOk, Kp.rf, trivial, Fr.rf⟩
  · have b41 : Bd x12 0 0 := Bd.eq_l c14 b13 (Bd.lit 0 0 (by decide)) 0 0 (by decide)
    refine J_aload_n E dX7_when_11 0 rfl ?_
    refine J_callVI E cal_X7_bad wd364 rfl (S_X7.h S0) [] [] (ct_X7_bad l D dA G v w (hOk) h0 S0) rfl rfl (Nat.le_of_ble_eq_true rfl) ⟨rfl, rfl⟩ ⟨Nat.le_of_ble_eq_true rfl, Nat.le_of_ble_eq_true rfl⟩ dX7_when_12 (fun x45 v42 w43 p44 => ?_)
    have ew9 : w = w43 := p44.2.2.2.1.1.symm
    subst ew9
    have o46 := p44.1
    have k47 : Kp G v v42 := (Kp.rf).tr p44.2.1
    have f48 : Fr G [7] v v42 := Fr.tr Fr.rf (p44.2.2.2.2) (by decide)
    have b49 : Bd x45 (-2) (-2) := p44.2.2.1
    exact J_iret E hr dX7_when_15 ⟨o46, k47, trivial, f48⟩

abbrev rm_X7_lasts : Room := { frames := 4, cells := 0, slots := 0, locals := 91 }
set_option maxHeartbeats 4000000 in
set_option maxRecDepth 100000 in
theorem ct_X7_lasts (l : Launch) (D : va_G) (dA : Nat → ClassId) (G : Gm) (v : Mv) (w : Mw) (hOk : Ok G v w) (h0 : Nat) (S0 : S_X7 G h0) (x_0 : Int32) (x_1 : Int32) : CtI l yX7_lasts cX7_lasts 3 (some .int) rm_X7_lasts D dA G [.ref h0, .int x_0, .int x_1] v w (fun r v1 w1 => Ok G v1 w1 ∧ Kp G v v1 ∧ True ∧ Fr G [7] v v1) := by
  refine CtI.of RX7 [(0, .ref h0), (1, .int x_0), (2, .int x_1)] (Nat.le_of_ble_eq_true rfl) rfl (by decide) rfl ?_
  intro p e s m args below meth c E hr
  have J22 :  J p l e rm_X7_lasts s m args below meth c 0 0 (MQ below (QcI D dA G (fun r v1 w1 => Ok G v1 w1 ∧ Kp G v v1 ∧ True ∧ Fr G [7] v v1)) args s 0 0 (dm G)) D dA G (dm G) s.heap 3 v w [(0, .ref h0)] 22 [] := by
    refine J_aload_n E dX7_lasts_22 0 rfl ?_
    refine J_callVI E cal_X7_bad wd364 rfl (S_X7.h S0) [] [] (ct_X7_bad l D dA G v w (hOk) h0 S0) rfl rfl (Nat.le_of_ble_eq_true rfl) ⟨rfl, rfl⟩ ⟨Nat.le_of_ble_eq_true rfl, Nat.le_of_ble_eq_true rfl⟩ dX7_lasts_23 (fun x4 v1 w2 p3 => ?_)
    have ew9 : w = w2 := p3.2.2.2.1.1.symm
    subst ew9
    have o5 := p3.1
    have k6 : Kp G v v1 := (Kp.rf).tr p3.2.1
    have f7 : Fr G [7] v v1 := Fr.tr Fr.rf (p3.2.2.2.2) (by decide)
    have b8 : Bd x4 (-2) (-2) := p3.2.2.1
    exact J_iret E hr dX7_lasts_26 ⟨o5, k6, trivial, f7⟩
  refine J_aload_n E dX7_lasts_0 0 rfl ?_
  refine J_getR E in_X7 rfl (S_X7.h S0) 0 (by decide) wd308 rfl dX7_lasts_1 ?_
  refine J_iload_n E dX7_lasts_4 1 rfl ?_
  refine J_callVNI E cal_X6_hasOne wd584 rfl (S_X6.h (S_X7.f0 S0)) [.int x_0] [] (ct_X6_hasOne l D dA G v w (hOk) (rf G h0 0) (S_X7.f0 S0) x_0) rfl rfl (Nat.le_of_ble_eq_true rfl) ⟨rfl, rfl⟩ ⟨Nat.le_of_ble_eq_true rfl, Nat.le_of_ble_eq_true rfl⟩ dX7_lasts_5 (fun x12 v9 w10 p11 => ?_)
  rw [p11.1, p11.2.1]
  have b13 : Bd x12 0 1 := p11.2.2.1
  refine J_if_eq E 22 dX7_lasts_8 (by decide) (fun c14 => ?_) (fun c14 => ?_)
  · have b15 : Bd x12 0 0 := Bd.eq_l c14 b13 (Bd.lit 0 0 (by decide)) 0 0 (by decide)
    exact J.sub [0] rfl (J22)
  · have b16 : Bd x12 1 1 := (Bd.ne_lo c14 b13 (Bd.lit 0 0 (by decide))).w _ _ (by decide)
    have b17 : Bd x_0 0 6 := (p11.2.2.2.1).resolve_left c14
    refine J_aload_n E dX7_lasts_11 0 rfl ?_
    refine J_getR E in_X7 rfl (S_X7.h S0) 0 (by decide) wd308 rfl dX7_lasts_12 ?_
    refine J_iload_n E dX7_lasts_15 2 rfl ?_
    refine J_callVNI E cal_X6_hasThing wd588 rfl (S_X6.h (S_X7.f0 S0)) [.int x_1] [] (ct_X6_hasThing l D dA G v w (hOk) (rf G h0 0) (S_X7.f0 S0) x_1) rfl rfl (Nat.le_of_ble_eq_true rfl) ⟨rfl, rfl⟩ ⟨Nat.le_of_ble_eq_true rfl, Nat.le_of_ble_eq_true rfl⟩ dX7_lasts_16 (fun x21 v18 w19 p20 => ?_)
    rw [p20.1, p20.2.1]
    have b22 : Bd x21 0 1 := p20.2.2.1
    refine J_if_ne E 27 dX7_lasts_19 (by decide) (fun c23 => ?_) (fun c23 => ?_)
    · have b24 : Bd x21 1 1 := (Bd.ne_lo c23 b22 (Bd.lit 0 0 (by decide))).w _ _ (by decide)
      have b25 : Bd x_1 0 6 := (p20.2.2.2.1).resolve_left c23
      refine J_aload_n E dX7_lasts_27 0 rfl ?_
      refine J_getR E in_X7 rfl (S_X7.h S0) 0 (by decide) wd308 rfl dX7_lasts_28 ?_
      refine J_getRN E in_X6 rfl (S_X6.h (S_X7.f0 S0)) 6 (by decide) wd209 rfl dX7_lasts_31 ?_
      refine J_iload_n E dX7_lasts_34 1 rfl ?_
      refine J_callVNI E cal_X2_isHere wd665 rfl (S_X2.h (S_X6.f6 (S_X7.f0 S0))) [.int x_0] [] (ct_X2_isHere l D dA G v w (hOk) (rf G (rf G h0 0) 6) (S_X6.f6 (S_X7.f0 S0)) x_0 b17) rfl rfl (Nat.le_of_ble_eq_true rfl) ⟨rfl, rfl⟩ ⟨Nat.le_of_ble_eq_true rfl, Nat.le_of_ble_eq_true rfl⟩ dX7_lasts_35 (fun x29 v26 w27 p28 => ?_)
      rw [p28.1, p28.2.1]
      have b30 : Bd x29 0 1 := p28.2.2.1
      refine J_if_ne E 46 dX7_lasts_38 (by decide) (fun c31 => ?_) (fun c31 => ?_)
      · have b32 : Bd x29 1 1 := (Bd.ne_lo c31 b30 (Bd.lit 0 0 (by decide))).w _ _ (by decide)
        refine J_aload_n E dX7_lasts_46 0 rfl ?_
        refine J_getR E in_X7 rfl (S_X7.h S0) 0 (by decide) wd308 rfl dX7_lasts_47 ?_
        refine J_iload_n E dX7_lasts_50 2 rfl ?_
        refine J_iload_n E dX7_lasts_51 1 rfl ?_
        refine J_bipush E 60 dX7_lasts_52 (by decide) ?_
        refine J_callVNI E cal_X6_holdsFor wd599 rfl (S_X6.h (S_X7.f0 S0)) [.int x_1, .int x_0, .int 60] [] (ct_X6_holdsFor l D dA G v w (hOk) (rf G h0 0) (S_X7.f0 S0) x_1 b25 x_0 b17 60 ((Bd.lit 60 60 (by decide)).w 1 60 (by decide))) rfl rfl (Nat.le_of_ble_eq_true rfl) ⟨rfl, rfl⟩ ⟨Nat.le_of_ble_eq_true rfl, Nat.le_of_ble_eq_true rfl⟩ dX7_lasts_54 (fun x36 v33 w34 p35 => ?_)
        rw [p35.1, p35.2.1]
        have b37 : Bd x36 0 60 := p35.2.2.1
        exact J_iret E hr dX7_lasts_57 ⟨hOk, Kp.rf, trivial, Fr.rf⟩
      · have b38 : Bd x29 0 0 := Bd.eq_l c31 b30 (Bd.lit 0 0 (by decide)) 0 0 (by decide)
        refine J_aload_n E dX7_lasts_41 0 rfl ?_
        refine J_callVI E cal_X7_no wd591 rfl (S_X7.h S0) [] [] (ct_X7_no l D dA G v w (hOk) h0 S0) rfl rfl (Nat.le_of_ble_eq_true rfl) ⟨rfl, rfl⟩ ⟨Nat.le_of_ble_eq_true rfl, Nat.le_of_ble_eq_true rfl⟩ dX7_lasts_42 (fun x42 v39 w40 p41 => ?_)
        have ew9 : w = w40 := p41.2.2.2.1.1.symm
        subst ew9
        have o43 := p41.1
        have k44 : Kp G v v39 := (Kp.rf).tr p41.2.1
        have f45 : Fr G [7] v v39 := Fr.tr Fr.rf (p41.2.2.2.2) (by decide)
        have b46 : Bd x42 (-3) (-3) := p41.2.2.1
        exact J_iret E hr dX7_lasts_45 ⟨o43, k44, trivial, f45⟩
    · have b47 : Bd x21 0 0 := Bd.eq_l c23 b22 (Bd.lit 0 0 (by decide)) 0 0 (by decide)
      exact J.sub [0] rfl (J22)

abbrev rm_X7_match : Room := { frames := 6, cells := 0, slots := 0, locals := 139 }
set_option maxHeartbeats 4000000 in
set_option maxRecDepth 100000 in
theorem ct_X7_match (l : Launch) (D : va_G) (dA : Nat → ClassId) (G : Gm) (v : Mv) (w : Mw) (hOk : Ok G v w) (h0 : Nat) (S0 : S_X7 G h0) (x_0 : Int32) (x_1 : Int32) : CtI l yX7_match cX7_match 4 (some .int) rm_X7_match D dA G [.ref h0, .int x_0, .int x_1] v w (fun r v1 w1 => Ok G v1 w1 ∧ Kp G v v1 ∧ True ∧ Fr G [1, 7, 107, 996] v v1) := by
  refine CtI.of RX7 [(0, .ref h0), (1, .int x_0), (2, .int x_1)] (Nat.le_of_ble_eq_true rfl) rfl (by decide) rfl ?_
  intro p e s m args below meth c E hr
  have J34 : Bd x_0 1 60 → Bd x_1 (-1) 6 → J p l e rm_X7_match s m args below meth c 0 0 (MQ below (QcI D dA G (fun r v1 w1 => Ok G v1 w1 ∧ Kp G v v1 ∧ True ∧ Fr G [1, 7, 107, 996] v v1)) args s 0 0 (dm G)) D dA G (dm G) s.heap 4 v w [(0, .ref h0), (1, .int x_0), (2, .int x_1)] 34 [] := by
    intro b1 b2
    refine J_aload_n E dX7_match_34 0 rfl ?_
    refine J_getR E in_X7 rfl (S_X7.h S0) 4 (by decide) wd312 rfl dX7_match_35 ?_
    refine J_aload_n E dX7_match_38 0 rfl ?_
    refine J_getR E in_X7 rfl (S_X7.h S0) 0 (by decide) wd308 rfl dX7_match_39 ?_
    refine J_iload_n E dX7_match_42 1 rfl ?_
    refine J_callVNV E cal_X1_fill wd684 rfl (S_X1.h (S_X7.f4 S0)) [.ref (rf G h0 0), .int x_0] [] (ct_X1_fill l D dA G v w (hOk) (rf G h0 4) (S_X7.f4 S0) (rf G h0 0) (S_X7.f0 S0) x_0 b1) rfl rfl (Nat.le_of_ble_eq_true rfl) ⟨rfl, rfl⟩ ⟨Nat.le_of_ble_eq_true rfl, Nat.le_of_ble_eq_true rfl⟩ dX7_match_43 (fun v3 w4 p5 => ?_)
    have o7 := p5.1
    have k8 : Kp G v v3 := (Kp.rf).tr p5.2.1
    have f9 : Fr G [1, 7, 107, 996] v v3 := Fr.tr Fr.rf (p5.2.2) (by decide)
    refine J_iconst E 1 dX7_match_46 (by decide) ?_
    refine J_aload_n E dX7_match_47 0 rfl ?_
    refine J_getR E in_X7 rfl (S_X7.h S0) 0 (by decide) wd308 rfl dX7_match_48 ?_
    refine J_getIN E in_X6 rfl (S_X6.h (S_X7.f0 S0)) 0 (by decide) wd193 rfl dX7_match_51 (fun x10 e11 => ?_)
    have b12 : Bd x10 0 7 := Ok.fd o7 e11 (S_X6.h (S_X7.f0 S0)) rfl
    refine J_ishl E dX7_match_54 (fun x13 e14 => ?_)
    have b15 : Bd x13 1 128 := Bd.shl1 e14 b12 7 (by decide)
    refine J_iconst E 1 dX7_match_55 (by decide) ?_
    refine J_isub E dX7_match_56 (fun x16 e17 => ?_)
    have b18 : Bd x16 0 127 := (Bd.sub e17 b15 (Bd.lit 1 1 (by decide)) (by decide)).w _ _ (by decide)
    refine J_istore_n E [(3, .int x16), (0, .ref h0), (1, .int x_0), (2, .int x_1)] dX7_match_57 rfl (by decide) rfl ?_
    refine J_iload_n E dX7_match_58 3 rfl ?_
    refine J_iconst E (-1) dX7_match_59 (by decide) ?_
    refine J_icmp_ne E 75 dX7_match_60 (by decide) (fun c19 => ?_) (fun c19 => ?_)
    · have b20 : Bd x_1 0 6 := (Bd.ne_lo c19 b2 (Bd.lit (-1) (-1) (by decide))).w _ _ (by decide)
      refine J_aload_n E dX7_match_75 1 rfl ?_
      refine J_getR E in_X7 rfl (S_X7.h S0) 4 (by decide) wd312 rfl dX7_match_76 ?_
      refine J_iload_n E dX7_match_79 3 rfl ?_
      refine J_iload_n E dX7_match_80 0 rfl ?_
      refine J_callVNI E cal_X1_firstThingOf wd702 rfl (S_X1.h (S_X7.f4 S0)) [.int x_1, .int x16] [] (ct_X1_firstThingOf l D dA G v3 w4 (o7) (rf G h0 4) (S_X7.f4 S0) x_1 b20 x16 b18) rfl rfl (Nat.le_of_ble_eq_true rfl) ⟨rfl, rfl⟩ ⟨Nat.le_of_ble_eq_true rfl, Nat.le_of_ble_eq_true rfl⟩ dX7_match_81 (fun x24 v21 w22 p23 => ?_)
      rw [p23.1, p23.2.1]
      exact J_iret E hr dX7_match_84 ⟨o7, k8, trivial, f9⟩
    · have b25 : Bd x_1 (-1) (-1) := Bd.eq_l c19 b2 (Bd.lit (-1) (-1) (by decide)) (-1) (-1) (by decide)
      refine J_aload_n E dX7_match_63 1 rfl ?_
      refine J_getR E in_X7 rfl (S_X7.h S0) 4 (by decide) wd312 rfl dX7_match_64 ?_
      refine J_iconst E 0 dX7_match_67 (by decide) ?_
      refine J_iload_n E dX7_match_68 0 rfl ?_
      refine J_callVNI E cal_X1_most wd701 rfl (S_X1.h (S_X7.f4 S0)) [.int 0, .int x16] [] (ct_X1_most l D dA G v3 w4 (o7) (rf G h0 4) (S_X7.f4 S0) 0 ((Bd.lit 0 0 (by decide)).w 0 7 (by decide)) x16 b18) rfl rfl (Nat.le_of_ble_eq_true rfl) ⟨rfl, rfl⟩ ⟨Nat.le_of_ble_eq_true rfl, Nat.le_of_ble_eq_true rfl⟩ dX7_match_69 (fun x29 v26 w27 p28 => ?_)
      rw [p28.1, p28.2.1]
      refine J_goto E 84 dX7_match_72 (by decide) ?_
      exact J_iret E hr dX7_match_84 ⟨o7, k8, trivial, f9⟩
  have J26 :  J p l e rm_X7_match s m args below meth c 0 0 (MQ below (QcI D dA G (fun r v1 w1 => Ok G v1 w1 ∧ Kp G v v1 ∧ True ∧ Fr G [1, 7, 107, 996] v v1)) args s 0 0 (dm G)) D dA G (dm G) s.heap 4 v w [(0, .ref h0)] 26 [] := by
    refine J_aload_n E dX7_match_26 0 rfl ?_
    refine J_callVI E cal_X7_bad wd364 rfl (S_X7.h S0) [] [] (ct_X7_bad l D dA G v w (hOk) h0 S0) rfl rfl (Nat.le_of_ble_eq_true rfl) ⟨rfl, rfl⟩ ⟨Nat.le_of_ble_eq_true rfl, Nat.le_of_ble_eq_true rfl⟩ dX7_match_27 (fun x33 v30 w31 p32 => ?_)
    have ew9 : w = w31 := p32.2.2.2.1.1.symm
    subst ew9
    have o34 := p32.1
    have k35 : Kp G v v30 := (Kp.rf).tr p32.2.1
    have f36 : Fr G [1, 7, 107, 996] v v30 := Fr.tr Fr.rf (p32.2.2.2.2) (by decide)
    have b37 : Bd x33 (-2) (-2) := p32.2.2.1
    refine J_pop E dX7_match_30 rfl ?_
    refine J_bipush E (-10) dX7_match_31 (by decide) ?_
    exact J_iret E hr dX7_match_33 ⟨o34, k35, trivial, f36⟩
  refine J_iload_n E dX7_match_0 1 rfl ?_
  refine J_iconst E 1 dX7_match_1 (by decide) ?_
  refine J_bipush E 60 dX7_match_2 (by decide) ?_
  refine J_callSI E cal_X7_isWithin wd361 [.int x_0, .int 1, .int 60] [] (ct_X7_isWithin l D dA G v w (hOk) x_0 1 60) rfl rfl (Nat.le_of_ble_eq_true rfl) ⟨rfl, rfl⟩ ⟨Nat.le_of_ble_eq_true rfl, Nat.le_of_ble_eq_true rfl⟩ dX7_match_4 (fun x41 v38 w39 p40 => ?_)
  rw [p40.1, p40.2.1]
  have b42 : Bd x41 0 1 := p40.2.2.1
  refine J_if_eq E 26 dX7_match_7 (by decide) (fun c43 => ?_) (fun c43 => ?_)
  · have b44 : Bd x41 0 0 := Bd.eq_l c43 b42 (Bd.lit 0 0 (by decide)) 0 0 (by decide)
    have g45 : ¬ (1 ≤ x_0 ∧ x_0 ≤ 60) := (p40.2.2.2.2.1).resolve_left (fun h9 => h9 c43)
    exact J.sub [0] rfl (J26)
  · have b46 : Bd x41 1 1 := (Bd.ne_lo c43 b42 (Bd.lit 0 0 (by decide))).w _ _ (by decide)
    have g47 := (p40.2.2.2.1).resolve_left c43
    have b48 : Bd x_0 1 I1 := Bd.le_r g47.1 (Bd.lit 1 1 (by decide)) (Bd.any x_0) 1 (by decide)
    have b49 : Bd x_0 1 60 := Bd.le_l g47.2 b48 (Bd.lit 60 60 (by decide)) 60 (by decide)
    refine J_iload_n E dX7_match_10 2 rfl ?_
    refine J_iconst E (-1) dX7_match_11 (by decide) ?_
    refine J_icmp_eq E 34 dX7_match_12 (by decide) (fun c50 => ?_) (fun c50 => ?_)
    · have b51 : Bd x_1 (-1) (-1) := Bd.eq_l c50 (Bd.any x_1) (Bd.lit (-1) (-1) (by decide)) (-1) (-1) (by decide)
      exact J.sub [0, 1, 2] rfl (J34 b49 (b51.w (-1) 6 (by decide)))
    · refine J_aload_n E dX7_match_15 0 rfl ?_
      refine J_getR E in_X7 rfl (S_X7.h S0) 0 (by decide) wd308 rfl dX7_match_16 ?_
      refine J_iload_n E dX7_match_19 2 rfl ?_
      refine J_callVNI E cal_X6_hasOne wd584 rfl (S_X6.h (S_X7.f0 S0)) [.int x_1] [] (ct_X6_hasOne l D dA G v w (hOk) (rf G h0 0) (S_X7.f0 S0) x_1) rfl rfl (Nat.le_of_ble_eq_true rfl) ⟨rfl, rfl⟩ ⟨Nat.le_of_ble_eq_true rfl, Nat.le_of_ble_eq_true rfl⟩ dX7_match_20 (fun x55 v52 w53 p54 => ?_)
      rw [p54.1, p54.2.1]
      have b56 : Bd x55 0 1 := p54.2.2.1
      refine J_if_ne E 34 dX7_match_23 (by decide) (fun c57 => ?_) (fun c57 => ?_)
      · have b58 : Bd x55 1 1 := (Bd.ne_lo c57 b56 (Bd.lit 0 0 (by decide))).w _ _ (by decide)
        have b59 : Bd x_1 0 6 := (p54.2.2.2.1).resolve_left c57
        exact J.sub [0, 1, 2] rfl (J34 b49 (b59.w (-1) 6 (by decide)))
      · have b60 : Bd x55 0 0 := Bd.eq_l c57 b56 (Bd.lit 0 0 (by decide)) 0 0 (by decide)
        exact J.sub [0] rfl (J26)

abbrev rm_X7_light : Room := { frames := 6, cells := 0, slots := 0, locals := 139 }
set_option maxHeartbeats 4000000 in
set_option maxRecDepth 100000 in
theorem ct_X7_light (l : Launch) (D : va_G) (dA : Nat → ClassId) (G : Gm) (v : Mv) (w : Mw) (hOk : Ok G v w) (h0 : Nat) (S0 : S_X7 G h0) (x_0 : Int32) : CtI l yX7_light cX7_light 6 (some .int) rm_X7_light D dA G [.ref h0, .int x_0] v w (fun r v1 w1 => Ok G v1 w1 ∧ Kp G v v1 ∧ True ∧ Fr G [1, 7, 107, 996] v v1) := by
  refine CtI.of RX7 [(0, .ref h0), (1, .int x_0)] (Nat.le_of_ble_eq_true rfl) rfl (by decide) rfl ?_
  intro p e s m args below meth c E hr
  have J43 : ∀ n43 : Nat, ∀ (v1 : Mv) (w2 : Mw), Ok G v1 w2 → Kp G v v1 → Fr G [1, 7, 107, 996] v v1 → ∀ x6 : Int32, ∀ x7 : Int32, ∀ x8 : Int32, Bd x8 0 128 → Mu x8 128 n43 → J p l e rm_X7_light s m args below meth c 0 0 (MQ below (QcI D dA G (fun r v1 w1 => Ok G v1 w1 ∧ Kp G v v1 ∧ True ∧ Fr G [1, 7, 107, 996] v v1)) args s 0 0 (dm G)) D dA G (dm G) s.heap 6 v1 w2 [(0, .ref h0), (2, .int x6), (3, .int x7), (4, .int x8)] 43 [] := by
    intro n43
    induction n43 with
    | zero => intro v1 w2 o3 k4 f5 x6 x7 x8 b9 hm; exact hm.zero b9 (by decide)
    | succ n43 ih43 =>
      intro v1 w2 o3 k4 f5 x6 x7 x8 b9 hmu43
      have J99 : ∀ x10 : Int32, Bd x8 0 127 → J p l e rm_X7_light s m args below meth c 0 0 (MQ below (QcI D dA G (fun r v1 w1 => Ok G v1 w1 ∧ Kp G v v1 ∧ True ∧ Fr G [1, 7, 107, 996] v v1)) args s 0 0 (dm G)) D dA G (dm G) s.heap 6 v1 w2 [(0, .ref h0), (2, .int x6), (3, .int x10), (4, .int x8)] 99 [] := by
        intro x10 b11
        refine J_iinc E 3 1 (fun z => [(4, .int z), (0, .ref h0), (2, .int x6), (3, .int x10)]) dX7_light_99 rfl (by decide) (by decide) (fun _ => rfl) (fun x12 e13 => ?_)
        have b14 : Bd x12 1 128 := (Bd.add e13 b11 (Bd.lit 1 1 (by decide)) (by decide)).w _ _ (by decide)
        refine J_goto E 43 dX7_light_102 (by decide) ?_
        exact J.sub [1, 2, 3, 0] rfl (ih43 v1 w2 (o3) (k4) f5 x6 x10 x12 (b14.w 0 128 (by decide)) (Mu.step hmu43 e13 b11 (Bd.lit 1 1 (by decide)) (by decide)))
      have J98 : Bd x8 0 127 → ∀ x16 : Int32, J p l e rm_X7_light s m args below meth c 0 0 (MQ below (QcI D dA G (fun r v1 w1 => Ok G v1 w1 ∧ Kp G v v1 ∧ True ∧ Fr G [1, 7, 107, 996] v v1)) args s 0 0 (dm G)) D dA G (dm G) s.heap 6 v1 w2 [(0, .ref h0), (2, .int x6), (4, .int x8)] 98 [.int x16] := by
        intro b15 x16
        refine J_istore_n E [(3, .int x16), (0, .ref h0), (2, .int x6), (4, .int x8)] dX7_light_98 rfl (by decide) rfl ?_
        exact J.sub [1, 2, 0, 3] rfl (J99 x16 b15)
      refine J_iload E dX7_light_43 3 rfl ?_
      refine J_iconst E 1 dX7_light_45 (by decide) ?_
      refine J_aload_n E dX7_light_46 0 rfl ?_
      refine J_getR E in_X7 rfl (S_X7.h S0) 0 (by decide) wd308 rfl dX7_light_47 ?_
      refine J_getIN E in_X6 rfl (S_X6.h (S_X7.f0 S0)) 0 (by decide) wd193 rfl dX7_light_50 (fun x17 e18 => ?_)
      have b19 : Bd x17 0 7 := Ok.fd o3 e18 (S_X6.h (S_X7.f0 S0)) rfl
      refine J_ishl E dX7_light_53 (fun x20 e21 => ?_)
      have b22 : Bd x20 1 128 := Bd.shl1 e21 b19 7 (by decide)
      refine J_icmp_ge E 105 dX7_light_54 (by decide) (fun c23 => ?_) (fun c23 => ?_)
      · have b24 : Bd x8 1 128 := Bd.le_r c23 b22 b9 1 (by decide)
        refine J_iload_n E dX7_light_105 2 rfl ?_
        exact J_iret E hr dX7_light_106 ⟨o3, k4, trivial, f5⟩
      · have b25 : Bd x8 0 127 := Bd.lt_l (nle c23) b9 b22 127 (by decide)
        refine J_aload_n E dX7_light_57 0 rfl ?_
        refine J_getR E in_X7 rfl (S_X7.h S0) 4 (by decide) wd312 rfl dX7_light_58 ?_
        refine J_iconst E 0 dX7_light_61 (by decide) ?_
        refine J_iload E dX7_light_62 3 rfl ?_
        refine J_callVNI E cal_X1_most wd701 rfl (S_X1.h (S_X7.f4 S0)) [.int 0, .int x8] [] (ct_X1_most l D dA G v1 w2 (o3) (rf G h0 4) (S_X7.f4 S0) 0 ((Bd.lit 0 0 (by decide)).w 0 7 (by decide)) x8 b25) rfl rfl (Nat.le_of_ble_eq_true rfl) ⟨rfl, rfl⟩ ⟨Nat.le_of_ble_eq_true rfl, Nat.le_of_ble_eq_true rfl⟩ dX7_light_64 (fun x29 v26 w27 p28 => ?_)
        rw [p28.1, p28.2.1]
        refine J_iload_n E dX7_light_67 1 rfl ?_
        refine J_icmp_ne E 99 dX7_light_68 (by decide) (fun c30 => ?_) (fun c30 => ?_)
        · exact J.sub [0, 1, 2, 3] rfl (J99 x7 b25)
        · refine J_aload_n E dX7_light_71 0 rfl ?_
          refine J_getR E in_X7 rfl (S_X7.h S0) 0 (by decide) wd308 rfl dX7_light_72 ?_
          refine J_iload E dX7_light_75 3 rfl ?_
          refine J_callVNI E cal_X6_toldWeight wd714 rfl (S_X6.h (S_X7.f0 S0)) [.int x8] [] (ct_X6_toldWeight l D dA G v1 w2 (o3) (rf G h0 0) (S_X7.f0 S0) x8 b25) rfl rfl (Nat.le_of_ble_eq_true rfl) ⟨rfl, rfl⟩ ⟨Nat.le_of_ble_eq_true rfl, Nat.le_of_ble_eq_true rfl⟩ dX7_light_77 (fun x34 v31 w32 p33 => ?_)
          rw [p33.1, p33.2.1]
          refine J_istore E [(5, .int x34), (0, .ref h0), (2, .int x6), (3, .int x7), (4, .int x8)] dX7_light_80 (by decide) rfl ?_
          refine J_iload_n E dX7_light_82 3 rfl ?_
          refine J_iconst E (-1) dX7_light_83 (by decide) ?_
          refine J_icmp_ne E 92 dX7_light_84 (by decide) (fun c35 => ?_) (fun c35 => ?_)
          · refine J_iload_n E dX7_light_92 3 rfl ?_
            refine J_iload E dX7_light_93 0 rfl ?_
            refine J_callSI E cal_J9_min_7cf53 wd718 [.int x7, .int x34] [] (ct_J9_min_7cf53 l D dA G v1 w2 (o3) x7 x34) rfl rfl (Nat.le_of_ble_eq_true rfl) ⟨rfl, rfl⟩ ⟨Nat.le_of_ble_eq_true rfl, Nat.le_of_ble_eq_true rfl⟩ dX7_light_95 (fun x39 v36 w37 p38 => ?_)
            rw [p38.1, p38.2.1]
            exact J.sub [1, 2, 4] rfl (J98 b25 x39)
          · have b40 : Bd x7 (-1) (-1) := Bd.eq_l c35 (Bd.any x7) (Bd.lit (-1) (-1) (by decide)) (-1) (-1) (by decide)
            refine J_iload E dX7_light_87 0 rfl ?_
            refine J_goto E 98 dX7_light_89 (by decide) ?_
            exact J.sub [1, 2, 4] rfl (J98 b25 x34)
  refine J_iload_n E dX7_light_0 1 rfl ?_
  refine J_iconst E 1 dX7_light_1 (by decide) ?_
  refine J_bipush E 60 dX7_light_2 (by decide) ?_
  refine J_callSI E cal_X7_isWithin wd361 [.int x_0, .int 1, .int 60] [] (ct_X7_isWithin l D dA G v w (hOk) x_0 1 60) rfl rfl (Nat.le_of_ble_eq_true rfl) ⟨rfl, rfl⟩ ⟨Nat.le_of_ble_eq_true rfl, Nat.le_of_ble_eq_true rfl⟩ dX7_light_4 (fun x44 v41 w42 p43 => ?_)
  rw [p43.1, p43.2.1]
  have b45 : Bd x44 0 1 := p43.2.2.1
  refine J_if_ne E 15 dX7_light_7 (by decide) (fun c46 => ?_) (fun c46 => ?_)
  · have b47 : Bd x44 1 1 := (Bd.ne_lo c46 b45 (Bd.lit 0 0 (by decide))).w _ _ (by decide)
    have g48 := (p43.2.2.2.1).resolve_left c46
    have b49 : Bd x_0 1 I1 := Bd.le_r g48.1 (Bd.lit 1 1 (by decide)) (Bd.any x_0) 1 (by decide)
    have b50 : Bd x_0 1 60 := Bd.le_l g48.2 b49 (Bd.lit 60 60 (by decide)) 60 (by decide)
    refine J_aload_n E dX7_light_15 0 rfl ?_
    refine J_getR E in_X7 rfl (S_X7.h S0) 4 (by decide) wd312 rfl dX7_light_16 ?_
    refine J_aload_n E dX7_light_19 0 rfl ?_
    refine J_getR E in_X7 rfl (S_X7.h S0) 0 (by decide) wd308 rfl dX7_light_20 ?_
    refine J_iload_n E dX7_light_23 1 rfl ?_
    refine J_callVNV E cal_X1_fill wd684 rfl (S_X1.h (S_X7.f4 S0)) [.ref (rf G h0 0), .int x_0] [] (ct_X1_fill l D dA G v w (hOk) (rf G h0 4) (S_X7.f4 S0) (rf G h0 0) (S_X7.f0 S0) x_0 b50) rfl rfl (Nat.le_of_ble_eq_true rfl) ⟨rfl, rfl⟩ ⟨Nat.le_of_ble_eq_true rfl, Nat.le_of_ble_eq_true rfl⟩ dX7_light_24 (fun v51 w52 p53 => ?_)
    have o55 := p53.1
    have k56 : Kp G v v51 := (Kp.rf).tr p53.2.1
    have f57 : Fr G [1, 7, 107, 996] v v51 := Fr.tr Fr.rf (p53.2.2) (by decide)
    refine J_aload_n E dX7_light_27 0 rfl ?_
    refine J_getR E in_X7 rfl (S_X7.h S0) 0 (by decide) wd308 rfl dX7_light_28 ?_
    refine J_getRN E in_X6 rfl (S_X6.h (S_X7.f0 S0)) 6 (by decide) wd209 rfl dX7_light_31 ?_
    refine J_callVNI E cal_X2_countHere wd621 rfl (S_X2.h (S_X6.f6 (S_X7.f0 S0))) [] [] (ct_X2_countHere l D dA G v51 w52 (o55) (rf G (rf G h0 0) 6) (S_X6.f6 (S_X7.f0 S0))) rfl rfl (Nat.le_of_ble_eq_true rfl) ⟨rfl, rfl⟩ ⟨Nat.le_of_ble_eq_true rfl, Nat.le_of_ble_eq_true rfl⟩ dX7_light_34 (fun x61 v58 w59 p60 => ?_)
    rw [p60.1, p60.2.1]
    refine J_istore_n E [(2, .int x61), (0, .ref h0), (1, .int x_0)] dX7_light_37 rfl (by decide) rfl ?_
    refine J_iconst E (-1) dX7_light_38 (by decide) ?_
    refine J_istore_n E [(3, .int (-1)), (2, .int x61), (0, .ref h0), (1, .int x_0)] dX7_light_39 rfl (by decide) rfl ?_
    refine J_iconst E 0 dX7_light_40 (by decide) ?_
    refine J_istore E [(4, .int 0), (3, .int (-1)), (2, .int x61), (0, .ref h0), (1, .int x_0)] dX7_light_41 (by decide) rfl ?_
    exact J.sub [3, 2, 1, 0] rfl (J43 129 v51 w52 (o55) (k56) f57 x61 (-1) 0 ((Bd.lit 0 0 (by decide)).w 0 128 (by decide)) (Mu.start _ (Bd.lit 0 0 (by decide)) (by decide)))
  · have b62 : Bd x44 0 0 := Bd.eq_l c46 b45 (Bd.lit 0 0 (by decide)) 0 0 (by decide)
    have g63 : ¬ (1 ≤ x_0 ∧ x_0 ≤ 60) := (p43.2.2.2.2.1).resolve_left (fun h9 => h9 c46)
    refine J_aload_n E dX7_light_10 0 rfl ?_
    refine J_callVI E cal_X7_bad wd364 rfl (S_X7.h S0) [] [] (ct_X7_bad l D dA G v w (hOk) h0 S0) rfl rfl (Nat.le_of_ble_eq_true rfl) ⟨rfl, rfl⟩ ⟨Nat.le_of_ble_eq_true rfl, Nat.le_of_ble_eq_true rfl⟩ dX7_light_11 (fun x67 v64 w65 p66 => ?_)
    have ew9 : w = w65 := p66.2.2.2.1.1.symm
    subst ew9
    have o68 := p66.1
    have k69 : Kp G v v64 := (Kp.rf).tr p66.2.1
    have f70 : Fr G [1, 7, 107, 996] v v64 := Fr.tr Fr.rf (p66.2.2.2.2) (by decide)
    have b71 : Bd x67 (-2) (-2) := p66.2.2.1
    exact J_iret E hr dX7_light_14 ⟨o68, k69, trivial, f70⟩

abbrev rm_X7_two : Room := { frames := 4, cells := 0, slots := 0, locals := 93 }
set_option maxHeartbeats 4000000 in
set_option maxRecDepth 100000 in
theorem ct_X7_two (l : Launch) (D : va_G) (dA : Nat → ClassId) (G : Gm) (v : Mv) (w : Mw) (hOk : Ok G v w) (h0 : Nat) (S0 : S_X7 G h0) (x_0 : Int32) (x_1 : Int32) : CtI l yX7_two cX7_two 6 (some .int) rm_X7_two D dA G [.ref h0, .int x_0, .int x_1] v w (fun r v1 w1 => Ok G v1 w1 ∧ Kp G v v1 ∧ True ∧ Fr G [7] v v1) := by
  refine CtI.of RX7 [(0, .ref h0), (1, .int x_0), (2, .int x_1)] (Nat.le_of_ble_eq_true rfl) rfl (by decide) rfl ?_
  intro p e s m args below meth c E hr
  have J29 : ∀ n29 : Nat, Bd x_0 0 6 → Bd x_1 (-1) I1 → ∀ x3 : Int32, ∀ x4 : Int32, Bd x4 0 7 → Mu x4 7 n29 → J p l e rm_X7_two s m args below meth c 0 0 (MQ below (QcI D dA G (fun r v1 w1 => Ok G v1 w1 ∧ Kp G v v1 ∧ True ∧ Fr G [7] v v1)) args s 0 0 (dm G)) D dA G (dm G) s.heap 6 v w [(0, .ref h0), (1, .int x_0), (2, .int x_1), (3, .int x3), (4, .int x4)] 29 [] := by
    intro n29
    induction n29 with
    | zero => intro b1 b2 x3 x4 b5 hm; exact hm.zero b5 (by decide)
    | succ n29 ih29 =>
      intro b1 b2 x3 x4 b5 hmu29
      have J47 : ∀ n47 : Nat, Bd x_0 0 6 → Bd x_1 (-1) I1 → ∀ x8 : Int32, Bd x4 0 6 → ∀ x10 : Int32, Bd x10 1 7 → Mu x10 7 n47 → J p l e rm_X7_two s m args below meth c 0 0 (MQ below (QcI D dA G (fun r v1 w1 => Ok G v1 w1 ∧ Kp G v v1 ∧ True ∧ Fr G [7] v v1)) args s 0 0 (dm G)) D dA G (dm G) s.heap 6 v w [(0, .ref h0), (1, .int x_0), (2, .int x_1), (3, .int x8), (4, .int x4), (5, .int x10)] 47 [] := by
        intro n47
        induction n47 with
        | zero => intro b6 b7 x8 b9 x10 b11 hm; exact hm.zero b11 (by decide)
        | succ n47 ih47 =>
          intro b6 b7 x8 b9 x10 b11 hmu47
          have J91 : Bd x_0 0 6 → Bd x_1 (-1) I1 → ∀ x14 : Int32, Bd x4 0 6 → Bd x10 1 6 → J p l e rm_X7_two s m args below meth c 0 0 (MQ below (QcI D dA G (fun r v1 w1 => Ok G v1 w1 ∧ Kp G v v1 ∧ True ∧ Fr G [7] v v1)) args s 0 0 (dm G)) D dA G (dm G) s.heap 6 v w [(0, .ref h0), (1, .int x_0), (2, .int x_1), (3, .int x14), (4, .int x4), (5, .int x10)] 91 [] := by
            intro b12 b13 x14 b15 b16
            refine J_iinc E 5 1 (fun z => [(5, .int z), (0, .ref h0), (1, .int x_0), (2, .int x_1), (3, .int x14), (4, .int x4)]) dX7_two_91 rfl (by decide) (by decide) (fun _ => rfl) (fun x17 e18 => ?_)
            have b19 : Bd x17 2 7 := (Bd.add e18 b16 (Bd.lit 1 1 (by decide)) (by decide)).w _ _ (by decide)
            refine J_goto E 47 dX7_two_94 (by decide) ?_
            exact J.sub [1, 2, 3, 4, 5, 0] rfl (ih47 b12 b13 x14 b15 x17 (b19.w 1 7 (by decide)) (Mu.step hmu47 e18 b16 (Bd.lit 1 1 (by decide)) (by decide)))
          refine J_iload E dX7_two_47 5 rfl ?_
          refine J_aload_n E dX7_two_49 0 rfl ?_
          refine J_getR E in_X7 rfl (S_X7.h S0) 0 (by decide) wd308 rfl dX7_two_50 ?_
          refine J_getIN E in_X6 rfl (S_X6.h (S_X7.f0 S0)) 3 (by decide) wd200 rfl dX7_two_53 (fun x20 e21 => ?_)
          have b22 : Bd x20 0 7 := Ok.fd hOk e21 (S_X6.h (S_X7.f0 S0)) rfl
          refine J_icmp_ge E 97 dX7_two_56 (by decide) (fun c23 => ?_) (fun c23 => ?_)
          · refine J_iinc E 4 1 (fun z => [(4, .int z), (0, .ref h0), (1, .int x_0), (2, .int x_1), (3, .int x8), (5, .int x10)]) dX7_two_97 rfl (by decide) (by decide) (fun _ => rfl) (fun x24 e25 => ?_)
            have b26 : Bd x24 1 7 := (Bd.add e25 b9 (Bd.lit 1 1 (by decide)) (by decide)).w _ _ (by decide)
            refine J_goto E 29 dX7_two_100 (by decide) ?_
            exact J.sub [1, 2, 3, 4, 0] rfl (ih29 b6 b7 x8 x24 (b26.w 0 7 (by decide)) (Mu.step hmu29 e25 b9 (Bd.lit 1 1 (by decide)) (by decide)))
          · have b27 : Bd x10 1 6 := Bd.lt_l (nle c23) b11 b22 6 (by decide)
            have b28 : Bd x20 2 7 := Bd.lt_r (nle c23) b11 b22 2 (by decide)
            refine J_aload_n E dX7_two_59 0 rfl ?_
            refine J_getR E in_X7 rfl (S_X7.h S0) 0 (by decide) wd308 rfl dX7_two_60 ?_
            refine J_iload_n E dX7_two_63 1 rfl ?_
            refine J_iload E dX7_two_64 4 rfl ?_
            refine J_iload E dX7_two_66 5 rfl ?_
            refine J_callVNI E cal_X6_liftByTwo wd723 rfl (S_X6.h (S_X7.f0 S0)) [.int x_0, .int x4, .int x10] [] (ct_X6_liftByTwo l D dA G v w (hOk) (rf G h0 0) (S_X7.f0 S0) x_0 b6 x4 b9 x10 b27) rfl rfl (Nat.le_of_ble_eq_true rfl) ⟨rfl, rfl⟩ ⟨Nat.le_of_ble_eq_true rfl, Nat.le_of_ble_eq_true rfl⟩ dX7_two_68 (fun x32 v29 w30 p31 => ?_)
            rw [p31.1, p31.2.1]
            have b33 : Bd x32 0 1 := p31.2.2.1
            refine J_if_eq E 91 dX7_two_71 (by decide) (fun c34 => ?_) (fun c34 => ?_)
            · have b35 : Bd x32 0 0 := Bd.eq_l c34 b33 (Bd.lit 0 0 (by decide)) 0 0 (by decide)
              exact J.sub [0, 1, 2, 3, 4, 5] rfl (J91 b6 b7 x8 b9 b27)
            · have b36 : Bd x32 1 1 := (Bd.ne_lo c34 b33 (Bd.lit 0 0 (by decide))).w _ _ (by decide)
              refine J_iload_n E dX7_two_74 3 rfl ?_
              refine J_iload_n E dX7_two_75 2 rfl ?_
              refine J_icmp_ne E 88 dX7_two_76 (by decide) (fun c37 => ?_) (fun c37 => ?_)
              · refine J_iinc E 3 1 (fun z => [(3, .int z), (0, .ref h0), (1, .int x_0), (2, .int x_1), (4, .int x4), (5, .int x10)]) dX7_two_88 rfl (by decide) (by decide) (fun _ => rfl) (fun x38 e39 => ?_)
                exact J.sub [1, 2, 3, 0, 4, 5] rfl (J91 b6 b7 x38 b9 b27)
              · have b40 : Bd x8 (-1) I1 := Bd.eq_l c37 (Bd.any x8) b7 (-1) 2147483647 (by decide)
                refine J_bipush E 10 dX7_two_79 (by decide) ?_
                refine J_iload E dX7_two_81 4 rfl ?_
                refine J_imul E dX7_two_83 (fun x41 e42 => ?_)
                have b43 : Bd x41 0 60 := Bd.mul e42 (Bd.lit 10 10 (by decide)) b9 (by decide)
                refine J_iload E dX7_two_84 5 rfl ?_
                refine J_iadd E dX7_two_86 (fun x44 e45 => ?_)
                have b46 : Bd x44 1 66 := (Bd.add e45 b43 b27 (by decide)).w _ _ (by decide)
                exact J_iret E hr dX7_two_87 ⟨hOk, Kp.rf, trivial, Fr.rf⟩
      refine J_iload E dX7_two_29 4 rfl ?_
      refine J_aload_n E dX7_two_31 0 rfl ?_
      refine J_getR E in_X7 rfl (S_X7.h S0) 0 (by decide) wd308 rfl dX7_two_32 ?_
      refine J_getIN E in_X6 rfl (S_X6.h (S_X7.f0 S0)) 3 (by decide) wd200 rfl dX7_two_35 (fun x47 e48 => ?_)
      have b49 : Bd x47 0 7 := Ok.fd hOk e48 (S_X6.h (S_X7.f0 S0)) rfl
      refine J_icmp_ge E 103 dX7_two_38 (by decide) (fun c50 => ?_) (fun c50 => ?_)
      · refine J_iload_n E dX7_two_103 2 rfl ?_
        refine J_iconst E (-1) dX7_two_104 (by decide) ?_
        refine J_icmp_ne E 112 dX7_two_105 (by decide) (fun c51 => ?_) (fun c51 => ?_)
        · have b52 : Bd x_1 0 I1 := (Bd.ne_lo c51 b2 (Bd.lit (-1) (-1) (by decide))).w _ _ (by decide)
          refine J_bipush E (-5) dX7_two_112 (by decide) ?_
          exact J_iret E hr dX7_two_114 ⟨hOk, Kp.rf, trivial, Fr.rf⟩
        · have b53 : Bd x_1 (-1) (-1) := Bd.eq_l c51 b2 (Bd.lit (-1) (-1) (by decide)) (-1) (-1) (by decide)
          refine J_iload_n E dX7_two_108 3 rfl ?_
          refine J_goto E 114 dX7_two_109 (by decide) ?_
          exact J_iret E hr dX7_two_114 ⟨hOk, Kp.rf, trivial, Fr.rf⟩
      · have b54 : Bd x4 0 6 := Bd.lt_l (nle c50) b5 b49 6 (by decide)
        have b55 : Bd x47 1 7 := Bd.lt_r (nle c50) b5 b49 1 (by decide)
        refine J_iload E dX7_two_41 4 rfl ?_
        refine J_iconst E 1 dX7_two_43 (by decide) ?_
        refine J_iadd E dX7_two_44 (fun x56 e57 => ?_)
        have b58 : Bd x56 1 7 := (Bd.add e57 b54 (Bd.lit 1 1 (by decide)) (by decide)).w _ _ (by decide)
        refine J_istore E [(5, .int x56), (0, .ref h0), (1, .int x_0), (2, .int x_1), (3, .int x3), (4, .int x4)] dX7_two_45 (by decide) rfl ?_
        exact J.sub [1, 2, 3, 4, 5, 0] rfl (J47 7 b1 b2 x3 b54 x56 b58 (Mu.start _ b58 (by decide)))
  have J16 :  J p l e rm_X7_two s m args below meth c 0 0 (MQ below (QcI D dA G (fun r v1 w1 => Ok G v1 w1 ∧ Kp G v v1 ∧ True ∧ Fr G [7] v v1)) args s 0 0 (dm G)) D dA G (dm G) s.heap 6 v w [(0, .ref h0)] 16 [] := by
    refine J_aload_n E dX7_two_16 0 rfl ?_
    refine J_callVI E cal_X7_bad wd364 rfl (S_X7.h S0) [] [] (ct_X7_bad l D dA G v w (hOk) h0 S0) rfl rfl (Nat.le_of_ble_eq_true rfl) ⟨rfl, rfl⟩ ⟨Nat.le_of_ble_eq_true rfl, Nat.le_of_ble_eq_true rfl⟩ dX7_two_17 (fun x62 v59 w60 p61 => ?_)
    have ew9 : w = w60 := p61.2.2.2.1.1.symm
    subst ew9
    have o63 := p61.1
    have k64 : Kp G v v59 := (Kp.rf).tr p61.2.1
    have f65 : Fr G [7] v v59 := Fr.tr Fr.rf (p61.2.2.2.2) (by decide)
    have b66 : Bd x62 (-2) (-2) := p61.2.2.1
    refine J_pop E dX7_two_20 rfl ?_
    refine J_bipush E (-10) dX7_two_21 (by decide) ?_
    exact J_iret E hr dX7_two_23 ⟨o63, k64, trivial, f65⟩
  refine J_aload_n E dX7_two_0 0 rfl ?_
  refine J_getR E in_X7 rfl (S_X7.h S0) 0 (by decide) wd308 rfl dX7_two_1 ?_
  refine J_iload_n E dX7_two_4 1 rfl ?_
  refine J_callVNI E cal_X6_hasThing wd588 rfl (S_X6.h (S_X7.f0 S0)) [.int x_0] [] (ct_X6_hasThing l D dA G v w (hOk) (rf G h0 0) (S_X7.f0 S0) x_0) rfl rfl (Nat.le_of_ble_eq_true rfl) ⟨rfl, rfl⟩ ⟨Nat.le_of_ble_eq_true rfl, Nat.le_of_ble_eq_true rfl⟩ dX7_two_5 (fun x70 v67 w68 p69 => ?_)
  rw [p69.1, p69.2.1]
  have b71 : Bd x70 0 1 := p69.2.2.1
  refine J_if_eq E 16 dX7_two_8 (by decide) (fun c72 => ?_) (fun c72 => ?_)
  · have b73 : Bd x70 0 0 := Bd.eq_l c72 b71 (Bd.lit 0 0 (by decide)) 0 0 (by decide)
    exact J.sub [0] rfl (J16)
  · have b74 : Bd x70 1 1 := (Bd.ne_lo c72 b71 (Bd.lit 0 0 (by decide))).w _ _ (by decide)
    have b75 : Bd x_0 0 6 := (p69.2.2.2.1).resolve_left c72
    refine J_iload_n E dX7_two_11 2 rfl ?_
    refine J_iconst E (-1) dX7_two_12 (by decide) ?_
    refine J_icmp_ge E 24 dX7_two_13 (by decide) (fun c76 => ?_) (fun c76 => ?_)
    · have b77 : Bd x_1 (-1) I1 := Bd.le_r c76 (Bd.lit (-1) (-1) (by decide)) (Bd.any x_1) (-1) (by decide)
      refine J_iconst E 0 dX7_two_24 (by decide) ?_
      refine J_istore_n E [(3, .int 0), (0, .ref h0), (1, .int x_0), (2, .int x_1)] dX7_two_25 rfl (by decide) rfl ?_
      refine J_iconst E 0 dX7_two_26 (by decide) ?_
      refine J_istore E [(4, .int 0), (3, .int 0), (0, .ref h0), (1, .int x_0), (2, .int x_1)] dX7_two_27 (by decide) rfl ?_
      exact J.sub [2, 3, 4, 1, 0] rfl (J29 8 b75 b77 0 0 ((Bd.lit 0 0 (by decide)).w 0 7 (by decide)) (Mu.start _ (Bd.lit 0 0 (by decide)) (by decide)))
    · have b78 : Bd x_1 I0 (-2) := Bd.lt_l (nle c76) (Bd.any x_1) (Bd.lit (-1) (-1) (by decide)) (-2) (by decide)
      exact J.sub [0] rfl (J16)

def K_X7_seen_c1 (G : Gm) (w : Mw) (h0 : Nat) (v1 : Mv) (x4 : Int32) : Int32 × Mv :=
  (x4, v1)
def K_X7_seen_41 (G : Gm) (w : Mw) (h0 : Nat) (v : Mv) : Int32 × Mv :=
  K_X7_seen_c1 G w h0 ((F_X7_bad G w v h0).2) ((F_X7_bad G w v h0).1)
def K_X7_seen_c2 (G : Gm) (w : Mw) (h0 : Nat) (v70 : Mv) (x73 : Int32) : Int32 × Mv :=
  (x73, v70)
def K_X7_seen_c3 (G : Gm) (w : Mw) (h0 : Nat) (v81 : Mv) (x84 : Int32) : Int32 × Mv :=
  (x84, v81)
def K_X7_seen_e (G : Gm) (w : Mw) (v : Mv) (h0 : Nat) (x_0 : Int32) (x_1 : Int32) (x_2 : Int32) (x_3 : Int32) : Int32 × Mv :=
  if (F_X6_hasOne G w v (rf G h0 0) x_0) = (0 : Int32) then (K_X7_seen_41 G w h0 v) else (if (F_X7_isWithin G w v x_1 (0 : Int32) (99 : Int32)) = (0 : Int32) then (K_X7_seen_41 G w h0 v) else (if (F_X7_isWithin G w v x_2 (0 : Int32) (60 : Int32)) = (0 : Int32) then (K_X7_seen_41 G w h0 v) else (if (F_X7_isWithin G w v x_3 (0 : Int32) (1 : Int32)) = (0 : Int32) then (K_X7_seen_41 G w h0 v) else (if (F_X4_isFull_5 G w v (rf G (rf G h0 0) 9)) = (0 : Int32) then (K_X7_seen_c2 G w h0 ((F_X4_add_5 G w v (rf G (rf G h0 0) 9) x_0 x_1 x_2 x_3).2) ((F_X4_add_5 G w v (rf G (rf G h0 0) 9) x_0 x_1 x_2 x_3).1)) else (K_X7_seen_c3 G w h0 ((F_X7_full G w v h0).2) ((F_X7_full G w v h0).1))))))
def F_X7_seen (G : Gm) (w : Mw) (v : Mv) (h0 : Nat) (x_0 : Int32) (x_1 : Int32) (x_2 : Int32) (x_3 : Int32) : Int32 × Mv := K_X7_seen_e G w v h0 x_0 x_1 x_2 x_3
set_option maxRecDepth 100000 in
theorem kx_X7_seen_1 {G : Gm} {w : Mw} {h0 : Nat} {v : Mv} {v1 : Mv} {x4 : Int32} (a0 : x4 = (F_X7_bad G w v h0).1) (a1 : v1 = (F_X7_bad G w v h0).2)  : K_X7_seen_41 G w h0 v = K_X7_seen_c1 G w h0 v1 x4 := by
  subst a1; subst a0; first | rw [K_X7_seen_41] | simp only [K_X7_seen_41]
set_option maxRecDepth 100000 in
theorem kx_X7_seen_2 {G : Gm} {w : Mw} {h0 : Nat} {v1 : Mv} {x4 : Int32}   : K_X7_seen_c1 G w h0 v1 x4 = (x4, v1) := by
  first | rw [K_X7_seen_c1] | simp only [K_X7_seen_c1]
set_option maxRecDepth 100000 in
theorem kx_X7_seen_3 {G : Gm} {w : Mw} {v : Mv} {h0 : Nat} {x_0 : Int32} {x_1 : Int32} {x_2 : Int32} {x_3 : Int32} {x14 : Int32} (a0 : x14 = F_X6_hasOne G w v (rf G h0 0) x_0) (k0 : x14 = (0 : Int32)) : K_X7_seen_e G w v h0 x_0 x_1 x_2 x_3 = K_X7_seen_41 G w h0 v := by
  subst a0; first | rw [K_X7_seen_e, if_pos k0] | simp only [K_X7_seen_e, if_pos k0]
set_option maxRecDepth 100000 in
theorem kx_X7_seen_4 {G : Gm} {w : Mw} {v : Mv} {h0 : Nat} {x_0 : Int32} {x_1 : Int32} {x_2 : Int32} {x_3 : Int32} {x14 : Int32} {x24 : Int32} (a0 : x14 = F_X6_hasOne G w v (rf G h0 0) x_0) (a1 : x24 = F_X7_isWithin G w v x_1 (0 : Int32) (99 : Int32)) (k0 : ¬ (x14 = (0 : Int32))) (k1 : x24 = (0 : Int32)) : K_X7_seen_e G w v h0 x_0 x_1 x_2 x_3 = K_X7_seen_41 G w h0 v := by
  subst a1; subst a0; first | rw [K_X7_seen_e, if_neg k0, if_pos k1] | simp only [K_X7_seen_e, if_neg k0, if_pos k1]
set_option maxRecDepth 100000 in
theorem kx_X7_seen_5 {G : Gm} {w : Mw} {v : Mv} {h0 : Nat} {x_0 : Int32} {x_1 : Int32} {x_2 : Int32} {x_3 : Int32} {x14 : Int32} {x24 : Int32} {x37 : Int32} (a0 : x14 = F_X6_hasOne G w v (rf G h0 0) x_0) (a1 : x24 = F_X7_isWithin G w v x_1 (0 : Int32) (99 : Int32)) (a2 : x37 = F_X7_isWithin G w v x_2 (0 : Int32) (60 : Int32)) (k0 : ¬ (x14 = (0 : Int32))) (k1 : ¬ (x24 = (0 : Int32))) (k2 : x37 = (0 : Int32)) : K_X7_seen_e G w v h0 x_0 x_1 x_2 x_3 = K_X7_seen_41 G w h0 v := by
  subst a2; subst a1; subst a0; first | rw [K_X7_seen_e, if_neg k0, if_neg k1, if_pos k2] | simp only [K_X7_seen_e, if_neg k0, if_neg k1, if_pos k2]
set_option maxRecDepth 100000 in
theorem kx_X7_seen_6 {G : Gm} {w : Mw} {v : Mv} {h0 : Nat} {x_0 : Int32} {x_1 : Int32} {x_2 : Int32} {x_3 : Int32} {v70 : Mv} {x73 : Int32} {x14 : Int32} {x24 : Int32} {x37 : Int32} {x50 : Int32} {x61 : Int32} (a0 : x14 = F_X6_hasOne G w v (rf G h0 0) x_0) (a1 : x24 = F_X7_isWithin G w v x_1 (0 : Int32) (99 : Int32)) (a2 : x37 = F_X7_isWithin G w v x_2 (0 : Int32) (60 : Int32)) (a3 : x50 = F_X7_isWithin G w v x_3 (0 : Int32) (1 : Int32)) (a4 : x61 = F_X4_isFull_5 G w v (rf G (rf G h0 0) 9)) (a5 : x73 = (F_X4_add_5 G w v (rf G (rf G h0 0) 9) x_0 x_1 x_2 x_3).1) (a6 : v70 = (F_X4_add_5 G w v (rf G (rf G h0 0) 9) x_0 x_1 x_2 x_3).2) (k0 : ¬ (x14 = (0 : Int32))) (k1 : ¬ (x24 = (0 : Int32))) (k2 : ¬ (x37 = (0 : Int32))) (k3 : ¬ (x50 = (0 : Int32))) (k4 : x61 = (0 : Int32)) : K_X7_seen_e G w v h0 x_0 x_1 x_2 x_3 = K_X7_seen_c2 G w h0 v70 x73 := by
  subst a6; subst a5; subst a4; subst a3; subst a2; subst a1; subst a0; first | rw [K_X7_seen_e, if_neg k0, if_neg k1, if_neg k2, if_neg k3, if_pos k4] | simp only [K_X7_seen_e, if_neg k0, if_neg k1, if_neg k2, if_neg k3, if_pos k4]
set_option maxRecDepth 100000 in
theorem kx_X7_seen_7 {G : Gm} {w : Mw} {h0 : Nat} {v70 : Mv} {x73 : Int32}   : K_X7_seen_c2 G w h0 v70 x73 = (x73, v70) := by
  first | rw [K_X7_seen_c2] | simp only [K_X7_seen_c2]
set_option maxRecDepth 100000 in
theorem kx_X7_seen_8 {G : Gm} {w : Mw} {v : Mv} {h0 : Nat} {x_0 : Int32} {x_1 : Int32} {x_2 : Int32} {x_3 : Int32} {v81 : Mv} {x84 : Int32} {x14 : Int32} {x24 : Int32} {x37 : Int32} {x50 : Int32} {x61 : Int32} (a0 : x14 = F_X6_hasOne G w v (rf G h0 0) x_0) (a1 : x24 = F_X7_isWithin G w v x_1 (0 : Int32) (99 : Int32)) (a2 : x37 = F_X7_isWithin G w v x_2 (0 : Int32) (60 : Int32)) (a3 : x50 = F_X7_isWithin G w v x_3 (0 : Int32) (1 : Int32)) (a4 : x61 = F_X4_isFull_5 G w v (rf G (rf G h0 0) 9)) (a5 : x84 = (F_X7_full G w v h0).1) (a6 : v81 = (F_X7_full G w v h0).2) (k0 : ¬ (x14 = (0 : Int32))) (k1 : ¬ (x24 = (0 : Int32))) (k2 : ¬ (x37 = (0 : Int32))) (k3 : ¬ (x50 = (0 : Int32))) (k4 : ¬ (x61 = (0 : Int32))) : K_X7_seen_e G w v h0 x_0 x_1 x_2 x_3 = K_X7_seen_c3 G w h0 v81 x84 := by
  subst a6; subst a5; subst a4; subst a3; subst a2; subst a1; subst a0; first | rw [K_X7_seen_e, if_neg k0, if_neg k1, if_neg k2, if_neg k3, if_neg k4] | simp only [K_X7_seen_e, if_neg k0, if_neg k1, if_neg k2, if_neg k3, if_neg k4]
set_option maxRecDepth 100000 in
theorem kx_X7_seen_9 {G : Gm} {w : Mw} {h0 : Nat} {v81 : Mv} {x84 : Int32}   : K_X7_seen_c3 G w h0 v81 x84 = (x84, v81) := by
  first | rw [K_X7_seen_c3] | simp only [K_X7_seen_c3]
set_option maxRecDepth 100000 in
theorem kx_X7_seen_10 {G : Gm} {w : Mw} {v : Mv} {h0 : Nat} {x_0 : Int32} {x_1 : Int32} {x_2 : Int32} {x_3 : Int32} {x14 : Int32} {x24 : Int32} {x37 : Int32} {x50 : Int32} (a0 : x14 = F_X6_hasOne G w v (rf G h0 0) x_0) (a1 : x24 = F_X7_isWithin G w v x_1 (0 : Int32) (99 : Int32)) (a2 : x37 = F_X7_isWithin G w v x_2 (0 : Int32) (60 : Int32)) (a3 : x50 = F_X7_isWithin G w v x_3 (0 : Int32) (1 : Int32)) (k0 : ¬ (x14 = (0 : Int32))) (k1 : ¬ (x24 = (0 : Int32))) (k2 : ¬ (x37 = (0 : Int32))) (k3 : x50 = (0 : Int32)) : K_X7_seen_e G w v h0 x_0 x_1 x_2 x_3 = K_X7_seen_41 G w h0 v := by
  subst a3; subst a2; subst a1; subst a0; first | rw [K_X7_seen_e, if_neg k0, if_neg k1, if_neg k2, if_pos k3] | simp only [K_X7_seen_e, if_neg k0, if_neg k1, if_neg k2, if_pos k3]
abbrev rm_X7_seen : Room := { frames := 1, cells := 0, slots := 0, locals := 25 }
set_option maxHeartbeats 4000000 in
set_option maxRecDepth 100000 in
theorem ct_X7_seen (l : Launch) (D : va_G) (dA : Nat → ClassId) (G : Gm) (v : Mv) (w : Mw) (hOk : Ok G v w) (h0 : Nat) (S0 : S_X7 G h0) (x_0 : Int32) (x_1 : Int32) (x_2 : Int32) (x_3 : Int32) : CtI l yX7_seen cX7_seen 5 (some .int) rm_X7_seen D dA G [.ref h0, .int x_0, .int x_1, .int x_2, .int x_3] v w (fun r v1 w1 => Ok G v1 w1 ∧ True ∧ True ∧ (w1 = w ∧ (r, v1) = F_X7_seen G w v h0 x_0 x_1 x_2 x_3) ∧ Fr G [4, 7, 120, 124] v v1) := by
  refine CtI.of RX7 [(0, .ref h0), (1, .int x_0), (2, .int x_1), (3, .int x_2), (4, .int x_3)] (Nat.le_of_ble_eq_true rfl) rfl (by decide) rfl ?_
  intro p e s m args below meth c E hr
  have J41 : K_X7_seen_41 G w h0 v = F_X7_seen G w v h0 x_0 x_1 x_2 x_3 → J p l e rm_X7_seen s m args below meth c 0 0 (MQ below (QcI D dA G (fun r v1 w1 => Ok G v1 w1 ∧ True ∧ True ∧ (w1 = w ∧ (r, v1) = F_X7_seen G w v h0 x_0 x_1 x_2 x_3) ∧ Fr G [4, 7, 120, 124] v v1)) args s 0 0 (dm G)) D dA G (dm G) s.heap 5 v w [(0, .ref h0)] 41 [] := by
    intro hK
    refine J_aload_n E dX7_seen_41 0 rfl ?_
    refine J_callVI E cal_X7_bad wd364 rfl (S_X7.h S0) [] [] (ct_X7_bad l D dA G v w (hOk) h0 S0) rfl rfl (Nat.le_of_ble_eq_true rfl) ⟨rfl, rfl⟩ ⟨Nat.le_of_ble_eq_true rfl, Nat.le_of_ble_eq_true rfl⟩ dX7_seen_42 (fun x4 v1 w2 p3 => ?_)
    have ew9 : w = w2 := p3.2.2.2.1.1.symm
    subst ew9
    have o5 := p3.1
    have k6 : True := trivial
    have f7 : Fr G [4, 7, 120, 124] v v1 := Fr.tr Fr.rf (p3.2.2.2.2) (by decide)
    have b8 : Bd x4 (-2) (-2) := p3.2.2.1
    have e9 : x4 = (F_X7_bad G w v h0).1 := congrArg Prod.fst (p3.2.2.2.1).2
    have e10 : v1 = (F_X7_bad G w v h0).2 := congrArg Prod.snd (p3.2.2.2.1).2
    have hK : K_X7_seen_c1 G w h0 v1 x4 = F_X7_seen G w v h0 x_0 x_1 x_2 x_3 := ((kx_X7_seen_1 (e9) (e10)).symm.trans hK)
    exact J_iret E hr dX7_seen_45 ⟨o5, k6, trivial, ⟨⟨rfl, ((kx_X7_seen_2).symm.trans hK)⟩, f7⟩⟩
  have hK : K_X7_seen_e G w v h0 x_0 x_1 x_2 x_3 = F_X7_seen G w v h0 x_0 x_1 x_2 x_3 := rfl
  refine J_aload_n E dX7_seen_0 0 rfl ?_
  refine J_getR E in_X7 rfl (S_X7.h S0) 0 (by decide) wd308 rfl dX7_seen_1 ?_
  refine J_iload_n E dX7_seen_4 1 rfl ?_
  refine J_callVNI E cal_X6_hasOne wd584 rfl (S_X6.h (S_X7.f0 S0)) [.int x_0] [] (ct_X6_hasOne l D dA G v w (hOk) (rf G h0 0) (S_X7.f0 S0) x_0) rfl rfl (Nat.le_of_ble_eq_true rfl) ⟨rfl, rfl⟩ ⟨Nat.le_of_ble_eq_true rfl, Nat.le_of_ble_eq_true rfl⟩ dX7_seen_5 (fun x14 v11 w12 p13 => ?_)
  rw [p13.1, p13.2.1]
  have b15 : Bd x14 0 1 := p13.2.2.1
  have e16 : x14 = F_X6_hasOne G w v (rf G h0 0) x_0 := (p13.2.2.2.2)
  refine J_if_eq E 41 dX7_seen_8 (by decide) (fun c17 => ?_) (fun c17 => ?_)
  · have b18 : Bd x14 0 0 := Bd.eq_l c17 b15 (Bd.lit 0 0 (by decide)) 0 0 (by decide)
    exact J.sub [0] rfl (J41 ((kx_X7_seen_3 (e16) (c17)).symm.trans hK))
  · have b19 : Bd x14 1 1 := (Bd.ne_lo c17 b15 (Bd.lit 0 0 (by decide))).w _ _ (by decide)
    have b20 : Bd x_0 0 6 := (p13.2.2.2.1).resolve_left c17
    refine J_iload_n E dX7_seen_11 2 rfl ?_
    refine J_iconst E 0 dX7_seen_12 (by decide) ?_
    refine J_bipush E 99 dX7_seen_13 (by decide) ?_
    refine J_callSI E cal_X7_isWithin wd361 [.int x_1, .int 0, .int 99] [] (ct_X7_isWithin l D dA G v w (hOk) x_1 0 99) rfl rfl (Nat.le_of_ble_eq_true rfl) ⟨rfl, rfl⟩ ⟨Nat.le_of_ble_eq_true rfl, Nat.le_of_ble_eq_true rfl⟩ dX7_seen_15 (fun x24 v21 w22 p23 => ?_)
    rw [p23.1, p23.2.1]
    have b25 : Bd x24 0 1 := p23.2.2.1
    have e26 : x24 = F_X7_isWithin G w v x_1 (0 : Int32) (99 : Int32) := (p23.2.2.2.2.2)
    refine J_if_eq E 41 dX7_seen_18 (by decide) (fun c27 => ?_) (fun c27 => ?_)
    · have b28 : Bd x24 0 0 := Bd.eq_l c27 b25 (Bd.lit 0 0 (by decide)) 0 0 (by decide)
      have g29 : ¬ (0 ≤ x_1 ∧ x_1 ≤ 99) := (p23.2.2.2.2.1).resolve_left (fun h9 => h9 c27)
      exact J.sub [0] rfl (J41 ((kx_X7_seen_4 (e16) (e26) (c17) (c27)).symm.trans hK))
    · have b30 : Bd x24 1 1 := (Bd.ne_lo c27 b25 (Bd.lit 0 0 (by decide))).w _ _ (by decide)
      have g31 := (p23.2.2.2.1).resolve_left c27
      have b32 : Bd x_1 0 I1 := Bd.le_r g31.1 (Bd.lit 0 0 (by decide)) (Bd.any x_1) 0 (by decide)
      have b33 : Bd x_1 0 99 := Bd.le_l g31.2 b32 (Bd.lit 99 99 (by decide)) 99 (by decide)
      refine J_iload_n E dX7_seen_21 3 rfl ?_
      refine J_iconst E 0 dX7_seen_22 (by decide) ?_
      refine J_bipush E 60 dX7_seen_23 (by decide) ?_
      refine J_callSI E cal_X7_isWithin wd361 [.int x_2, .int 0, .int 60] [] (ct_X7_isWithin l D dA G v w (hOk) x_2 0 60) rfl rfl (Nat.le_of_ble_eq_true rfl) ⟨rfl, rfl⟩ ⟨Nat.le_of_ble_eq_true rfl, Nat.le_of_ble_eq_true rfl⟩ dX7_seen_25 (fun x37 v34 w35 p36 => ?_)
      rw [p36.1, p36.2.1]
      have b38 : Bd x37 0 1 := p36.2.2.1
      have e39 : x37 = F_X7_isWithin G w v x_2 (0 : Int32) (60 : Int32) := (p36.2.2.2.2.2)
      refine J_if_eq E 41 dX7_seen_28 (by decide) (fun c40 => ?_) (fun c40 => ?_)
      · have b41 : Bd x37 0 0 := Bd.eq_l c40 b38 (Bd.lit 0 0 (by decide)) 0 0 (by decide)
        have g42 : ¬ (0 ≤ x_2 ∧ x_2 ≤ 60) := (p36.2.2.2.2.1).resolve_left (fun h9 => h9 c40)
        exact J.sub [0] rfl (J41 ((kx_X7_seen_5 (e16) (e26) (e39) (c17) (c27) (c40)).symm.trans hK))
      · have b43 : Bd x37 1 1 := (Bd.ne_lo c40 b38 (Bd.lit 0 0 (by decide))).w _ _ (by decide)
        have g44 := (p36.2.2.2.1).resolve_left c40
        have b45 : Bd x_2 0 I1 := Bd.le_r g44.1 (Bd.lit 0 0 (by decide)) (Bd.any x_2) 0 (by decide)
        have b46 : Bd x_2 0 60 := Bd.le_l g44.2 b45 (Bd.lit 60 60 (by decide)) 60 (by decide)
        refine J_iload E dX7_seen_31 4 rfl ?_
        refine J_iconst E 0 dX7_seen_33 (by decide) ?_
        refine J_iconst E 1 dX7_seen_34 (by decide) ?_
        refine J_callSI E cal_X7_isWithin wd361 [.int x_3, .int 0, .int 1] [] (ct_X7_isWithin l D dA G v w (hOk) x_3 0 1) rfl rfl (Nat.le_of_ble_eq_true rfl) ⟨rfl, rfl⟩ ⟨Nat.le_of_ble_eq_true rfl, Nat.le_of_ble_eq_true rfl⟩ dX7_seen_35 (fun x50 v47 w48 p49 => ?_)
        rw [p49.1, p49.2.1]
        have b51 : Bd x50 0 1 := p49.2.2.1
        have e52 : x50 = F_X7_isWithin G w v x_3 (0 : Int32) (1 : Int32) := (p49.2.2.2.2.2)
        refine J_if_ne E 46 dX7_seen_38 (by decide) (fun c53 => ?_) (fun c53 => ?_)
        · have b54 : Bd x50 1 1 := (Bd.ne_lo c53 b51 (Bd.lit 0 0 (by decide))).w _ _ (by decide)
          have g55 := (p49.2.2.2.1).resolve_left c53
          have b56 : Bd x_3 0 I1 := Bd.le_r g55.1 (Bd.lit 0 0 (by decide)) (Bd.any x_3) 0 (by decide)
          have b57 : Bd x_3 0 1 := Bd.le_l g55.2 b56 (Bd.lit 1 1 (by decide)) 1 (by decide)
          refine J_aload_n E dX7_seen_46 0 rfl ?_
          refine J_getR E in_X7 rfl (S_X7.h S0) 0 (by decide) wd308 rfl dX7_seen_47 ?_
          refine J_getRN E in_X6 rfl (S_X6.h (S_X7.f0 S0)) 9 (by decide) wd214 rfl dX7_seen_50 ?_
          refine J_callVNI E cal_X4_isFull wd731 rfl (S_X4.h (S_X6.f9 (S_X7.f0 S0))) [] [] (ct_X4_isFull_5 l D dA G v w (hOk) (rf G (rf G h0 0) 9) (S_X6.f9 (S_X7.f0 S0))) rfl rfl (Nat.le_of_ble_eq_true rfl) ⟨rfl, rfl⟩ ⟨Nat.le_of_ble_eq_true rfl, Nat.le_of_ble_eq_true rfl⟩ dX7_seen_53 (fun x61 v58 w59 p60 => ?_)
          rw [p60.1, p60.2.1]
          have b62 : Bd x61 0 1 := p60.2.2.1
          have e63 : x61 = F_X4_isFull_5 G w v (rf G (rf G h0 0) 9) := (p60.2.2.2.2)
          refine J_if_eq E 64 dX7_seen_56 (by decide) (fun c64 => ?_) (fun c64 => ?_)
          · have b65 : Bd x61 0 0 := Bd.eq_l c64 b62 (Bd.lit 0 0 (by decide)) 0 0 (by decide)
            obtain ⟨x66, e67⟩ : ∃ z : Int32, z = v (rf G (rf G h0 0) 9) 2 := ⟨_, rfl⟩
            have b68 : Bd x66 0 5 := Ok.fd hOk e67 (S_X4.h (S_X6.f9 (S_X7.f0 S0))) rfl
            have b69 : Bd x66 0 4 := Bd.e ((p60.2.2.2.1).resolve_left (fun h9 => h9 c64)) e67
            refine J_aload_n E dX7_seen_64 0 rfl ?_
            refine J_getR E in_X7 rfl (S_X7.h S0) 0 (by decide) wd308 rfl dX7_seen_65 ?_
            refine J_getRN E in_X6 rfl (S_X6.h (S_X7.f0 S0)) 9 (by decide) wd214 rfl dX7_seen_68 ?_
            refine J_iload_n E dX7_seen_71 1 rfl ?_
            refine J_iload_n E dX7_seen_72 2 rfl ?_
            refine J_iload_n E dX7_seen_73 3 rfl ?_
            refine J_iload E dX7_seen_74 4 rfl ?_
            refine J_callVNI E cal_X4_add wd735 rfl (S_X4.h (S_X6.f9 (S_X7.f0 S0))) [.int x_0, .int x_1, .int x_2, .int x_3] [] (ct_X4_add_5 l D dA G v w (hOk) (rf G (rf G h0 0) 9) (S_X6.f9 (S_X7.f0 S0)) x_0 b20 x_1 b33 x_2 b46 x_3 b57 x66 (e67) b69) rfl rfl (Nat.le_of_ble_eq_true rfl) ⟨rfl, rfl⟩ ⟨Nat.le_of_ble_eq_true rfl, Nat.le_of_ble_eq_true rfl⟩ dX7_seen_76 (fun x73 v70 w71 p72 => ?_)
            have ew9 : w = w71 := p72.2.2.2.1.1.symm
            subst ew9
            have o74 := p72.1
            have k75 : True := trivial
            have f76 : Fr G [4, 7, 120, 124] v v70 := Fr.tr Fr.rf (p72.2.2.2.2) (by decide)
            have b77 : Bd x73 1 5 := p72.2.2.1
            have e78 : x73 = (F_X4_add_5 G w v (rf G (rf G h0 0) 9) x_0 x_1 x_2 x_3).1 := congrArg Prod.fst (p72.2.2.2.1).2
            have e79 : v70 = (F_X4_add_5 G w v (rf G (rf G h0 0) 9) x_0 x_1 x_2 x_3).2 := congrArg Prod.snd (p72.2.2.2.1).2
            have hK : K_X7_seen_c2 G w h0 v70 x73 = F_X7_seen G w v h0 x_0 x_1 x_2 x_3 := ((kx_X7_seen_6 (e16) (e26) (e39) (e52) (e63) (e78) (e79) (c17) (c27) (c40) (c53) (c64)).symm.trans hK)
            exact J_iret E hr dX7_seen_79 ⟨o74, k75, trivial, ⟨⟨rfl, ((kx_X7_seen_7).symm.trans hK)⟩, f76⟩⟩
          · have b80 : Bd x61 1 1 := (Bd.ne_lo c64 b62 (Bd.lit 0 0 (by decide))).w _ _ (by decide)
            refine J_aload_n E dX7_seen_59 0 rfl ?_
            refine J_callVI E cal_X7_full wd368 rfl (S_X7.h S0) [] [] (ct_X7_full l D dA G v w (hOk) h0 S0) rfl rfl (Nat.le_of_ble_eq_true rfl) ⟨rfl, rfl⟩ ⟨Nat.le_of_ble_eq_true rfl, Nat.le_of_ble_eq_true rfl⟩ dX7_seen_60 (fun x84 v81 w82 p83 => ?_)
            have ew9 : w = w82 := p83.2.2.2.1.1.symm
            subst ew9
            have o85 := p83.1
            have k86 : True := trivial
            have f87 : Fr G [4, 7, 120, 124] v v81 := Fr.tr Fr.rf (p83.2.2.2.2) (by decide)
            have b88 : Bd x84 (-4) (-4) := p83.2.2.1
            have e89 : x84 = (F_X7_full G w v h0).1 := congrArg Prod.fst (p83.2.2.2.1).2
            have e90 : v81 = (F_X7_full G w v h0).2 := congrArg Prod.snd (p83.2.2.2.1).2
            have hK : K_X7_seen_c3 G w h0 v81 x84 = F_X7_seen G w v h0 x_0 x_1 x_2 x_3 := ((kx_X7_seen_8 (e16) (e26) (e39) (e52) (e63) (e89) (e90) (c17) (c27) (c40) (c53) (c64)).symm.trans hK)
            exact J_iret E hr dX7_seen_63 ⟨o85, k86, trivial, ⟨⟨rfl, ((kx_X7_seen_9).symm.trans hK)⟩, f87⟩⟩
        · have b91 : Bd x50 0 0 := Bd.eq_l c53 b51 (Bd.lit 0 0 (by decide)) 0 0 (by decide)
          have g92 : ¬ (0 ≤ x_3 ∧ x_3 ≤ 1) := (p49.2.2.2.2.1).resolve_left (fun h9 => h9 c53)
          exact J.sub [0] rfl (J41 ((kx_X7_seen_10 (e16) (e26) (e39) (e52) (c17) (c27) (c40) (c53)).symm.trans hK))

def K_X7_leastBit_2 (G : Gm) (w : Mw) : Nat → Mv → Int32 → Int32 → Int32
  | 0, _, _, _ => (0 : Int32)
  | n2 + 1, v, x_0, x1 =>
    if (9 : Int32) < x1 then ((-1 : Int32)) else (if ((x_0 >>> (x1 &&& 31)) &&& (1 : Int32)) = (1 : Int32) then (x1) else ((K_X7_leastBit_2 G w n2) v x_0 (x1 + (1 : Int32))))
def K_X7_leastBit_e (G : Gm) (w : Mw) (v : Mv) (x_0 : Int32) : Int32 :=
  K_X7_leastBit_2 G w 11 v x_0 (0 : Int32)
def F_X7_leastBit (G : Gm) (w : Mw) (v : Mv) (x_0 : Int32) : Int32 := K_X7_leastBit_e G w v x_0
set_option maxRecDepth 100000 in
theorem kx_X7_leastBit_1 {G : Gm} {w : Mw} {n2 : Nat} {v : Mv} {x_0 : Int32} {x1 : Int32}  (k0 : (9 : Int32) < x1) : K_X7_leastBit_2 G w (n2 + 1) v x_0 x1 = (-1 : Int32) := by
  first | rw [K_X7_leastBit_2, if_pos k0] | simp only [K_X7_leastBit_2, if_pos k0]
set_option maxRecDepth 100000 in
theorem kx_X7_leastBit_2 {G : Gm} {w : Mw} {n2 : Nat} {v : Mv} {x_0 : Int32} {x1 : Int32} {x13 : Int32} {x6 : Int32} {x8 : Int32} (a0 : x6 = x_0 >>> (x1 &&& 31)) (a1 : x8 = x6 &&& (1 : Int32)) (a2 : x13 = x1 + (1 : Int32)) (k0 : ¬ ((9 : Int32) < x1)) (k1 : ¬ (x8 = (1 : Int32))) : K_X7_leastBit_2 G w (n2 + 1) v x_0 x1 = (K_X7_leastBit_2 G w n2) v x_0 x13 := by
  subst a2; subst a1; subst a0; first | rw [K_X7_leastBit_2, if_neg k0, if_neg k1] | simp only [K_X7_leastBit_2, if_neg k0, if_neg k1]
set_option maxRecDepth 100000 in
theorem kx_X7_leastBit_3 {G : Gm} {w : Mw} {n2 : Nat} {v : Mv} {x_0 : Int32} {x1 : Int32} {x6 : Int32} {x8 : Int32} (a0 : x6 = x_0 >>> (x1 &&& 31)) (a1 : x8 = x6 &&& (1 : Int32)) (k0 : ¬ ((9 : Int32) < x1)) (k1 : x8 = (1 : Int32)) : K_X7_leastBit_2 G w (n2 + 1) v x_0 x1 = x1 := by
  subst a1; subst a0; first | rw [K_X7_leastBit_2, if_neg k0, if_pos k1] | simp only [K_X7_leastBit_2, if_neg k0, if_pos k1]
set_option maxRecDepth 100000 in
theorem kx_X7_leastBit_4 {G : Gm} {w : Mw} {v : Mv} {x_0 : Int32}   : K_X7_leastBit_e G w v x_0 = K_X7_leastBit_2 G w 11 v x_0 (0 : Int32) := by
  first | rw [K_X7_leastBit_e] | simp only [K_X7_leastBit_e]
abbrev rm_X7_leastBit : Room := { frames := 0, cells := 0, slots := 0, locals := 0 }
set_option maxHeartbeats 4000000 in
set_option maxRecDepth 100000 in
theorem ct_X7_leastBit (l : Launch) (D : va_G) (dA : Nat → ClassId) (G : Gm) (v : Mv) (w : Mw) (hOk : Ok G v w) (x_0 : Int32) : CtI l yX7_leastBit cX7_leastBit 2 (some .int) rm_X7_leastBit D dA G [.int x_0] v w (fun r v1 w1 => v1 = v ∧ w1 = w ∧ Bd r (-1) 9 ∧ r = F_X7_leastBit G w v x_0) := by
  refine CtI.of RX7 [(0, .int x_0)] (Nat.le_of_ble_eq_true rfl) rfl (by decide) rfl ?_
  intro p e s m args below meth c E hr
  have J2 : ∀ n2 : Nat, ∀ x1 : Int32, Bd x1 0 10 → Mu x1 10 n2 → K_X7_leastBit_2 G w n2 v x_0 x1 = F_X7_leastBit G w v x_0 → J p l e rm_X7_leastBit s m args below meth c 0 0 (MQ below (QcI D dA G (fun r v1 w1 => v1 = v ∧ w1 = w ∧ Bd r (-1) 9 ∧ r = F_X7_leastBit G w v x_0)) args s 0 0 (dm G)) D dA G (dm G) s.heap 2 v w [(0, .int x_0), (1, .int x1)] 2 [] := by
    intro n2
    induction n2 with
    | zero => intro x1 b2 hm hK; exact hm.zero b2 (by decide)
    | succ n2 ih2 =>
      intro x1 b2 hmu2 hK
      refine J_iload_n E dX7_leastBit_2 1 rfl ?_
      refine J_bipush E 9 dX7_leastBit_3 (by decide) ?_
      refine J_icmp_gt E 25 dX7_leastBit_5 (by decide) (fun c3 => ?_) (fun c3 => ?_)
      · have b4 : Bd x1 10 10 := Bd.lt_r c3 (Bd.lit 9 9 (by decide)) b2 10 (by decide)
        refine J_iconst E (-1) dX7_leastBit_25 (by decide) ?_
        exact J_iret E hr dX7_leastBit_26 ⟨rfl, rfl, ((Bd.lit (-1) (-1) (by decide)).w (-1) 9 (by decide)), ((kx_X7_leastBit_1 (c3)).symm.trans hK)⟩
      · have b5 : Bd x1 0 9 := Bd.le_l (nlt c3) b2 (Bd.lit 9 9 (by decide)) 9 (by decide)
        refine J_iload_n E dX7_leastBit_8 0 rfl ?_
        refine J_iload_n E dX7_leastBit_9 1 rfl ?_
        refine J_ishr E dX7_leastBit_10 (fun x6 e7 => ?_)
        refine J_iconst E 1 dX7_leastBit_11 (by decide) ?_
        refine J_iand E dX7_leastBit_12 (fun x8 e9 => ?_)
        have b10 : Bd x8 0 1 := Bd.and_r e9 (Bd.lit 1 1 (by decide)) (by decide)
        refine J_iconst E 1 dX7_leastBit_13 (by decide) ?_
        refine J_icmp_ne E 19 dX7_leastBit_14 (by decide) (fun c11 => ?_) (fun c11 => ?_)
        · have b12 : Bd x8 0 0 := (Bd.ne_hi c11 b10 (Bd.lit 1 1 (by decide))).w _ _ (by decide)
          refine J_iinc E 1 1 (fun z => [(1, .int z), (0, .int x_0)]) dX7_leastBit_19 rfl (by decide) (by decide) (fun _ => rfl) (fun x13 e14 => ?_)
          have b15 : Bd x13 1 10 := (Bd.add e14 b5 (Bd.lit 1 1 (by decide)) (by decide)).w _ _ (by decide)
          refine J_goto E 2 dX7_leastBit_22 (by decide) ?_
          exact J.sub [1, 0] rfl (ih2 x13 (b15.w 0 10 (by decide)) (Mu.step hmu2 e14 b5 (Bd.lit 1 1 (by decide)) (by decide)) ((kx_X7_leastBit_2 (e7) (e9) (e14) (c3) (c11)).symm.trans hK))
        · have b16 : Bd x8 1 1 := Bd.eq_l c11 b10 (Bd.lit 1 1 (by decide)) 1 1 (by decide)
          refine J_iload_n E dX7_leastBit_17 1 rfl ?_
          exact J_iret E hr dX7_leastBit_18 ⟨rfl, rfl, (b5.w (-1) 9 (by decide)), ((kx_X7_leastBit_3 (e7) (e9) (c3) (c11)).symm.trans hK)⟩
  have hK : K_X7_leastBit_e G w v x_0 = F_X7_leastBit G w v x_0 := rfl
  refine J_iconst E 0 dX7_leastBit_0 (by decide) ?_
  refine J_istore_n E [(1, .int 0), (0, .int x_0)] dX7_leastBit_1 rfl (by decide) rfl ?_
  exact J.sub [1, 0] rfl (J2 11 0 ((Bd.lit 0 0 (by decide)).w 0 10 (by decide)) (Mu.start _ (Bd.lit 0 0 (by decide)) (by decide)) ((kx_X7_leastBit_4).symm.trans hK))

def K_X7_greatestBit_3 (G : Gm) (w : Mw) : Nat → Mv → Int32 → Int32 → Int32
  | 0, _, _, _ => (0 : Int32)
  | n3 + 1, v, x_0, x1 =>
    if x1 < (0 : Int32) then ((-1 : Int32)) else (if ((x_0 >>> (x1 &&& 31)) &&& (1 : Int32)) = (1 : Int32) then (x1) else ((K_X7_greatestBit_3 G w n3) v x_0 (x1 + (-1 : Int32))))
def K_X7_greatestBit_e (G : Gm) (w : Mw) (v : Mv) (x_0 : Int32) : Int32 :=
  K_X7_greatestBit_3 G w 11 v x_0 (9 : Int32)
def F_X7_greatestBit (G : Gm) (w : Mw) (v : Mv) (x_0 : Int32) : Int32 := K_X7_greatestBit_e G w v x_0
set_option maxRecDepth 100000 in
theorem kx_X7_greatestBit_1 {G : Gm} {w : Mw} {n3 : Nat} {v : Mv} {x_0 : Int32} {x1 : Int32}  (k0 : x1 < (0 : Int32)) : K_X7_greatestBit_3 G w (n3 + 1) v x_0 x1 = (-1 : Int32) := by
  first | rw [K_X7_greatestBit_3, if_pos k0] | simp only [K_X7_greatestBit_3, if_pos k0]
set_option maxRecDepth 100000 in
theorem kx_X7_greatestBit_2 {G : Gm} {w : Mw} {n3 : Nat} {v : Mv} {x_0 : Int32} {x1 : Int32} {x13 : Int32} {x6 : Int32} {x8 : Int32} (a0 : x6 = x_0 >>> (x1 &&& 31)) (a1 : x8 = x6 &&& (1 : Int32)) (a2 : x13 = x1 + (-1 : Int32)) (k0 : ¬ (x1 < (0 : Int32))) (k1 : ¬ (x8 = (1 : Int32))) : K_X7_greatestBit_3 G w (n3 + 1) v x_0 x1 = (K_X7_greatestBit_3 G w n3) v x_0 x13 := by
  subst a2; subst a1; subst a0; first | rw [K_X7_greatestBit_3, if_neg k0, if_neg k1] | simp only [K_X7_greatestBit_3, if_neg k0, if_neg k1]
set_option maxRecDepth 100000 in
theorem kx_X7_greatestBit_3 {G : Gm} {w : Mw} {n3 : Nat} {v : Mv} {x_0 : Int32} {x1 : Int32} {x6 : Int32} {x8 : Int32} (a0 : x6 = x_0 >>> (x1 &&& 31)) (a1 : x8 = x6 &&& (1 : Int32)) (k0 : ¬ (x1 < (0 : Int32))) (k1 : x8 = (1 : Int32)) : K_X7_greatestBit_3 G w (n3 + 1) v x_0 x1 = x1 := by
  subst a1; subst a0; first | rw [K_X7_greatestBit_3, if_neg k0, if_pos k1] | simp only [K_X7_greatestBit_3, if_neg k0, if_pos k1]
set_option maxRecDepth 100000 in
theorem kx_X7_greatestBit_4 {G : Gm} {w : Mw} {v : Mv} {x_0 : Int32}   : K_X7_greatestBit_e G w v x_0 = K_X7_greatestBit_3 G w 11 v x_0 (9 : Int32) := by
  first | rw [K_X7_greatestBit_e] | simp only [K_X7_greatestBit_e]
abbrev rm_X7_greatestBit : Room := { frames := 0, cells := 0, slots := 0, locals := 0 }
set_option maxHeartbeats 4000000 in
set_option maxRecDepth 100000 in
theorem ct_X7_greatestBit (l : Launch) (D : va_G) (dA : Nat → ClassId) (G : Gm) (v : Mv) (w : Mw) (hOk : Ok G v w) (x_0 : Int32) : CtI l yX7_greatestBit cX7_greatestBit 2 (some .int) rm_X7_greatestBit D dA G [.int x_0] v w (fun r v1 w1 => v1 = v ∧ w1 = w ∧ Bd r (-1) 9 ∧ r = F_X7_greatestBit G w v x_0) := by
  refine CtI.of RX7 [(0, .int x_0)] (Nat.le_of_ble_eq_true rfl) rfl (by decide) rfl ?_
  intro p e s m args below meth c E hr
  have J3 : ∀ n3 : Nat, ∀ x1 : Int32, Bd x1 (-1) 9 → Md x1 (-1) n3 → K_X7_greatestBit_3 G w n3 v x_0 x1 = F_X7_greatestBit G w v x_0 → J p l e rm_X7_greatestBit s m args below meth c 0 0 (MQ below (QcI D dA G (fun r v1 w1 => v1 = v ∧ w1 = w ∧ Bd r (-1) 9 ∧ r = F_X7_greatestBit G w v x_0)) args s 0 0 (dm G)) D dA G (dm G) s.heap 2 v w [(0, .int x_0), (1, .int x1)] 3 [] := by
    intro n3
    induction n3 with
    | zero => intro x1 b2 hm hK; exact hm.zero b2 (by decide)
    | succ n3 ih3 =>
      intro x1 b2 hmu3 hK
      refine J_iload_n E dX7_greatestBit_3 1 rfl ?_
      refine J_if_lt E 24 dX7_greatestBit_4 (by decide) (fun c3 => ?_) (fun c3 => ?_)
      · have b4 : Bd x1 (-1) (-1) := Bd.lt_l c3 b2 (Bd.lit 0 0 (by decide)) (-1) (by decide)
        refine J_iconst E (-1) dX7_greatestBit_24 (by decide) ?_
        exact J_iret E hr dX7_greatestBit_25 ⟨rfl, rfl, ((Bd.lit (-1) (-1) (by decide)).w (-1) 9 (by decide)), ((kx_X7_greatestBit_1 (c3)).symm.trans hK)⟩
      · have b5 : Bd x1 0 9 := Bd.le_r (nlt c3) (Bd.lit 0 0 (by decide)) b2 0 (by decide)
        refine J_iload_n E dX7_greatestBit_7 0 rfl ?_
        refine J_iload_n E dX7_greatestBit_8 1 rfl ?_
        refine J_ishr E dX7_greatestBit_9 (fun x6 e7 => ?_)
        refine J_iconst E 1 dX7_greatestBit_10 (by decide) ?_
        refine J_iand E dX7_greatestBit_11 (fun x8 e9 => ?_)
        have b10 : Bd x8 0 1 := Bd.and_r e9 (Bd.lit 1 1 (by decide)) (by decide)
        refine J_iconst E 1 dX7_greatestBit_12 (by decide) ?_
        refine J_icmp_ne E 18 dX7_greatestBit_13 (by decide) (fun c11 => ?_) (fun c11 => ?_)
        · have b12 : Bd x8 0 0 := (Bd.ne_hi c11 b10 (Bd.lit 1 1 (by decide))).w _ _ (by decide)
          refine J_iinc E 1 (-1) (fun z => [(1, .int z), (0, .int x_0)]) dX7_greatestBit_18 rfl (by decide) (by decide) (fun _ => rfl) (fun x13 e14 => ?_)
          have b15 : Bd x13 (-1) 8 := (Bd.add e14 b5 (Bd.lit (-1) (-1) (by decide)) (by decide)).w _ _ (by decide)
          refine J_goto E 3 dX7_greatestBit_21 (by decide) ?_
          exact J.sub [1, 0] rfl (ih3 x13 (b15.w (-1) 9 (by decide)) (Md.step hmu3 e14 b5 (Bd.lit (-1) (-1) (by decide)) (by decide)) ((kx_X7_greatestBit_2 (e7) (e9) (e14) (c3) (c11)).symm.trans hK))
        · have b16 : Bd x8 1 1 := Bd.eq_l c11 b10 (Bd.lit 1 1 (by decide)) 1 1 (by decide)
          refine J_iload_n E dX7_greatestBit_16 1 rfl ?_
          exact J_iret E hr dX7_greatestBit_17 ⟨rfl, rfl, (b5.w (-1) 9 (by decide)), ((kx_X7_greatestBit_3 (e7) (e9) (c3) (c11)).symm.trans hK)⟩
  have hK : K_X7_greatestBit_e G w v x_0 = F_X7_greatestBit G w v x_0 := rfl
  refine J_bipush E 9 dX7_greatestBit_0 (by decide) ?_
  refine J_istore_n E [(1, .int 9), (0, .int x_0)] dX7_greatestBit_2 rfl (by decide) rfl ?_
  exact J.sub [1, 0] rfl (J3 11 9 ((Bd.lit 9 9 (by decide)).w (-1) 9 (by decide)) (Md.start _ (Bd.lit 9 9 (by decide)) (by decide)) ((kx_X7_greatestBit_4).symm.trans hK))

def K_X7_strong_c1 (G : Gm) (w : Mw) (h0 : Nat) (v1 : Mv) (x4 : Int32) : Int32 × Mv :=
  (x4, v1)
def K_X7_strong_20 (G : Gm) (w : Mw) (h0 : Nat) (v : Mv) : Int32 × Mv :=
  K_X7_strong_c1 G w h0 ((F_X7_bad G w v h0).2) ((F_X7_bad G w v h0).1)
def K_X7_strong_e (G : Gm) (w : Mw) (v : Mv) (h0 : Nat) (x_0 : Int32) (x_1 : Int32) : Int32 × Mv :=
  if (F_X6_hasOne G w v (rf G h0 0) x_0) = (0 : Int32) then (K_X7_strong_20 G w h0 v) else (if (F_X7_isWithin G w v x_1 (0 : Int32) (2 : Int32)) = (0 : Int32) then (K_X7_strong_20 G w h0 v) else (if x_1 = (0 : Int32) then (((F_J6_bitCount_0f7a4 G w v (F_X6_fittingStrengths G w v (rf G h0 0) x_0)), v)) else (if x_1 = (1 : Int32) then (((F_X7_leastBit G w v (F_X6_fittingStrengths G w v (rf G h0 0) x_0)), v)) else (((F_X7_greatestBit G w v (F_X6_fittingStrengths G w v (rf G h0 0) x_0)), v)))))
def F_X7_strong (G : Gm) (w : Mw) (v : Mv) (h0 : Nat) (x_0 : Int32) (x_1 : Int32) : Int32 × Mv := K_X7_strong_e G w v h0 x_0 x_1
set_option maxRecDepth 100000 in
theorem kx_X7_strong_1 {G : Gm} {w : Mw} {h0 : Nat} {v : Mv} {v1 : Mv} {x4 : Int32} (a0 : x4 = (F_X7_bad G w v h0).1) (a1 : v1 = (F_X7_bad G w v h0).2)  : K_X7_strong_20 G w h0 v = K_X7_strong_c1 G w h0 v1 x4 := by
  subst a1; subst a0; first | rw [K_X7_strong_20] | simp only [K_X7_strong_20]
set_option maxRecDepth 100000 in
theorem kx_X7_strong_2 {G : Gm} {w : Mw} {h0 : Nat} {v1 : Mv} {x4 : Int32}   : K_X7_strong_c1 G w h0 v1 x4 = (x4, v1) := by
  first | rw [K_X7_strong_c1] | simp only [K_X7_strong_c1]
set_option maxRecDepth 100000 in
theorem kx_X7_strong_3 {G : Gm} {w : Mw} {v : Mv} {h0 : Nat} {x_0 : Int32} {x_1 : Int32} {x14 : Int32} (a0 : x14 = F_X6_hasOne G w v (rf G h0 0) x_0) (k0 : x14 = (0 : Int32)) : K_X7_strong_e G w v h0 x_0 x_1 = K_X7_strong_20 G w h0 v := by
  subst a0; first | rw [K_X7_strong_e, if_pos k0] | simp only [K_X7_strong_e, if_pos k0]
set_option maxRecDepth 100000 in
theorem kx_X7_strong_4 {G : Gm} {w : Mw} {v : Mv} {h0 : Nat} {x_0 : Int32} {x_1 : Int32} {x45 : Int32} {x35 : Int32} {x14 : Int32} {x24 : Int32} (a0 : x14 = F_X6_hasOne G w v (rf G h0 0) x_0) (a1 : x24 = F_X7_isWithin G w v x_1 (0 : Int32) (2 : Int32)) (a2 : x35 = F_X6_fittingStrengths G w v (rf G h0 0) x_0) (a3 : x45 = F_X7_greatestBit G w v x35) (k0 : ¬ (x14 = (0 : Int32))) (k1 : ¬ (x24 = (0 : Int32))) (k2 : ¬ (x_1 = (0 : Int32))) (k3 : ¬ (x_1 = (1 : Int32))) : K_X7_strong_e G w v h0 x_0 x_1 = (x45, v) := by
  subst a3; subst a2; subst a1; subst a0; first | rw [K_X7_strong_e, if_neg k0, if_neg k1, if_neg k2, if_neg k3] | simp only [K_X7_strong_e, if_neg k0, if_neg k1, if_neg k2, if_neg k3]
set_option maxRecDepth 100000 in
theorem kx_X7_strong_5 {G : Gm} {w : Mw} {v : Mv} {h0 : Nat} {x_0 : Int32} {x_1 : Int32} {x52 : Int32} {x35 : Int32} {x14 : Int32} {x24 : Int32} (a0 : x14 = F_X6_hasOne G w v (rf G h0 0) x_0) (a1 : x24 = F_X7_isWithin G w v x_1 (0 : Int32) (2 : Int32)) (a2 : x35 = F_X6_fittingStrengths G w v (rf G h0 0) x_0) (a3 : x52 = F_X7_leastBit G w v x35) (k0 : ¬ (x14 = (0 : Int32))) (k1 : ¬ (x24 = (0 : Int32))) (k2 : ¬ (x_1 = (0 : Int32))) (k3 : x_1 = (1 : Int32)) : K_X7_strong_e G w v h0 x_0 x_1 = (x52, v) := by
  subst a3; subst a2; subst a1; subst a0; first | rw [K_X7_strong_e, if_neg k0, if_neg k1, if_neg k2, if_pos k3] | simp only [K_X7_strong_e, if_neg k0, if_neg k1, if_neg k2, if_pos k3]
set_option maxRecDepth 100000 in
theorem kx_X7_strong_6 {G : Gm} {w : Mw} {v : Mv} {h0 : Nat} {x_0 : Int32} {x_1 : Int32} {x59 : Int32} {x35 : Int32} {x14 : Int32} {x24 : Int32} (a0 : x14 = F_X6_hasOne G w v (rf G h0 0) x_0) (a1 : x24 = F_X7_isWithin G w v x_1 (0 : Int32) (2 : Int32)) (a2 : x35 = F_X6_fittingStrengths G w v (rf G h0 0) x_0) (a3 : x59 = F_J6_bitCount_0f7a4 G w v x35) (k0 : ¬ (x14 = (0 : Int32))) (k1 : ¬ (x24 = (0 : Int32))) (k2 : x_1 = (0 : Int32)) : K_X7_strong_e G w v h0 x_0 x_1 = (x59, v) := by
  subst a3; subst a2; subst a1; subst a0; first | rw [K_X7_strong_e, if_neg k0, if_neg k1, if_pos k2] | simp only [K_X7_strong_e, if_neg k0, if_neg k1, if_pos k2]
set_option maxRecDepth 100000 in
theorem kx_X7_strong_7 {G : Gm} {w : Mw} {v : Mv} {h0 : Nat} {x_0 : Int32} {x_1 : Int32} {x14 : Int32} {x24 : Int32} (a0 : x14 = F_X6_hasOne G w v (rf G h0 0) x_0) (a1 : x24 = F_X7_isWithin G w v x_1 (0 : Int32) (2 : Int32)) (k0 : ¬ (x14 = (0 : Int32))) (k1 : x24 = (0 : Int32)) : K_X7_strong_e G w v h0 x_0 x_1 = K_X7_strong_20 G w h0 v := by
  subst a1; subst a0; first | rw [K_X7_strong_e, if_neg k0, if_pos k1] | simp only [K_X7_strong_e, if_neg k0, if_pos k1]
abbrev rm_X7_strong : Room := { frames := 4, cells := 0, slots := 0, locals := 92 }
set_option maxHeartbeats 4000000 in
set_option maxRecDepth 100000 in
theorem ct_X7_strong (l : Launch) (D : va_G) (dA : Nat → ClassId) (G : Gm) (v : Mv) (w : Mw) (hOk : Ok G v w) (h0 : Nat) (S0 : S_X7 G h0) (x_0 : Int32) (x_1 : Int32) : CtI l yX7_strong cX7_strong 4 (some .int) rm_X7_strong D dA G [.ref h0, .int x_0, .int x_1] v w (fun r v1 w1 => Ok G v1 w1 ∧ Kp G v v1 ∧ True ∧ (w1 = w ∧ (r, v1) = F_X7_strong G w v h0 x_0 x_1) ∧ Fr G [7] v v1) := by
  refine CtI.of RX7 [(0, .ref h0), (1, .int x_0), (2, .int x_1)] (Nat.le_of_ble_eq_true rfl) rfl (by decide) rfl ?_
  intro p e s m args below meth c E hr
  have J20 : K_X7_strong_20 G w h0 v = F_X7_strong G w v h0 x_0 x_1 → J p l e rm_X7_strong s m args below meth c 0 0 (MQ below (QcI D dA G (fun r v1 w1 => Ok G v1 w1 ∧ Kp G v v1 ∧ True ∧ (w1 = w ∧ (r, v1) = F_X7_strong G w v h0 x_0 x_1) ∧ Fr G [7] v v1)) args s 0 0 (dm G)) D dA G (dm G) s.heap 4 v w [(0, .ref h0)] 20 [] := by
    intro hK
    refine J_aload_n E dX7_strong_20 0 rfl ?_
    refine J_callVI E cal_X7_bad wd364 rfl (S_X7.h S0) [] [] (ct_X7_bad l D dA G v w (hOk) h0 S0) rfl rfl (Nat.le_of_ble_eq_true rfl) ⟨rfl, rfl⟩ ⟨Nat.le_of_ble_eq_true rfl, Nat.le_of_ble_eq_true rfl⟩ dX7_strong_21 (fun x4 v1 w2 p3 => ?_)
    have ew9 : w = w2 := p3.2.2.2.1.1.symm
    subst ew9
    have o5 := p3.1
    have k6 : Kp G v v1 := (Kp.rf).tr p3.2.1
    have f7 : Fr G [7] v v1 := Fr.tr Fr.rf (p3.2.2.2.2) (by decide)
    have b8 : Bd x4 (-2) (-2) := p3.2.2.1
    have e9 : x4 = (F_X7_bad G w v h0).1 := congrArg Prod.fst (p3.2.2.2.1).2
    have e10 : v1 = (F_X7_bad G w v h0).2 := congrArg Prod.snd (p3.2.2.2.1).2
    have hK : K_X7_strong_c1 G w h0 v1 x4 = F_X7_strong G w v h0 x_0 x_1 := ((kx_X7_strong_1 (e9) (e10)).symm.trans hK)
    exact J_iret E hr dX7_strong_24 ⟨o5, k6, trivial, ⟨⟨rfl, ((kx_X7_strong_2).symm.trans hK)⟩, f7⟩⟩
  have hK : K_X7_strong_e G w v h0 x_0 x_1 = F_X7_strong G w v h0 x_0 x_1 := rfl
  refine J_aload_n E dX7_strong_0 0 rfl ?_
  refine J_getR E in_X7 rfl (S_X7.h S0) 0 (by decide) wd308 rfl dX7_strong_1 ?_
  refine J_iload_n E dX7_strong_4 1 rfl ?_
  refine J_callVNI E cal_X6_hasOne wd584 rfl (S_X6.h (S_X7.f0 S0)) [.int x_0] [] (ct_X6_hasOne l D dA G v w (hOk) (rf G h0 0) (S_X7.f0 S0) x_0) rfl rfl (Nat.le_of_ble_eq_true rfl) ⟨rfl, rfl⟩ ⟨Nat.le_of_ble_eq_true rfl, Nat.le_of_ble_eq_true rfl⟩ dX7_strong_5 (fun x14 v11 w12 p13 => ?_)
  rw [p13.1, p13.2.1]
  have b15 : Bd x14 0 1 := p13.2.2.1
  have e16 : x14 = F_X6_hasOne G w v (rf G h0 0) x_0 := (p13.2.2.2.2)
  refine J_if_eq E 20 dX7_strong_8 (by decide) (fun c17 => ?_) (fun c17 => ?_)
  · have b18 : Bd x14 0 0 := Bd.eq_l c17 b15 (Bd.lit 0 0 (by decide)) 0 0 (by decide)
    exact J.sub [0] rfl (J20 ((kx_X7_strong_3 (e16) (c17)).symm.trans hK))
  · have b19 : Bd x14 1 1 := (Bd.ne_lo c17 b15 (Bd.lit 0 0 (by decide))).w _ _ (by decide)
    have b20 : Bd x_0 0 6 := (p13.2.2.2.1).resolve_left c17
    refine J_iload_n E dX7_strong_11 2 rfl ?_
    refine J_iconst E 0 dX7_strong_12 (by decide) ?_
    refine J_iconst E 2 dX7_strong_13 (by decide) ?_
    refine J_callSI E cal_X7_isWithin wd361 [.int x_1, .int 0, .int 2] [] (ct_X7_isWithin l D dA G v w (hOk) x_1 0 2) rfl rfl (Nat.le_of_ble_eq_true rfl) ⟨rfl, rfl⟩ ⟨Nat.le_of_ble_eq_true rfl, Nat.le_of_ble_eq_true rfl⟩ dX7_strong_14 (fun x24 v21 w22 p23 => ?_)
    rw [p23.1, p23.2.1]
    have b25 : Bd x24 0 1 := p23.2.2.1
    have e26 : x24 = F_X7_isWithin G w v x_1 (0 : Int32) (2 : Int32) := (p23.2.2.2.2.2)
    refine J_if_ne E 25 dX7_strong_17 (by decide) (fun c27 => ?_) (fun c27 => ?_)
    · have b28 : Bd x24 1 1 := (Bd.ne_lo c27 b25 (Bd.lit 0 0 (by decide))).w _ _ (by decide)
      have g29 := (p23.2.2.2.1).resolve_left c27
      have b30 : Bd x_1 0 I1 := Bd.le_r g29.1 (Bd.lit 0 0 (by decide)) (Bd.any x_1) 0 (by decide)
      have b31 : Bd x_1 0 2 := Bd.le_l g29.2 b30 (Bd.lit 2 2 (by decide)) 2 (by decide)
      refine J_aload_n E dX7_strong_25 0 rfl ?_
      refine J_getR E in_X7 rfl (S_X7.h S0) 0 (by decide) wd308 rfl dX7_strong_26 ?_
      refine J_iload_n E dX7_strong_29 1 rfl ?_
      refine J_callVNI E cal_X6_fittingStrengths wd743 rfl (S_X6.h (S_X7.f0 S0)) [.int x_0] [] (ct_X6_fittingStrengths l D dA G v w (hOk) (rf G h0 0) (S_X7.f0 S0) x_0 b20) rfl rfl (Nat.le_of_ble_eq_true rfl) ⟨rfl, rfl⟩ ⟨Nat.le_of_ble_eq_true rfl, Nat.le_of_ble_eq_true rfl⟩ dX7_strong_30 (fun x35 v32 w33 p34 => ?_)
      rw [p34.1, p34.2.1]
      have b36 : Bd x35 0 1023 := p34.2.2.1
      have e37 : x35 = F_X6_fittingStrengths G w v (rf G h0 0) x_0 := (p34.2.2.2)
      refine J_istore_n E [(3, .int x35), (0, .ref h0), (1, .int x_0), (2, .int x_1)] dX7_strong_33 rfl (by decide) rfl ?_
      refine J_iload_n E dX7_strong_34 3 rfl ?_
      refine J_if_ne E 43 dX7_strong_35 (by decide) (fun c38 => ?_) (fun c38 => ?_)
      · have b39 : Bd x_1 1 2 := (Bd.ne_lo c38 b31 (Bd.lit 0 0 (by decide))).w _ _ (by decide)
        refine J_iload_n E dX7_strong_43 3 rfl ?_
        refine J_iconst E 1 dX7_strong_44 (by decide) ?_
        refine J_icmp_ne E 55 dX7_strong_45 (by decide) (fun c40 => ?_) (fun c40 => ?_)
        · have b41 : Bd x_1 2 2 := (Bd.ne_lo c40 b39 (Bd.lit 1 1 (by decide))).w _ _ (by decide)
          refine J_iload_n E dX7_strong_55 0 rfl ?_
          refine J_callSI E cal_X7_greatestBit wd759 [.int x35] [] (ct_X7_greatestBit l D dA G v w (hOk) x35) rfl rfl (Nat.le_of_ble_eq_true rfl) ⟨rfl, rfl⟩ ⟨Nat.le_of_ble_eq_true rfl, Nat.le_of_ble_eq_true rfl⟩ dX7_strong_56 (fun x45 v42 w43 p44 => ?_)
          rw [p44.1, p44.2.1]
          have b46 : Bd x45 (-1) 9 := p44.2.2.1
          have e47 : x45 = F_X7_greatestBit G w v x35 := (p44.2.2.2)
          exact J_iret E hr dX7_strong_59 ⟨hOk, Kp.rf, trivial, ⟨⟨rfl, ((kx_X7_strong_4 (e16) (e26) (e37) (e47) (c17) (c27) (c38) (c40)).symm.trans hK)⟩, Fr.rf⟩⟩
        · have b48 : Bd x_1 1 1 := Bd.eq_l c40 b39 (Bd.lit 1 1 (by decide)) 1 1 (by decide)
          refine J_iload_n E dX7_strong_48 0 rfl ?_
          refine J_callSI E cal_X7_leastBit wd756 [.int x35] [] (ct_X7_leastBit l D dA G v w (hOk) x35) rfl rfl (Nat.le_of_ble_eq_true rfl) ⟨rfl, rfl⟩ ⟨Nat.le_of_ble_eq_true rfl, Nat.le_of_ble_eq_true rfl⟩ dX7_strong_49 (fun x52 v49 w50 p51 => ?_)
          rw [p51.1, p51.2.1]
          have b53 : Bd x52 (-1) 9 := p51.2.2.1
          have e54 : x52 = F_X7_leastBit G w v x35 := (p51.2.2.2)
          refine J_goto E 59 dX7_strong_52 (by decide) ?_
          exact J_iret E hr dX7_strong_59 ⟨hOk, Kp.rf, trivial, ⟨⟨rfl, ((kx_X7_strong_5 (e16) (e26) (e37) (e54) (c17) (c27) (c38) (c40)).symm.trans hK)⟩, Fr.rf⟩⟩
      · have b55 : Bd x_1 0 0 := Bd.eq_l c38 b31 (Bd.lit 0 0 (by decide)) 0 0 (by decide)
        refine J_iload_n E dX7_strong_38 0 rfl ?_
        refine J_callSI E cal_J6_bitCount_0f7a4 wd755 [.int x35] [] (ct_J6_bitCount_0f7a4 l D dA G v w (hOk) x35) rfl rfl (Nat.le_of_ble_eq_true rfl) ⟨rfl, rfl⟩ ⟨Nat.le_of_ble_eq_true rfl, Nat.le_of_ble_eq_true rfl⟩ dX7_strong_39 (fun x59 v56 w57 p58 => ?_)
        rw [p58.1, p58.2.1]
        have b60 : Bd x59 0 63 := p58.2.2.1
        have e61 : x59 = F_J6_bitCount_0f7a4 G w v x35 := (p58.2.2.2)
        exact J_iret E hr dX7_strong_42 ⟨hOk, Kp.rf, trivial, ⟨⟨rfl, ((kx_X7_strong_6 (e16) (e26) (e37) (e61) (c17) (c27) (c38)).symm.trans hK)⟩, Fr.rf⟩⟩
    · have b62 : Bd x24 0 0 := Bd.eq_l c27 b25 (Bd.lit 0 0 (by decide)) 0 0 (by decide)
      have g63 : ¬ (0 ≤ x_1 ∧ x_1 ≤ 2) := (p23.2.2.2.2.1).resolve_left (fun h9 => h9 c27)
      exact J.sub [0] rfl (J20 ((kx_X7_strong_7 (e16) (e26) (c17) (c27)).symm.trans hK))

def K_X7_tell_110 (G : Gm) (w : Mw) (h0 : Nat) (rec40 : Mv → Int32 → Int32 → Int32 → Int32 → Int32 → Int32 × Mv) (rec72 : Mv → Int32 → Int32 → Int32 → Int32 → Int32 → Int32 → Int32 × Mv) (v14 : Mv) (x_0 : Int32) (x6 : Int32) (x29 : Int32) (x31 : Int32) (x12 : Int32) (x25 : Int32) : Int32 × Mv :=
  rec72 v14 x_0 x6 x29 x31 x12 (x25 + (1 : Int32))
def K_X7_tell_72 (G : Gm) (w : Mw) (h0 : Nat) (rec40 : Mv → Int32 → Int32 → Int32 → Int32 → Int32 → Int32 × Mv) : Nat → Mv → Int32 → Int32 → Int32 → Int32 → Int32 → Int32 → Int32 × Mv
  | 0, _, _, _, _, _, _, _ => ((0 : Int32), (fun _ _ => 0 : Mv))
  | n72 + 1, v14, x_0, x6, x20, x22, x12, x25 =>
    if (60 : Int32) < x25 then (rec40 v14 x_0 x6 x20 x22 (x12 + (1 : Int32))) else (if x22 ≤ (F_X0_greaterPart G w v14 (rf G h0 5) x25) then (K_X7_tell_110 G w h0 rec40 (K_X7_tell_72 G w h0 rec40 n72) v14 x_0 x6 x20 x22 x12 x25) else (K_X7_tell_110 G w h0 rec40 (K_X7_tell_72 G w h0 rec40 n72) v14 x_0 x6 (((100 : Int32) * x12) + x25) (F_X0_greaterPart G w v14 (rf G h0 5) x25) x12 x25))
def K_X7_tell_c1 (G : Gm) (w : Mw) (h0 : Nat) (rec40 : Mv → Int32 → Int32 → Int32 → Int32 → Int32 → Int32 × Mv) (v65 : Mv) (x_0 : Int32) (x6 : Int32) (x8 : Int32) (x10 : Int32) (x12 : Int32) : Int32 × Mv :=
  K_X7_tell_72 G w h0 rec40 62 v65 x_0 x6 x8 x10 x12 (0 : Int32)
def K_X7_tell_40 (G : Gm) (w : Mw) (h0 : Nat) : Nat → Mv → Int32 → Int32 → Int32 → Int32 → Int32 → Int32 × Mv
  | 0, _, _, _, _, _, _ => ((0 : Int32), (fun _ _ => 0 : Mv))
  | n40 + 1, v1, x_0, x6, x8, x10, x12 =>
    if (9 : Int32) < x12 then ((x8, v1)) else (K_X7_tell_c1 G w h0 (K_X7_tell_40 G w h0 n40) (F_X0_fillByStrength G w v1 (rf G h0 5) (v1 (rf G (rf G h0 0) 4) (Int32.toNatClampNeg x_0)) x6 ((10 : Int32) * x12)) x_0 x6 x8 x10 x12)
def K_X7_tell_c2 (G : Gm) (w : Mw) (h0 : Nat) (v92 : Mv) (x95 : Int32) : Int32 × Mv :=
  (x95, v92)
def K_X7_tell_e (G : Gm) (w : Mw) (v : Mv) (h0 : Nat) (x_0 : Int32) : Int32 × Mv :=
  if (F_X6_hasOne G w v (rf G h0 0) x_0) = (0 : Int32) then (K_X7_tell_c2 G w h0 ((F_X7_bad G w v h0).2) ((F_X7_bad G w v h0).1)) else (if (F_X6_fittingStrengths G w v (rf G h0 0) x_0) = (0 : Int32) then (((-1 : Int32), v)) else (K_X7_tell_40 G w h0 11 v x_0 (F_X6_fittingStrengths G w v (rf G h0 0) x_0) (-1 : Int32) (10 : Int32) (0 : Int32)))
def F_X7_tell (G : Gm) (w : Mw) (v : Mv) (h0 : Nat) (x_0 : Int32) : Int32 × Mv := K_X7_tell_e G w v h0 x_0
set_option maxRecDepth 100000 in
theorem kx_X7_tell_1 {G : Gm} {w : Mw} {h0 : Nat} {rec40 : Mv → Int32 → Int32 → Int32 → Int32 → Int32 → Int32 × Mv} {rec72 : Mv → Int32 → Int32 → Int32 → Int32 → Int32 → Int32 → Int32 × Mv} {v14 : Mv} {x_0 : Int32} {x6 : Int32} {x29 : Int32} {x31 : Int32} {x12 : Int32} {x25 : Int32} {x35 : Int32} (a0 : x35 = x25 + (1 : Int32))  : K_X7_tell_110 G w h0 rec40 rec72 v14 x_0 x6 x29 x31 x12 x25 = rec72 v14 x_0 x6 x29 x31 x12 x35 := by
  subst a0; first | rw [K_X7_tell_110] | simp only [K_X7_tell_110]
set_option maxRecDepth 100000 in
theorem kx_X7_tell_2 {G : Gm} {w : Mw} {h0 : Nat} {rec40 : Mv → Int32 → Int32 → Int32 → Int32 → Int32 → Int32 × Mv} {n72 : Nat} {v14 : Mv} {x_0 : Int32} {x6 : Int32} {x20 : Int32} {x22 : Int32} {x12 : Int32} {x25 : Int32} {x40 : Int32} (a0 : x40 = x12 + (1 : Int32)) (k0 : (60 : Int32) < x25) : K_X7_tell_72 G w h0 rec40 (n72 + 1) v14 x_0 x6 x20 x22 x12 x25 = rec40 v14 x_0 x6 x20 x22 x40 := by
  subst a0; first | rw [K_X7_tell_72, if_pos k0] | simp only [K_X7_tell_72, if_pos k0]
set_option maxRecDepth 100000 in
theorem kx_X7_tell_3 {G : Gm} {w : Mw} {h0 : Nat} {rec40 : Mv → Int32 → Int32 → Int32 → Int32 → Int32 → Int32 × Mv} {n72 : Nat} {v14 : Mv} {x_0 : Int32} {x6 : Int32} {x20 : Int32} {x22 : Int32} {x12 : Int32} {x25 : Int32} {x47 : Int32} (a0 : x47 = F_X0_greaterPart G w v14 (rf G h0 5) x25) (k0 : ¬ ((60 : Int32) < x25)) (k1 : x22 ≤ x47) : K_X7_tell_72 G w h0 rec40 (n72 + 1) v14 x_0 x6 x20 x22 x12 x25 = K_X7_tell_110 G w h0 rec40 (K_X7_tell_72 G w h0 rec40 n72) v14 x_0 x6 x20 x22 x12 x25 := by
  subst a0; first | rw [K_X7_tell_72, if_neg k0, if_pos k1] | simp only [K_X7_tell_72, if_neg k0, if_pos k1]
set_option maxRecDepth 100000 in
theorem kx_X7_tell_4 {G : Gm} {w : Mw} {h0 : Nat} {rec40 : Mv → Int32 → Int32 → Int32 → Int32 → Int32 → Int32 × Mv} {n72 : Nat} {v14 : Mv} {x_0 : Int32} {x6 : Int32} {x20 : Int32} {x22 : Int32} {x12 : Int32} {x25 : Int32} {x54 : Int32} {x47 : Int32} {x51 : Int32} (a0 : x47 = F_X0_greaterPart G w v14 (rf G h0 5) x25) (a1 : x51 = (100 : Int32) * x12) (a2 : x54 = x51 + x25) (k0 : ¬ ((60 : Int32) < x25)) (k1 : ¬ (x22 ≤ x47)) : K_X7_tell_72 G w h0 rec40 (n72 + 1) v14 x_0 x6 x20 x22 x12 x25 = K_X7_tell_110 G w h0 rec40 (K_X7_tell_72 G w h0 rec40 n72) v14 x_0 x6 x54 x47 x12 x25 := by
  subst a2; subst a1; subst a0; first | rw [K_X7_tell_72, if_neg k0, if_neg k1] | simp only [K_X7_tell_72, if_neg k0, if_neg k1]
set_option maxRecDepth 100000 in
theorem kx_X7_tell_5 {G : Gm} {w : Mw} {h0 : Nat} {n40 : Nat} {v1 : Mv} {x_0 : Int32} {x6 : Int32} {x8 : Int32} {x10 : Int32} {x12 : Int32}  (k0 : (9 : Int32) < x12) : K_X7_tell_40 G w h0 (n40 + 1) v1 x_0 x6 x8 x10 x12 = (x8, v1) := by
  first | rw [K_X7_tell_40, if_pos k0] | simp only [K_X7_tell_40, if_pos k0]
set_option maxRecDepth 100000 in
theorem kx_X7_tell_6 {G : Gm} {w : Mw} {h0 : Nat} {n40 : Nat} {v1 : Mv} {x_0 : Int32} {x6 : Int32} {x8 : Int32} {x10 : Int32} {x12 : Int32} {v65 : Mv} {x60 : Int32} {x62 : Int32} (a0 : x60 = v1 (rf G (rf G h0 0) 4) (Int32.toNatClampNeg x_0)) (a1 : x62 = (10 : Int32) * x12) (a2 : v65 = F_X0_fillByStrength G w v1 (rf G h0 5) x60 x6 x62) (k0 : ¬ ((9 : Int32) < x12)) : K_X7_tell_40 G w h0 (n40 + 1) v1 x_0 x6 x8 x10 x12 = K_X7_tell_c1 G w h0 (K_X7_tell_40 G w h0 n40) v65 x_0 x6 x8 x10 x12 := by
  subst a2; subst a1; subst a0; first | rw [K_X7_tell_40, if_neg k0] | simp only [K_X7_tell_40, if_neg k0]
set_option maxRecDepth 100000 in
theorem kx_X7_tell_7 {G : Gm} {w : Mw} {h0 : Nat} {rec40 : Mv → Int32 → Int32 → Int32 → Int32 → Int32 → Int32 × Mv} {v65 : Mv} {x_0 : Int32} {x6 : Int32} {x8 : Int32} {x10 : Int32} {x12 : Int32}   : K_X7_tell_c1 G w h0 rec40 v65 x_0 x6 x8 x10 x12 = K_X7_tell_72 G w h0 rec40 62 v65 x_0 x6 x8 x10 x12 (0 : Int32) := by
  first | rw [K_X7_tell_c1] | simp only [K_X7_tell_c1]
set_option maxRecDepth 100000 in
theorem kx_X7_tell_8 {G : Gm} {w : Mw} {v : Mv} {h0 : Nat} {x_0 : Int32} {x85 : Int32} {x76 : Int32} (a0 : x76 = F_X6_hasOne G w v (rf G h0 0) x_0) (a1 : x85 = F_X6_fittingStrengths G w v (rf G h0 0) x_0) (k0 : ¬ (x76 = (0 : Int32))) (k1 : ¬ (x85 = (0 : Int32))) : K_X7_tell_e G w v h0 x_0 = K_X7_tell_40 G w h0 11 v x_0 x85 (-1 : Int32) (10 : Int32) (0 : Int32) := by
  subst a1; subst a0; first | rw [K_X7_tell_e, if_neg k0, if_neg k1] | simp only [K_X7_tell_e, if_neg k0, if_neg k1]
set_option maxRecDepth 100000 in
theorem kx_X7_tell_9 {G : Gm} {w : Mw} {v : Mv} {h0 : Nat} {x_0 : Int32} {x76 : Int32} {x85 : Int32} (a0 : x76 = F_X6_hasOne G w v (rf G h0 0) x_0) (a1 : x85 = F_X6_fittingStrengths G w v (rf G h0 0) x_0) (k0 : ¬ (x76 = (0 : Int32))) (k1 : x85 = (0 : Int32)) : K_X7_tell_e G w v h0 x_0 = ((-1 : Int32), v) := by
  subst a1; subst a0; first | rw [K_X7_tell_e, if_neg k0, if_pos k1] | simp only [K_X7_tell_e, if_neg k0, if_pos k1]
set_option maxRecDepth 100000 in
theorem kx_X7_tell_10 {G : Gm} {w : Mw} {v : Mv} {h0 : Nat} {x_0 : Int32} {v92 : Mv} {x95 : Int32} {x76 : Int32} (a0 : x76 = F_X6_hasOne G w v (rf G h0 0) x_0) (a1 : x95 = (F_X7_bad G w v h0).1) (a2 : v92 = (F_X7_bad G w v h0).2) (k0 : x76 = (0 : Int32)) : K_X7_tell_e G w v h0 x_0 = K_X7_tell_c2 G w h0 v92 x95 := by
  subst a2; subst a1; subst a0; first | rw [K_X7_tell_e, if_pos k0] | simp only [K_X7_tell_e, if_pos k0]
set_option maxRecDepth 100000 in
theorem kx_X7_tell_11 {G : Gm} {w : Mw} {h0 : Nat} {v92 : Mv} {x95 : Int32}   : K_X7_tell_c2 G w h0 v92 x95 = (x95, v92) := by
  first | rw [K_X7_tell_c2] | simp only [K_X7_tell_c2]
abbrev rm_X7_tell : Room := { frames := 4, cells := 0, slots := 0, locals := 92 }
set_option maxHeartbeats 4000000 in
set_option maxRecDepth 100000 in
theorem ct_X7_tell (l : Launch) (D : va_G) (dA : Nat → ClassId) (G : Gm) (v : Mv) (w : Mw) (hOk : Ok G v w) (h0 : Nat) (S0 : S_X7 G h0) (x_0 : Int32) : CtI l yX7_tell cX7_tell 8 (some .int) rm_X7_tell D dA G [.ref h0, .int x_0] v w (fun r v1 w1 => Ok G v1 w1 ∧ Kp G v v1 ∧ True ∧ (w1 = w ∧ (r, v1) = F_X7_tell G w v h0 x_0) ∧ Fr G [0, 7, 109] v v1) := by
  refine CtI.of RX7 [(0, .ref h0), (1, .int x_0)] (Nat.le_of_ble_eq_true rfl) rfl (by decide) rfl ?_
  intro p e s m args below meth c E hr
  have J40 : ∀ n40 : Nat, ∀ (v1 : Mv), Ok G v1 w → Kp G v v1 → Fr G [0, 7, 109] v v1 → Bd x_0 0 6 → ∀ x6 : Int32, Bd x6 1 1023 → ∀ x8 : Int32, Bd x8 (-1) 983 → ∀ x10 : Int32, Bd x10 I0 10 → ∀ x12 : Int32, Bd x12 0 10 → Mu x12 10 n40 → K_X7_tell_40 G w h0 n40 v1 x_0 x6 x8 x10 x12 = F_X7_tell G w v h0 x_0 → J p l e rm_X7_tell s m args below meth c 0 0 (MQ below (QcI D dA G (fun r v1 w1 => Ok G v1 w1 ∧ Kp G v v1 ∧ True ∧ (w1 = w ∧ (r, v1) = F_X7_tell G w v h0 x_0) ∧ Fr G [0, 7, 109] v v1)) args s 0 0 (dm G)) D dA G (dm G) s.heap 8 v1 w [(0, .ref h0), (1, .int x_0), (2, .int x6), (3, .int x8), (4, .int x10), (5, .int x12)] 40 [] := by
    intro n40
    induction n40 with
    | zero => intro v1 o2 k3 f4 b5 x6 b7 x8 b9 x10 b11 x12 b13 hm hK; exact hm.zero b13 (by decide)
    | succ n40 ih40 =>
      intro v1 o2 k3 f4 b5 x6 b7 x8 b9 x10 b11 x12 b13 hmu40 hK
      have J72 : ∀ n72 : Nat, ∀ (v14 : Mv), Ok G v14 w → Kp G v v14 → Fr G [0, 7, 109] v v14 → Bd x_0 0 6 → Bd x6 1 1023 → ∀ x20 : Int32, Bd x20 (-1) 983 → ∀ x22 : Int32, Bd x22 I0 10 → Bd x12 0 9 → ∀ x25 : Int32, Bd x25 0 61 → Mu x25 61 n72 → K_X7_tell_72 G w h0 (K_X7_tell_40 G w h0 n40) n72 v14 x_0 x6 x20 x22 x12 x25 = F_X7_tell G w v h0 x_0 → J p l e rm_X7_tell s m args below meth c 0 0 (MQ below (QcI D dA G (fun r v1 w1 => Ok G v1 w1 ∧ Kp G v v1 ∧ True ∧ (w1 = w ∧ (r, v1) = F_X7_tell G w v h0 x_0) ∧ Fr G [0, 7, 109] v v1)) args s 0 0 (dm G)) D dA G (dm G) s.heap 8 v14 w [(0, .ref h0), (1, .int x_0), (2, .int x6), (3, .int x20), (4, .int x22), (5, .int x12), (6, .int x25)] 72 [] := by
        intro n72
        induction n72 with
        | zero => intro v14 o15 k16 f17 b18 b19 x20 b21 x22 b23 b24 x25 b26 hm hK; exact hm.zero b26 (by decide)
        | succ n72 ih72 =>
          intro v14 o15 k16 f17 b18 b19 x20 b21 x22 b23 b24 x25 b26 hmu72 hK
          have J110 : Bd x_0 0 6 → Bd x6 1 1023 → ∀ x29 : Int32, Bd x29 (-1) 983 → ∀ x31 : Int32, Bd x31 I0 10 → Bd x12 0 9 → Bd x25 0 60 → K_X7_tell_110 G w h0 (K_X7_tell_40 G w h0 n40) (K_X7_tell_72 G w h0 (K_X7_tell_40 G w h0 n40) n72) v14 x_0 x6 x29 x31 x12 x25 = F_X7_tell G w v h0 x_0 → J p l e rm_X7_tell s m args below meth c 0 0 (MQ below (QcI D dA G (fun r v1 w1 => Ok G v1 w1 ∧ Kp G v v1 ∧ True ∧ (w1 = w ∧ (r, v1) = F_X7_tell G w v h0 x_0) ∧ Fr G [0, 7, 109] v v1)) args s 0 0 (dm G)) D dA G (dm G) s.heap 8 v14 w [(0, .ref h0), (1, .int x_0), (2, .int x6), (3, .int x29), (4, .int x31), (5, .int x12), (6, .int x25)] 110 [] := by
            intro b27 b28 x29 b30 x31 b32 b33 b34 hK
            refine J_iinc E 6 1 (fun z => [(6, .int z), (0, .ref h0), (1, .int x_0), (2, .int x6), (3, .int x29), (4, .int x31), (5, .int x12)]) dX7_tell_110 rfl (by decide) (by decide) (fun _ => rfl) (fun x35 e36 => ?_)
            have b37 : Bd x35 1 61 := (Bd.add e36 b34 (Bd.lit 1 1 (by decide)) (by decide)).w _ _ (by decide)
            refine J_goto E 72 dX7_tell_113 (by decide) ?_
            exact J.sub [1, 2, 3, 4, 5, 6, 0] rfl (ih72 v14 (o15) (k16) f17 b27 b28 x29 b30 x31 b32 b33 x35 (b37.w 0 61 (by decide)) (Mu.step hmu72 e36 b34 (Bd.lit 1 1 (by decide)) (by decide)) ((kx_X7_tell_1 (e36)).symm.trans hK))
          refine J_iload E dX7_tell_72 6 rfl ?_
          refine J_bipush E 60 dX7_tell_74 (by decide) ?_
          refine J_icmp_gt E 116 dX7_tell_76 (by decide) (fun c38 => ?_) (fun c38 => ?_)
          · have b39 : Bd x25 61 61 := Bd.lt_r c38 (Bd.lit 60 60 (by decide)) b26 61 (by decide)
            refine J_iinc E 5 1 (fun z => [(5, .int z), (0, .ref h0), (1, .int x_0), (2, .int x6), (3, .int x20), (4, .int x22), (6, .int x25)]) dX7_tell_116 rfl (by decide) (by decide) (fun _ => rfl) (fun x40 e41 => ?_)
            have b42 : Bd x40 1 10 := (Bd.add e41 b24 (Bd.lit 1 1 (by decide)) (by decide)).w _ _ (by decide)
            refine J_goto E 40 dX7_tell_119 (by decide) ?_
            exact J.sub [1, 2, 3, 4, 5, 0] rfl (ih40 v14 (o15) (k16) f17 b18 x6 b19 x20 b21 x22 b23 x40 (b42.w 0 10 (by decide)) (Mu.step hmu40 e41 b24 (Bd.lit 1 1 (by decide)) (by decide)) ((kx_X7_tell_2 (e41) (c38)).symm.trans hK))
          · have b43 : Bd x25 0 60 := Bd.le_l (nlt c38) b26 (Bd.lit 60 60 (by decide)) 60 (by decide)
            refine J_aload_n E dX7_tell_79 0 rfl ?_
            refine J_getR E in_X7 rfl (S_X7.h S0) 5 (by decide) wd313 rfl dX7_tell_80 ?_
            refine J_iload E dX7_tell_83 6 rfl ?_
            refine J_callVNI E cal_X0_greaterPart wd775 rfl (S_X0.h (S_X7.f5 S0)) [.int x25] [] (ct_X0_greaterPart l D dA G v14 w (o15) (rf G h0 5) (S_X7.f5 S0) x25 b43) rfl rfl (Nat.le_of_ble_eq_true rfl) ⟨rfl, rfl⟩ ⟨Nat.le_of_ble_eq_true rfl, Nat.le_of_ble_eq_true rfl⟩ dX7_tell_85 (fun x47 v44 w45 p46 => ?_)
            rw [p46.1, p46.2.1]
            have e48 : x47 = F_X0_greaterPart G w v14 (rf G h0 5) x25 := (p46.2.2.2)
            refine J_istore E [(7, .int x47), (0, .ref h0), (1, .int x_0), (2, .int x6), (3, .int x20), (4, .int x22), (5, .int x12), (6, .int x25)] dX7_tell_88 (by decide) rfl ?_
            refine J_iload E dX7_tell_90 0 rfl ?_
            refine J_iload E dX7_tell_92 5 rfl ?_
            refine J_icmp_ge E 110 dX7_tell_94 (by decide) (fun c49 => ?_) (fun c49 => ?_)
            · exact J.sub [1, 2, 3, 4, 5, 6, 7] rfl (J110 b18 b19 x20 b21 x22 b23 b24 b43 ((kx_X7_tell_3 (e48) (c38) (c49)).symm.trans hK))
            · have b50 : Bd x47 I0 9 := Bd.lt_l (nle c49) (Bd.any x47) b23 9 (by decide)
              refine J_iload E dX7_tell_97 0 rfl ?_
              refine J_istore E [(4, .int x47), (7, .int x47), (0, .ref h0), (1, .int x_0), (2, .int x6), (3, .int x20), (5, .int x12), (6, .int x25)] dX7_tell_99 (by decide) rfl ?_
              refine J_bipush E 100 dX7_tell_101 (by decide) ?_
              refine J_iload E dX7_tell_103 6 rfl ?_
              refine J_imul E dX7_tell_105 (fun x51 e52 => ?_)
              have b53 : Bd x51 0 900 := Bd.mul e52 (Bd.lit 100 100 (by decide)) b24 (by decide)
              refine J_iload E dX7_tell_106 7 rfl ?_
              refine J_iadd E dX7_tell_108 (fun x54 e55 => ?_)
              have b56 : Bd x54 0 960 := (Bd.add e55 b53 b43 (by decide)).w _ _ (by decide)
              refine J_istore_n E [(3, .int x54), (4, .int x47), (7, .int x47), (0, .ref h0), (1, .int x_0), (2, .int x6), (5, .int x12), (6, .int x25)] dX7_tell_109 rfl (by decide) rfl ?_
              exact J.sub [3, 4, 5, 0, 1, 6, 7] rfl (J110 b18 b19 x54 (b56.w (-1) 983 (by decide)) x47 (b50.w I0 10 (by decide)) b24 b43 ((kx_X7_tell_4 (e48) (e52) (e55) (c38) (c49)).symm.trans hK))
      refine J_iload E dX7_tell_40 5 rfl ?_
      refine J_bipush E 9 dX7_tell_42 (by decide) ?_
      refine J_icmp_gt E 122 dX7_tell_44 (by decide) (fun c57 => ?_) (fun c57 => ?_)
      · have b58 : Bd x12 10 10 := Bd.lt_r c57 (Bd.lit 9 9 (by decide)) b13 10 (by decide)
        refine J_iload_n E dX7_tell_122 3 rfl ?_
        exact J_iret E hr dX7_tell_123 ⟨o2, k3, trivial, ⟨⟨rfl, ((kx_X7_tell_5 (c57)).symm.trans hK)⟩, f4⟩⟩
      · have b59 : Bd x12 0 9 := Bd.le_l (nlt c57) b13 (Bd.lit 9 9 (by decide)) 9 (by decide)
        refine J_aload_n E dX7_tell_47 0 rfl ?_
        refine J_getR E in_X7 rfl (S_X7.h S0) 5 (by decide) wd313 rfl dX7_tell_48 ?_
        refine J_aload_n E dX7_tell_51 0 rfl ?_
        refine J_getR E in_X7 rfl (S_X7.h S0) 0 (by decide) wd308 rfl dX7_tell_52 ?_
        refine J_getRN E in_X6 rfl (S_X6.h (S_X7.f0 S0)) 4 (by decide) wd204 rfl dX7_tell_55 ?_
        refine J_iload_n E dX7_tell_58 1 rfl ?_
        refine J_iald1 E (S_X6.f4 (S_X7.f0 S0)) (Bd.in b5 (by decide)) dX7_tell_59 (fun x60 e61 => ?_)
        refine J_iload_n E dX7_tell_60 2 rfl ?_
        refine J_bipush E 10 dX7_tell_61 (by decide) ?_
        refine J_iload E dX7_tell_63 5 rfl ?_
        refine J_imul E dX7_tell_65 (fun x62 e63 => ?_)
        have b64 : Bd x62 0 90 := Bd.mul e63 (Bd.lit 10 10 (by decide)) b59 (by decide)
        refine J_callVNV E cal_X0_fillByStrength wd766 rfl (S_X0.h (S_X7.f5 S0)) [.int x60, .int x6, .int x62] [] (ct_X0_fillByStrength l D dA G v1 w (o2) (rf G h0 5) (S_X7.f5 S0) x60 x6 x62 b64) rfl rfl (Nat.le_of_ble_eq_true rfl) ⟨rfl, rfl⟩ ⟨Nat.le_of_ble_eq_true rfl, Nat.le_of_ble_eq_true rfl⟩ dX7_tell_66 (fun v65 w66 p67 => ?_)
        have ew9 : w = w66 := p67.2.2.1.1.symm
        subst ew9
        have o69 := p67.1
        have k70 : Kp G v v65 := (k3).tr p67.2.1
        have f71 : Fr G [0, 7, 109] v v65 := Fr.tr f4 (p67.2.2.2) (by decide)
        have e72 : v65 = F_X0_fillByStrength G w v1 (rf G h0 5) x60 x6 x62 := (p67.2.2.1).2
        have hK : K_X7_tell_c1 G w h0 (K_X7_tell_40 G w h0 n40) v65 x_0 x6 x8 x10 x12 = F_X7_tell G w v h0 x_0 := ((kx_X7_tell_6 (e61) (e63) (e72) (c57)).symm.trans hK)
        refine J_iconst E 0 dX7_tell_69 (by decide) ?_
        refine J_istore E [(6, .int 0), (0, .ref h0), (1, .int x_0), (2, .int x6), (3, .int x8), (4, .int x10), (5, .int x12)] dX7_tell_70 (by decide) rfl ?_
        exact J.sub [1, 2, 3, 4, 5, 6, 0] rfl (J72 62 v65 (o69) (k70) f71 b5 b7 x8 b9 x10 b11 b59 0 ((Bd.lit 0 0 (by decide)).w 0 61 (by decide)) (Mu.start _ (Bd.lit 0 0 (by decide)) (by decide)) ((kx_X7_tell_7).symm.trans hK))
  have hK : K_X7_tell_e G w v h0 x_0 = F_X7_tell G w v h0 x_0 := rfl
  refine J_aload_n E dX7_tell_0 0 rfl ?_
  refine J_getR E in_X7 rfl (S_X7.h S0) 0 (by decide) wd308 rfl dX7_tell_1 ?_
  refine J_iload_n E dX7_tell_4 1 rfl ?_
  refine J_callVNI E cal_X6_hasOne wd584 rfl (S_X6.h (S_X7.f0 S0)) [.int x_0] [] (ct_X6_hasOne l D dA G v w (hOk) (rf G h0 0) (S_X7.f0 S0) x_0) rfl rfl (Nat.le_of_ble_eq_true rfl) ⟨rfl, rfl⟩ ⟨Nat.le_of_ble_eq_true rfl, Nat.le_of_ble_eq_true rfl⟩ dX7_tell_5 (fun x76 v73 w74 p75 => ?_)
  rw [p75.1, p75.2.1]
  have b77 : Bd x76 0 1 := p75.2.2.1
  have e78 : x76 = F_X6_hasOne G w v (rf G h0 0) x_0 := (p75.2.2.2.2)
  refine J_if_ne E 16 dX7_tell_8 (by decide) (fun c79 => ?_) (fun c79 => ?_)
  · have b80 : Bd x76 1 1 := (Bd.ne_lo c79 b77 (Bd.lit 0 0 (by decide))).w _ _ (by decide)
    have b81 : Bd x_0 0 6 := (p75.2.2.2.1).resolve_left c79
    refine J_aload_n E dX7_tell_16 0 rfl ?_
    refine J_getR E in_X7 rfl (S_X7.h S0) 0 (by decide) wd308 rfl dX7_tell_17 ?_
    refine J_iload_n E dX7_tell_20 1 rfl ?_
    refine J_callVNI E cal_X6_fittingStrengths wd743 rfl (S_X6.h (S_X7.f0 S0)) [.int x_0] [] (ct_X6_fittingStrengths l D dA G v w (hOk) (rf G h0 0) (S_X7.f0 S0) x_0 b81) rfl rfl (Nat.le_of_ble_eq_true rfl) ⟨rfl, rfl⟩ ⟨Nat.le_of_ble_eq_true rfl, Nat.le_of_ble_eq_true rfl⟩ dX7_tell_21 (fun x85 v82 w83 p84 => ?_)
    rw [p84.1, p84.2.1]
    have b86 : Bd x85 0 1023 := p84.2.2.1
    have e87 : x85 = F_X6_fittingStrengths G w v (rf G h0 0) x_0 := (p84.2.2.2)
    refine J_istore_n E [(2, .int x85), (0, .ref h0), (1, .int x_0)] dX7_tell_24 rfl (by decide) rfl ?_
    refine J_iload_n E dX7_tell_25 0 rfl ?_
    refine J_if_ne E 31 dX7_tell_26 (by decide) (fun c88 => ?_) (fun c88 => ?_)
    · have b89 : Bd x85 1 1023 := (Bd.ne_lo c88 b86 (Bd.lit 0 0 (by decide))).w _ _ (by decide)
      refine J_iconst E (-1) dX7_tell_31 (by decide) ?_
      refine J_istore_n E [(3, .int (-1)), (2, .int x85), (0, .ref h0), (1, .int x_0)] dX7_tell_32 rfl (by decide) rfl ?_
      refine J_bipush E 10 dX7_tell_33 (by decide) ?_
      refine J_istore E [(4, .int 10), (3, .int (-1)), (2, .int x85), (0, .ref h0), (1, .int x_0)] dX7_tell_35 (by decide) rfl ?_
      refine J_iconst E 0 dX7_tell_37 (by decide) ?_
      refine J_istore E [(5, .int 0), (4, .int 10), (3, .int (-1)), (2, .int x85), (0, .ref h0), (1, .int x_0)] dX7_tell_38 (by decide) rfl ?_
      exact J.sub [4, 5, 3, 2, 1, 0] rfl (J40 11 v (hOk) (Kp.rf) Fr.rf b81 x85 b89 (-1) ((Bd.lit (-1) (-1) (by decide)).w (-1) 983 (by decide)) 10 ((Bd.lit 10 10 (by decide)).w I0 10 (by decide)) 0 ((Bd.lit 0 0 (by decide)).w 0 10 (by decide)) (Mu.start _ (Bd.lit 0 0 (by decide)) (by decide)) ((kx_X7_tell_8 (e78) (e87) (c79) (c88)).symm.trans hK))
    · have b90 : Bd x85 0 0 := Bd.eq_l c88 b86 (Bd.lit 0 0 (by decide)) 0 0 (by decide)
      refine J_iconst E (-1) dX7_tell_29 (by decide) ?_
      exact J_iret E hr dX7_tell_30 ⟨hOk, Kp.rf, trivial, ⟨⟨rfl, ((kx_X7_tell_9 (e78) (e87) (c79) (c88)).symm.trans hK)⟩, Fr.rf⟩⟩
  · have b91 : Bd x76 0 0 := Bd.eq_l c79 b77 (Bd.lit 0 0 (by decide)) 0 0 (by decide)
    refine J_aload_n E dX7_tell_11 0 rfl ?_
    refine J_callVI E cal_X7_bad wd364 rfl (S_X7.h S0) [] [] (ct_X7_bad l D dA G v w (hOk) h0 S0) rfl rfl (Nat.le_of_ble_eq_true rfl) ⟨rfl, rfl⟩ ⟨Nat.le_of_ble_eq_true rfl, Nat.le_of_ble_eq_true rfl⟩ dX7_tell_12 (fun x95 v92 w93 p94 => ?_)
    have ew9 : w = w93 := p94.2.2.2.1.1.symm
    subst ew9
    have o96 := p94.1
    have k97 : Kp G v v92 := (Kp.rf).tr p94.2.1
    have f98 : Fr G [0, 7, 109] v v92 := Fr.tr Fr.rf (p94.2.2.2.2) (by decide)
    have b99 : Bd x95 (-2) (-2) := p94.2.2.1
    have e100 : x95 = (F_X7_bad G w v h0).1 := congrArg Prod.fst (p94.2.2.2.1).2
    have e101 : v92 = (F_X7_bad G w v h0).2 := congrArg Prod.snd (p94.2.2.2.1).2
    have hK : K_X7_tell_c2 G w h0 v92 x95 = F_X7_tell G w v h0 x_0 := ((kx_X7_tell_10 (e78) (e100) (e101) (c79)).symm.trans hK)
    exact J_iret E hr dX7_tell_15 ⟨o96, k97, trivial, ⟨⟨rfl, ((kx_X7_tell_11).symm.trans hK)⟩, f98⟩⟩

def K_X7_note_c1 (G : Gm) (w : Mw) (h0 : Nat) (v1 : Mv) (x4 : Int32) : Int32 × Mv :=
  (x4, v1)
def K_X7_note_42 (G : Gm) (w : Mw) (h0 : Nat) (v : Mv) : Int32 × Mv :=
  K_X7_note_c1 G w h0 ((F_X7_bad G w v h0).2) ((F_X7_bad G w v h0).1)
def K_X7_note_c2 (G : Gm) (w : Mw) (h0 : Nat) (v70 : Mv) (x73 : Int32) : Int32 × Mv :=
  (x73, v70)
def K_X7_note_c3 (G : Gm) (w : Mw) (h0 : Nat) (v81 : Mv) (x84 : Int32) : Int32 × Mv :=
  (x84, v81)
def K_X7_note_e (G : Gm) (w : Mw) (v : Mv) (h0 : Nat) (x_0 : Int32) (x_1 : Int32) (x_2 : Int32) (x_3 : Int32) : Int32 × Mv :=
  if (F_X6_hasThing G w v (rf G h0 0) x_0) = (0 : Int32) then (K_X7_note_42 G w h0 v) else (if (F_X7_isWithin G w v x_1 (1 : Int32) (30 : Int32)) = (0 : Int32) then (K_X7_note_42 G w h0 v) else (if (F_X7_isWithin G w v x_2 (0 : Int32) (99 : Int32)) = (0 : Int32) then (K_X7_note_42 G w h0 v) else (if (F_X7_isWithin G w v x_3 (0 : Int32) (99 : Int32)) = (0 : Int32) then (K_X7_note_42 G w h0 v) else (if (F_X4_isFull_6 G w v (rf G (rf G h0 0) 10)) = (0 : Int32) then (K_X7_note_c2 G w h0 ((F_X4_add_6 G w v (rf G (rf G h0 0) 10) x_0 x_1 x_2 x_3).2) ((F_X4_add_6 G w v (rf G (rf G h0 0) 10) x_0 x_1 x_2 x_3).1)) else (K_X7_note_c3 G w h0 ((F_X7_full G w v h0).2) ((F_X7_full G w v h0).1))))))
def F_X7_note (G : Gm) (w : Mw) (v : Mv) (h0 : Nat) (x_0 : Int32) (x_1 : Int32) (x_2 : Int32) (x_3 : Int32) : Int32 × Mv := K_X7_note_e G w v h0 x_0 x_1 x_2 x_3
set_option maxRecDepth 100000 in
theorem kx_X7_note_1 {G : Gm} {w : Mw} {h0 : Nat} {v : Mv} {v1 : Mv} {x4 : Int32} (a0 : x4 = (F_X7_bad G w v h0).1) (a1 : v1 = (F_X7_bad G w v h0).2)  : K_X7_note_42 G w h0 v = K_X7_note_c1 G w h0 v1 x4 := by
  subst a1; subst a0; first | rw [K_X7_note_42] | simp only [K_X7_note_42]
set_option maxRecDepth 100000 in
theorem kx_X7_note_2 {G : Gm} {w : Mw} {h0 : Nat} {v1 : Mv} {x4 : Int32}   : K_X7_note_c1 G w h0 v1 x4 = (x4, v1) := by
  first | rw [K_X7_note_c1] | simp only [K_X7_note_c1]
set_option maxRecDepth 100000 in
theorem kx_X7_note_3 {G : Gm} {w : Mw} {v : Mv} {h0 : Nat} {x_0 : Int32} {x_1 : Int32} {x_2 : Int32} {x_3 : Int32} {x14 : Int32} (a0 : x14 = F_X6_hasThing G w v (rf G h0 0) x_0) (k0 : x14 = (0 : Int32)) : K_X7_note_e G w v h0 x_0 x_1 x_2 x_3 = K_X7_note_42 G w h0 v := by
  subst a0; first | rw [K_X7_note_e, if_pos k0] | simp only [K_X7_note_e, if_pos k0]
set_option maxRecDepth 100000 in
theorem kx_X7_note_4 {G : Gm} {w : Mw} {v : Mv} {h0 : Nat} {x_0 : Int32} {x_1 : Int32} {x_2 : Int32} {x_3 : Int32} {x14 : Int32} {x24 : Int32} (a0 : x14 = F_X6_hasThing G w v (rf G h0 0) x_0) (a1 : x24 = F_X7_isWithin G w v x_1 (1 : Int32) (30 : Int32)) (k0 : ¬ (x14 = (0 : Int32))) (k1 : x24 = (0 : Int32)) : K_X7_note_e G w v h0 x_0 x_1 x_2 x_3 = K_X7_note_42 G w h0 v := by
  subst a1; subst a0; first | rw [K_X7_note_e, if_neg k0, if_pos k1] | simp only [K_X7_note_e, if_neg k0, if_pos k1]
set_option maxRecDepth 100000 in
theorem kx_X7_note_5 {G : Gm} {w : Mw} {v : Mv} {h0 : Nat} {x_0 : Int32} {x_1 : Int32} {x_2 : Int32} {x_3 : Int32} {x14 : Int32} {x24 : Int32} {x37 : Int32} (a0 : x14 = F_X6_hasThing G w v (rf G h0 0) x_0) (a1 : x24 = F_X7_isWithin G w v x_1 (1 : Int32) (30 : Int32)) (a2 : x37 = F_X7_isWithin G w v x_2 (0 : Int32) (99 : Int32)) (k0 : ¬ (x14 = (0 : Int32))) (k1 : ¬ (x24 = (0 : Int32))) (k2 : x37 = (0 : Int32)) : K_X7_note_e G w v h0 x_0 x_1 x_2 x_3 = K_X7_note_42 G w h0 v := by
  subst a2; subst a1; subst a0; first | rw [K_X7_note_e, if_neg k0, if_neg k1, if_pos k2] | simp only [K_X7_note_e, if_neg k0, if_neg k1, if_pos k2]
set_option maxRecDepth 100000 in
theorem kx_X7_note_6 {G : Gm} {w : Mw} {v : Mv} {h0 : Nat} {x_0 : Int32} {x_1 : Int32} {x_2 : Int32} {x_3 : Int32} {v70 : Mv} {x73 : Int32} {x14 : Int32} {x24 : Int32} {x37 : Int32} {x50 : Int32} {x61 : Int32} (a0 : x14 = F_X6_hasThing G w v (rf G h0 0) x_0) (a1 : x24 = F_X7_isWithin G w v x_1 (1 : Int32) (30 : Int32)) (a2 : x37 = F_X7_isWithin G w v x_2 (0 : Int32) (99 : Int32)) (a3 : x50 = F_X7_isWithin G w v x_3 (0 : Int32) (99 : Int32)) (a4 : x61 = F_X4_isFull_6 G w v (rf G (rf G h0 0) 10)) (a5 : x73 = (F_X4_add_6 G w v (rf G (rf G h0 0) 10) x_0 x_1 x_2 x_3).1) (a6 : v70 = (F_X4_add_6 G w v (rf G (rf G h0 0) 10) x_0 x_1 x_2 x_3).2) (k0 : ¬ (x14 = (0 : Int32))) (k1 : ¬ (x24 = (0 : Int32))) (k2 : ¬ (x37 = (0 : Int32))) (k3 : ¬ (x50 = (0 : Int32))) (k4 : x61 = (0 : Int32)) : K_X7_note_e G w v h0 x_0 x_1 x_2 x_3 = K_X7_note_c2 G w h0 v70 x73 := by
  subst a6; subst a5; subst a4; subst a3; subst a2; subst a1; subst a0; first | rw [K_X7_note_e, if_neg k0, if_neg k1, if_neg k2, if_neg k3, if_pos k4] | simp only [K_X7_note_e, if_neg k0, if_neg k1, if_neg k2, if_neg k3, if_pos k4]
set_option maxRecDepth 100000 in
theorem kx_X7_note_7 {G : Gm} {w : Mw} {h0 : Nat} {v70 : Mv} {x73 : Int32}   : K_X7_note_c2 G w h0 v70 x73 = (x73, v70) := by
  first | rw [K_X7_note_c2] | simp only [K_X7_note_c2]
set_option maxRecDepth 100000 in
theorem kx_X7_note_8 {G : Gm} {w : Mw} {v : Mv} {h0 : Nat} {x_0 : Int32} {x_1 : Int32} {x_2 : Int32} {x_3 : Int32} {v81 : Mv} {x84 : Int32} {x14 : Int32} {x24 : Int32} {x37 : Int32} {x50 : Int32} {x61 : Int32} (a0 : x14 = F_X6_hasThing G w v (rf G h0 0) x_0) (a1 : x24 = F_X7_isWithin G w v x_1 (1 : Int32) (30 : Int32)) (a2 : x37 = F_X7_isWithin G w v x_2 (0 : Int32) (99 : Int32)) (a3 : x50 = F_X7_isWithin G w v x_3 (0 : Int32) (99 : Int32)) (a4 : x61 = F_X4_isFull_6 G w v (rf G (rf G h0 0) 10)) (a5 : x84 = (F_X7_full G w v h0).1) (a6 : v81 = (F_X7_full G w v h0).2) (k0 : ¬ (x14 = (0 : Int32))) (k1 : ¬ (x24 = (0 : Int32))) (k2 : ¬ (x37 = (0 : Int32))) (k3 : ¬ (x50 = (0 : Int32))) (k4 : ¬ (x61 = (0 : Int32))) : K_X7_note_e G w v h0 x_0 x_1 x_2 x_3 = K_X7_note_c3 G w h0 v81 x84 := by
  subst a6; subst a5; subst a4; subst a3; subst a2; subst a1; subst a0; first | rw [K_X7_note_e, if_neg k0, if_neg k1, if_neg k2, if_neg k3, if_neg k4] | simp only [K_X7_note_e, if_neg k0, if_neg k1, if_neg k2, if_neg k3, if_neg k4]
set_option maxRecDepth 100000 in
theorem kx_X7_note_9 {G : Gm} {w : Mw} {h0 : Nat} {v81 : Mv} {x84 : Int32}   : K_X7_note_c3 G w h0 v81 x84 = (x84, v81) := by
  first | rw [K_X7_note_c3] | simp only [K_X7_note_c3]
set_option maxRecDepth 100000 in
theorem kx_X7_note_10 {G : Gm} {w : Mw} {v : Mv} {h0 : Nat} {x_0 : Int32} {x_1 : Int32} {x_2 : Int32} {x_3 : Int32} {x14 : Int32} {x24 : Int32} {x37 : Int32} {x50 : Int32} (a0 : x14 = F_X6_hasThing G w v (rf G h0 0) x_0) (a1 : x24 = F_X7_isWithin G w v x_1 (1 : Int32) (30 : Int32)) (a2 : x37 = F_X7_isWithin G w v x_2 (0 : Int32) (99 : Int32)) (a3 : x50 = F_X7_isWithin G w v x_3 (0 : Int32) (99 : Int32)) (k0 : ¬ (x14 = (0 : Int32))) (k1 : ¬ (x24 = (0 : Int32))) (k2 : ¬ (x37 = (0 : Int32))) (k3 : x50 = (0 : Int32)) : K_X7_note_e G w v h0 x_0 x_1 x_2 x_3 = K_X7_note_42 G w h0 v := by
  subst a3; subst a2; subst a1; subst a0; first | rw [K_X7_note_e, if_neg k0, if_neg k1, if_neg k2, if_pos k3] | simp only [K_X7_note_e, if_neg k0, if_neg k1, if_neg k2, if_pos k3]
abbrev rm_X7_note : Room := { frames := 1, cells := 0, slots := 0, locals := 25 }
set_option maxHeartbeats 4000000 in
set_option maxRecDepth 100000 in
theorem ct_X7_note (l : Launch) (D : va_G) (dA : Nat → ClassId) (G : Gm) (v : Mv) (w : Mw) (hOk : Ok G v w) (h0 : Nat) (S0 : S_X7 G h0) (x_0 : Int32) (x_1 : Int32) (x_2 : Int32) (x_3 : Int32) : CtI l yX7_note cX7_note 5 (some .int) rm_X7_note D dA G [.ref h0, .int x_0, .int x_1, .int x_2, .int x_3] v w (fun r v1 w1 => Ok G v1 w1 ∧ True ∧ True ∧ (w1 = w ∧ (r, v1) = F_X7_note G w v h0 x_0 x_1 x_2 x_3) ∧ Fr G [4, 7, 120, 124] v v1) := by
  refine CtI.of RX7 [(0, .ref h0), (1, .int x_0), (2, .int x_1), (3, .int x_2), (4, .int x_3)] (Nat.le_of_ble_eq_true rfl) rfl (by decide) rfl ?_
  intro p e s m args below meth c E hr
  have J42 : K_X7_note_42 G w h0 v = F_X7_note G w v h0 x_0 x_1 x_2 x_3 → J p l e rm_X7_note s m args below meth c 0 0 (MQ below (QcI D dA G (fun r v1 w1 => Ok G v1 w1 ∧ True ∧ True ∧ (w1 = w ∧ (r, v1) = F_X7_note G w v h0 x_0 x_1 x_2 x_3) ∧ Fr G [4, 7, 120, 124] v v1)) args s 0 0 (dm G)) D dA G (dm G) s.heap 5 v w [(0, .ref h0)] 42 [] := by
    intro hK
    refine J_aload_n E dX7_note_42 0 rfl ?_
    refine J_callVI E cal_X7_bad wd364 rfl (S_X7.h S0) [] [] (ct_X7_bad l D dA G v w (hOk) h0 S0) rfl rfl (Nat.le_of_ble_eq_true rfl) ⟨rfl, rfl⟩ ⟨Nat.le_of_ble_eq_true rfl, Nat.le_of_ble_eq_true rfl⟩ dX7_note_43 (fun x4 v1 w2 p3 => ?_)
    have ew9 : w = w2 := p3.2.2.2.1.1.symm
    subst ew9
    have o5 := p3.1
    have k6 : True := trivial
    have f7 : Fr G [4, 7, 120, 124] v v1 := Fr.tr Fr.rf (p3.2.2.2.2) (by decide)
    have b8 : Bd x4 (-2) (-2) := p3.2.2.1
    have e9 : x4 = (F_X7_bad G w v h0).1 := congrArg Prod.fst (p3.2.2.2.1).2
    have e10 : v1 = (F_X7_bad G w v h0).2 := congrArg Prod.snd (p3.2.2.2.1).2
    have hK : K_X7_note_c1 G w h0 v1 x4 = F_X7_note G w v h0 x_0 x_1 x_2 x_3 := ((kx_X7_note_1 (e9) (e10)).symm.trans hK)
    exact J_iret E hr dX7_note_46 ⟨o5, k6, trivial, ⟨⟨rfl, ((kx_X7_note_2).symm.trans hK)⟩, f7⟩⟩
  have hK : K_X7_note_e G w v h0 x_0 x_1 x_2 x_3 = F_X7_note G w v h0 x_0 x_1 x_2 x_3 := rfl
  refine J_aload_n E dX7_note_0 0 rfl ?_
  refine J_getR E in_X7 rfl (S_X7.h S0) 0 (by decide) wd308 rfl dX7_note_1 ?_
  refine J_iload_n E dX7_note_4 1 rfl ?_
  refine J_callVNI E cal_X6_hasThing wd588 rfl (S_X6.h (S_X7.f0 S0)) [.int x_0] [] (ct_X6_hasThing l D dA G v w (hOk) (rf G h0 0) (S_X7.f0 S0) x_0) rfl rfl (Nat.le_of_ble_eq_true rfl) ⟨rfl, rfl⟩ ⟨Nat.le_of_ble_eq_true rfl, Nat.le_of_ble_eq_true rfl⟩ dX7_note_5 (fun x14 v11 w12 p13 => ?_)
  rw [p13.1, p13.2.1]
  have b15 : Bd x14 0 1 := p13.2.2.1
  have e16 : x14 = F_X6_hasThing G w v (rf G h0 0) x_0 := (p13.2.2.2.2)
  refine J_if_eq E 42 dX7_note_8 (by decide) (fun c17 => ?_) (fun c17 => ?_)
  · have b18 : Bd x14 0 0 := Bd.eq_l c17 b15 (Bd.lit 0 0 (by decide)) 0 0 (by decide)
    exact J.sub [0] rfl (J42 ((kx_X7_note_3 (e16) (c17)).symm.trans hK))
  · have b19 : Bd x14 1 1 := (Bd.ne_lo c17 b15 (Bd.lit 0 0 (by decide))).w _ _ (by decide)
    have b20 : Bd x_0 0 6 := (p13.2.2.2.1).resolve_left c17
    refine J_iload_n E dX7_note_11 2 rfl ?_
    refine J_iconst E 1 dX7_note_12 (by decide) ?_
    refine J_bipush E 30 dX7_note_13 (by decide) ?_
    refine J_callSI E cal_X7_isWithin wd361 [.int x_1, .int 1, .int 30] [] (ct_X7_isWithin l D dA G v w (hOk) x_1 1 30) rfl rfl (Nat.le_of_ble_eq_true rfl) ⟨rfl, rfl⟩ ⟨Nat.le_of_ble_eq_true rfl, Nat.le_of_ble_eq_true rfl⟩ dX7_note_15 (fun x24 v21 w22 p23 => ?_)
    rw [p23.1, p23.2.1]
    have b25 : Bd x24 0 1 := p23.2.2.1
    have e26 : x24 = F_X7_isWithin G w v x_1 (1 : Int32) (30 : Int32) := (p23.2.2.2.2.2)
    refine J_if_eq E 42 dX7_note_18 (by decide) (fun c27 => ?_) (fun c27 => ?_)
    · have b28 : Bd x24 0 0 := Bd.eq_l c27 b25 (Bd.lit 0 0 (by decide)) 0 0 (by decide)
      have g29 : ¬ (1 ≤ x_1 ∧ x_1 ≤ 30) := (p23.2.2.2.2.1).resolve_left (fun h9 => h9 c27)
      exact J.sub [0] rfl (J42 ((kx_X7_note_4 (e16) (e26) (c17) (c27)).symm.trans hK))
    · have b30 : Bd x24 1 1 := (Bd.ne_lo c27 b25 (Bd.lit 0 0 (by decide))).w _ _ (by decide)
      have g31 := (p23.2.2.2.1).resolve_left c27
      have b32 : Bd x_1 1 I1 := Bd.le_r g31.1 (Bd.lit 1 1 (by decide)) (Bd.any x_1) 1 (by decide)
      have b33 : Bd x_1 1 30 := Bd.le_l g31.2 b32 (Bd.lit 30 30 (by decide)) 30 (by decide)
      refine J_iload_n E dX7_note_21 3 rfl ?_
      refine J_iconst E 0 dX7_note_22 (by decide) ?_
      refine J_bipush E 99 dX7_note_23 (by decide) ?_
      refine J_callSI E cal_X7_isWithin wd361 [.int x_2, .int 0, .int 99] [] (ct_X7_isWithin l D dA G v w (hOk) x_2 0 99) rfl rfl (Nat.le_of_ble_eq_true rfl) ⟨rfl, rfl⟩ ⟨Nat.le_of_ble_eq_true rfl, Nat.le_of_ble_eq_true rfl⟩ dX7_note_25 (fun x37 v34 w35 p36 => ?_)
      rw [p36.1, p36.2.1]
      have b38 : Bd x37 0 1 := p36.2.2.1
      have e39 : x37 = F_X7_isWithin G w v x_2 (0 : Int32) (99 : Int32) := (p36.2.2.2.2.2)
      refine J_if_eq E 42 dX7_note_28 (by decide) (fun c40 => ?_) (fun c40 => ?_)
      · have b41 : Bd x37 0 0 := Bd.eq_l c40 b38 (Bd.lit 0 0 (by decide)) 0 0 (by decide)
        have g42 : ¬ (0 ≤ x_2 ∧ x_2 ≤ 99) := (p36.2.2.2.2.1).resolve_left (fun h9 => h9 c40)
        exact J.sub [0] rfl (J42 ((kx_X7_note_5 (e16) (e26) (e39) (c17) (c27) (c40)).symm.trans hK))
      · have b43 : Bd x37 1 1 := (Bd.ne_lo c40 b38 (Bd.lit 0 0 (by decide))).w _ _ (by decide)
        have g44 := (p36.2.2.2.1).resolve_left c40
        have b45 : Bd x_2 0 I1 := Bd.le_r g44.1 (Bd.lit 0 0 (by decide)) (Bd.any x_2) 0 (by decide)
        have b46 : Bd x_2 0 99 := Bd.le_l g44.2 b45 (Bd.lit 99 99 (by decide)) 99 (by decide)
        refine J_iload E dX7_note_31 4 rfl ?_
        refine J_iconst E 0 dX7_note_33 (by decide) ?_
        refine J_bipush E 99 dX7_note_34 (by decide) ?_
        refine J_callSI E cal_X7_isWithin wd361 [.int x_3, .int 0, .int 99] [] (ct_X7_isWithin l D dA G v w (hOk) x_3 0 99) rfl rfl (Nat.le_of_ble_eq_true rfl) ⟨rfl, rfl⟩ ⟨Nat.le_of_ble_eq_true rfl, Nat.le_of_ble_eq_true rfl⟩ dX7_note_36 (fun x50 v47 w48 p49 => ?_)
        rw [p49.1, p49.2.1]
        have b51 : Bd x50 0 1 := p49.2.2.1
        have e52 : x50 = F_X7_isWithin G w v x_3 (0 : Int32) (99 : Int32) := (p49.2.2.2.2.2)
        refine J_if_ne E 47 dX7_note_39 (by decide) (fun c53 => ?_) (fun c53 => ?_)
        · have b54 : Bd x50 1 1 := (Bd.ne_lo c53 b51 (Bd.lit 0 0 (by decide))).w _ _ (by decide)
          have g55 := (p49.2.2.2.1).resolve_left c53
          have b56 : Bd x_3 0 I1 := Bd.le_r g55.1 (Bd.lit 0 0 (by decide)) (Bd.any x_3) 0 (by decide)
          have b57 : Bd x_3 0 99 := Bd.le_l g55.2 b56 (Bd.lit 99 99 (by decide)) 99 (by decide)
          refine J_aload_n E dX7_note_47 0 rfl ?_
          refine J_getR E in_X7 rfl (S_X7.h S0) 0 (by decide) wd308 rfl dX7_note_48 ?_
          refine J_getRN E in_X6 rfl (S_X6.h (S_X7.f0 S0)) 10 (by decide) wd216 rfl dX7_note_51 ?_
          refine J_callVNI E cal_X4_isFull wd731 rfl (S_X4.h (S_X6.f10 (S_X7.f0 S0))) [] [] (ct_X4_isFull_6 l D dA G v w (hOk) (rf G (rf G h0 0) 10) (S_X6.f10 (S_X7.f0 S0))) rfl rfl (Nat.le_of_ble_eq_true rfl) ⟨rfl, rfl⟩ ⟨Nat.le_of_ble_eq_true rfl, Nat.le_of_ble_eq_true rfl⟩ dX7_note_54 (fun x61 v58 w59 p60 => ?_)
          rw [p60.1, p60.2.1]
          have b62 : Bd x61 0 1 := p60.2.2.1
          have e63 : x61 = F_X4_isFull_6 G w v (rf G (rf G h0 0) 10) := (p60.2.2.2.2)
          refine J_if_eq E 65 dX7_note_57 (by decide) (fun c64 => ?_) (fun c64 => ?_)
          · have b65 : Bd x61 0 0 := Bd.eq_l c64 b62 (Bd.lit 0 0 (by decide)) 0 0 (by decide)
            obtain ⟨x66, e67⟩ : ∃ z : Int32, z = v (rf G (rf G h0 0) 10) 2 := ⟨_, rfl⟩
            have b68 : Bd x66 0 6 := Ok.fd hOk e67 (S_X4.h (S_X6.f10 (S_X7.f0 S0))) rfl
            have b69 : Bd x66 0 5 := Bd.e ((p60.2.2.2.1).resolve_left (fun h9 => h9 c64)) e67
            refine J_aload_n E dX7_note_65 0 rfl ?_
            refine J_getR E in_X7 rfl (S_X7.h S0) 0 (by decide) wd308 rfl dX7_note_66 ?_
            refine J_getRN E in_X6 rfl (S_X6.h (S_X7.f0 S0)) 10 (by decide) wd216 rfl dX7_note_69 ?_
            refine J_iload_n E dX7_note_72 1 rfl ?_
            refine J_iload_n E dX7_note_73 2 rfl ?_
            refine J_iload_n E dX7_note_74 3 rfl ?_
            refine J_iload E dX7_note_75 4 rfl ?_
            refine J_callVNI E cal_X4_add wd735 rfl (S_X4.h (S_X6.f10 (S_X7.f0 S0))) [.int x_0, .int x_1, .int x_2, .int x_3] [] (ct_X4_add_6 l D dA G v w (hOk) (rf G (rf G h0 0) 10) (S_X6.f10 (S_X7.f0 S0)) x_0 b20 x_1 b33 x_2 b46 x_3 b57 x66 (e67) b69) rfl rfl (Nat.le_of_ble_eq_true rfl) ⟨rfl, rfl⟩ ⟨Nat.le_of_ble_eq_true rfl, Nat.le_of_ble_eq_true rfl⟩ dX7_note_77 (fun x73 v70 w71 p72 => ?_)
            have ew9 : w = w71 := p72.2.2.2.1.1.symm
            subst ew9
            have o74 := p72.1
            have k75 : True := trivial
            have f76 : Fr G [4, 7, 120, 124] v v70 := Fr.tr Fr.rf (p72.2.2.2.2) (by decide)
            have b77 : Bd x73 1 6 := p72.2.2.1
            have e78 : x73 = (F_X4_add_6 G w v (rf G (rf G h0 0) 10) x_0 x_1 x_2 x_3).1 := congrArg Prod.fst (p72.2.2.2.1).2
            have e79 : v70 = (F_X4_add_6 G w v (rf G (rf G h0 0) 10) x_0 x_1 x_2 x_3).2 := congrArg Prod.snd (p72.2.2.2.1).2
            have hK : K_X7_note_c2 G w h0 v70 x73 = F_X7_note G w v h0 x_0 x_1 x_2 x_3 := ((kx_X7_note_6 (e16) (e26) (e39) (e52) (e63) (e78) (e79) (c17) (c27) (c40) (c53) (c64)).symm.trans hK)
            exact J_iret E hr dX7_note_80 ⟨o74, k75, trivial, ⟨⟨rfl, ((kx_X7_note_7).symm.trans hK)⟩, f76⟩⟩
          · have b80 : Bd x61 1 1 := (Bd.ne_lo c64 b62 (Bd.lit 0 0 (by decide))).w _ _ (by decide)
            refine J_aload_n E dX7_note_60 0 rfl ?_
            refine J_callVI E cal_X7_full wd368 rfl (S_X7.h S0) [] [] (ct_X7_full l D dA G v w (hOk) h0 S0) rfl rfl (Nat.le_of_ble_eq_true rfl) ⟨rfl, rfl⟩ ⟨Nat.le_of_ble_eq_true rfl, Nat.le_of_ble_eq_true rfl⟩ dX7_note_61 (fun x84 v81 w82 p83 => ?_)
            have ew9 : w = w82 := p83.2.2.2.1.1.symm
            subst ew9
            have o85 := p83.1
            have k86 : True := trivial
            have f87 : Fr G [4, 7, 120, 124] v v81 := Fr.tr Fr.rf (p83.2.2.2.2) (by decide)
            have b88 : Bd x84 (-4) (-4) := p83.2.2.1
            have e89 : x84 = (F_X7_full G w v h0).1 := congrArg Prod.fst (p83.2.2.2.1).2
            have e90 : v81 = (F_X7_full G w v h0).2 := congrArg Prod.snd (p83.2.2.2.1).2
            have hK : K_X7_note_c3 G w h0 v81 x84 = F_X7_note G w v h0 x_0 x_1 x_2 x_3 := ((kx_X7_note_8 (e16) (e26) (e39) (e52) (e63) (e89) (e90) (c17) (c27) (c40) (c53) (c64)).symm.trans hK)
            exact J_iret E hr dX7_note_64 ⟨o85, k86, trivial, ⟨⟨rfl, ((kx_X7_note_9).symm.trans hK)⟩, f87⟩⟩
        · have b91 : Bd x50 0 0 := Bd.eq_l c53 b51 (Bd.lit 0 0 (by decide)) 0 0 (by decide)
          have g92 : ¬ (0 ≤ x_3 ∧ x_3 ≤ 99) := (p49.2.2.2.2.1).resolve_left (fun h9 => h9 c53)
          exact J.sub [0] rfl (J42 ((kx_X7_note_10 (e16) (e26) (e39) (e52) (c17) (c27) (c40) (c53)).symm.trans hK))

def K_X7_mark_c1 (G : Gm) (w : Mw) (h0 : Nat) (v1 : Mv) (x4 : Int32) : Int32 × Mv :=
  (x4, v1)
def K_X7_mark_42 (G : Gm) (w : Mw) (h0 : Nat) (v : Mv) : Int32 × Mv :=
  K_X7_mark_c1 G w h0 ((F_X7_bad G w v h0).2) ((F_X7_bad G w v h0).1)
def K_X7_mark_c2 (G : Gm) (w : Mw) (h0 : Nat) (v70 : Mv) (x73 : Int32) : Int32 × Mv :=
  (x73, v70)
def K_X7_mark_c3 (G : Gm) (w : Mw) (h0 : Nat) (v81 : Mv) (x84 : Int32) : Int32 × Mv :=
  (x84, v81)
def K_X7_mark_e (G : Gm) (w : Mw) (v : Mv) (h0 : Nat) (x_0 : Int32) (x_1 : Int32) (x_2 : Int32) (x_3 : Int32) : Int32 × Mv :=
  if (F_X6_hasOne G w v (rf G h0 0) x_0) = (0 : Int32) then (K_X7_mark_42 G w h0 v) else (if (F_X7_isWithin G w v x_1 (1 : Int32) (9 : Int32)) = (0 : Int32) then (K_X7_mark_42 G w h0 v) else (if (F_X7_isWithin G w v x_2 (0 : Int32) (99 : Int32)) = (0 : Int32) then (K_X7_mark_42 G w h0 v) else (if (F_X7_isWithin G w v x_3 (0 : Int32) (99 : Int32)) = (0 : Int32) then (K_X7_mark_42 G w h0 v) else (if (F_X4_isFull_6 G w v (rf G (rf G h0 0) 11)) = (0 : Int32) then (K_X7_mark_c2 G w h0 ((F_X4_add_6 G w v (rf G (rf G h0 0) 11) x_0 x_1 x_2 x_3).2) ((F_X4_add_6 G w v (rf G (rf G h0 0) 11) x_0 x_1 x_2 x_3).1)) else (K_X7_mark_c3 G w h0 ((F_X7_full G w v h0).2) ((F_X7_full G w v h0).1))))))
def F_X7_mark (G : Gm) (w : Mw) (v : Mv) (h0 : Nat) (x_0 : Int32) (x_1 : Int32) (x_2 : Int32) (x_3 : Int32) : Int32 × Mv := K_X7_mark_e G w v h0 x_0 x_1 x_2 x_3
set_option maxRecDepth 100000 in
theorem kx_X7_mark_1 {G : Gm} {w : Mw} {h0 : Nat} {v : Mv} {v1 : Mv} {x4 : Int32} (a0 : x4 = (F_X7_bad G w v h0).1) (a1 : v1 = (F_X7_bad G w v h0).2)  : K_X7_mark_42 G w h0 v = K_X7_mark_c1 G w h0 v1 x4 := by
  subst a1; subst a0; first | rw [K_X7_mark_42] | simp only [K_X7_mark_42]
set_option maxRecDepth 100000 in
theorem kx_X7_mark_2 {G : Gm} {w : Mw} {h0 : Nat} {v1 : Mv} {x4 : Int32}   : K_X7_mark_c1 G w h0 v1 x4 = (x4, v1) := by
  first | rw [K_X7_mark_c1] | simp only [K_X7_mark_c1]
set_option maxRecDepth 100000 in
theorem kx_X7_mark_3 {G : Gm} {w : Mw} {v : Mv} {h0 : Nat} {x_0 : Int32} {x_1 : Int32} {x_2 : Int32} {x_3 : Int32} {x14 : Int32} (a0 : x14 = F_X6_hasOne G w v (rf G h0 0) x_0) (k0 : x14 = (0 : Int32)) : K_X7_mark_e G w v h0 x_0 x_1 x_2 x_3 = K_X7_mark_42 G w h0 v := by
  subst a0; first | rw [K_X7_mark_e, if_pos k0] | simp only [K_X7_mark_e, if_pos k0]
set_option maxRecDepth 100000 in
theorem kx_X7_mark_4 {G : Gm} {w : Mw} {v : Mv} {h0 : Nat} {x_0 : Int32} {x_1 : Int32} {x_2 : Int32} {x_3 : Int32} {x14 : Int32} {x24 : Int32} (a0 : x14 = F_X6_hasOne G w v (rf G h0 0) x_0) (a1 : x24 = F_X7_isWithin G w v x_1 (1 : Int32) (9 : Int32)) (k0 : ¬ (x14 = (0 : Int32))) (k1 : x24 = (0 : Int32)) : K_X7_mark_e G w v h0 x_0 x_1 x_2 x_3 = K_X7_mark_42 G w h0 v := by
  subst a1; subst a0; first | rw [K_X7_mark_e, if_neg k0, if_pos k1] | simp only [K_X7_mark_e, if_neg k0, if_pos k1]
set_option maxRecDepth 100000 in
theorem kx_X7_mark_5 {G : Gm} {w : Mw} {v : Mv} {h0 : Nat} {x_0 : Int32} {x_1 : Int32} {x_2 : Int32} {x_3 : Int32} {x14 : Int32} {x24 : Int32} {x37 : Int32} (a0 : x14 = F_X6_hasOne G w v (rf G h0 0) x_0) (a1 : x24 = F_X7_isWithin G w v x_1 (1 : Int32) (9 : Int32)) (a2 : x37 = F_X7_isWithin G w v x_2 (0 : Int32) (99 : Int32)) (k0 : ¬ (x14 = (0 : Int32))) (k1 : ¬ (x24 = (0 : Int32))) (k2 : x37 = (0 : Int32)) : K_X7_mark_e G w v h0 x_0 x_1 x_2 x_3 = K_X7_mark_42 G w h0 v := by
  subst a2; subst a1; subst a0; first | rw [K_X7_mark_e, if_neg k0, if_neg k1, if_pos k2] | simp only [K_X7_mark_e, if_neg k0, if_neg k1, if_pos k2]
set_option maxRecDepth 100000 in
theorem kx_X7_mark_6 {G : Gm} {w : Mw} {v : Mv} {h0 : Nat} {x_0 : Int32} {x_1 : Int32} {x_2 : Int32} {x_3 : Int32} {v70 : Mv} {x73 : Int32} {x14 : Int32} {x24 : Int32} {x37 : Int32} {x50 : Int32} {x61 : Int32} (a0 : x14 = F_X6_hasOne G w v (rf G h0 0) x_0) (a1 : x24 = F_X7_isWithin G w v x_1 (1 : Int32) (9 : Int32)) (a2 : x37 = F_X7_isWithin G w v x_2 (0 : Int32) (99 : Int32)) (a3 : x50 = F_X7_isWithin G w v x_3 (0 : Int32) (99 : Int32)) (a4 : x61 = F_X4_isFull_6 G w v (rf G (rf G h0 0) 11)) (a5 : x73 = (F_X4_add_6 G w v (rf G (rf G h0 0) 11) x_0 x_1 x_2 x_3).1) (a6 : v70 = (F_X4_add_6 G w v (rf G (rf G h0 0) 11) x_0 x_1 x_2 x_3).2) (k0 : ¬ (x14 = (0 : Int32))) (k1 : ¬ (x24 = (0 : Int32))) (k2 : ¬ (x37 = (0 : Int32))) (k3 : ¬ (x50 = (0 : Int32))) (k4 : x61 = (0 : Int32)) : K_X7_mark_e G w v h0 x_0 x_1 x_2 x_3 = K_X7_mark_c2 G w h0 v70 x73 := by
  subst a6; subst a5; subst a4; subst a3; subst a2; subst a1; subst a0; first | rw [K_X7_mark_e, if_neg k0, if_neg k1, if_neg k2, if_neg k3, if_pos k4] | simp only [K_X7_mark_e, if_neg k0, if_neg k1, if_neg k2, if_neg k3, if_pos k4]
set_option maxRecDepth 100000 in
theorem kx_X7_mark_7 {G : Gm} {w : Mw} {h0 : Nat} {v70 : Mv} {x73 : Int32}   : K_X7_mark_c2 G w h0 v70 x73 = (x73, v70) := by
  first | rw [K_X7_mark_c2] | simp only [K_X7_mark_c2]
set_option maxRecDepth 100000 in
theorem kx_X7_mark_8 {G : Gm} {w : Mw} {v : Mv} {h0 : Nat} {x_0 : Int32} {x_1 : Int32} {x_2 : Int32} {x_3 : Int32} {v81 : Mv} {x84 : Int32} {x14 : Int32} {x24 : Int32} {x37 : Int32} {x50 : Int32} {x61 : Int32} (a0 : x14 = F_X6_hasOne G w v (rf G h0 0) x_0) (a1 : x24 = F_X7_isWithin G w v x_1 (1 : Int32) (9 : Int32)) (a2 : x37 = F_X7_isWithin G w v x_2 (0 : Int32) (99 : Int32)) (a3 : x50 = F_X7_isWithin G w v x_3 (0 : Int32) (99 : Int32)) (a4 : x61 = F_X4_isFull_6 G w v (rf G (rf G h0 0) 11)) (a5 : x84 = (F_X7_full G w v h0).1) (a6 : v81 = (F_X7_full G w v h0).2) (k0 : ¬ (x14 = (0 : Int32))) (k1 : ¬ (x24 = (0 : Int32))) (k2 : ¬ (x37 = (0 : Int32))) (k3 : ¬ (x50 = (0 : Int32))) (k4 : ¬ (x61 = (0 : Int32))) : K_X7_mark_e G w v h0 x_0 x_1 x_2 x_3 = K_X7_mark_c3 G w h0 v81 x84 := by
  subst a6; subst a5; subst a4; subst a3; subst a2; subst a1; subst a0; first | rw [K_X7_mark_e, if_neg k0, if_neg k1, if_neg k2, if_neg k3, if_neg k4] | simp only [K_X7_mark_e, if_neg k0, if_neg k1, if_neg k2, if_neg k3, if_neg k4]
set_option maxRecDepth 100000 in
theorem kx_X7_mark_9 {G : Gm} {w : Mw} {h0 : Nat} {v81 : Mv} {x84 : Int32}   : K_X7_mark_c3 G w h0 v81 x84 = (x84, v81) := by
  first | rw [K_X7_mark_c3] | simp only [K_X7_mark_c3]
set_option maxRecDepth 100000 in
theorem kx_X7_mark_10 {G : Gm} {w : Mw} {v : Mv} {h0 : Nat} {x_0 : Int32} {x_1 : Int32} {x_2 : Int32} {x_3 : Int32} {x14 : Int32} {x24 : Int32} {x37 : Int32} {x50 : Int32} (a0 : x14 = F_X6_hasOne G w v (rf G h0 0) x_0) (a1 : x24 = F_X7_isWithin G w v x_1 (1 : Int32) (9 : Int32)) (a2 : x37 = F_X7_isWithin G w v x_2 (0 : Int32) (99 : Int32)) (a3 : x50 = F_X7_isWithin G w v x_3 (0 : Int32) (99 : Int32)) (k0 : ¬ (x14 = (0 : Int32))) (k1 : ¬ (x24 = (0 : Int32))) (k2 : ¬ (x37 = (0 : Int32))) (k3 : x50 = (0 : Int32)) : K_X7_mark_e G w v h0 x_0 x_1 x_2 x_3 = K_X7_mark_42 G w h0 v := by
  subst a3; subst a2; subst a1; subst a0; first | rw [K_X7_mark_e, if_neg k0, if_neg k1, if_neg k2, if_pos k3] | simp only [K_X7_mark_e, if_neg k0, if_neg k1, if_neg k2, if_pos k3]
abbrev rm_X7_mark : Room := { frames := 1, cells := 0, slots := 0, locals := 25 }
set_option maxHeartbeats 4000000 in
set_option maxRecDepth 100000 in
theorem ct_X7_mark (l : Launch) (D : va_G) (dA : Nat → ClassId) (G : Gm) (v : Mv) (w : Mw) (hOk : Ok G v w) (h0 : Nat) (S0 : S_X7 G h0) (x_0 : Int32) (x_1 : Int32) (x_2 : Int32) (x_3 : Int32) : CtI l yX7_mark cX7_mark 5 (some .int) rm_X7_mark D dA G [.ref h0, .int x_0, .int x_1, .int x_2, .int x_3] v w (fun r v1 w1 => Ok G v1 w1 ∧ True ∧ True ∧ (w1 = w ∧ (r, v1) = F_X7_mark G w v h0 x_0 x_1 x_2 x_3) ∧ Fr G [4, 7, 120, 124] v v1) := by
  refine CtI.of RX7 [(0, .ref h0), (1, .int x_0), (2, .int x_1), (3, .int x_2), (4, .int x_3)] (Nat.le_of_ble_eq_true rfl) rfl (by decide) rfl ?_
  intro p e s m args below meth c E hr
  have J42 : K_X7_mark_42 G w h0 v = F_X7_mark G w v h0 x_0 x_1 x_2 x_3 → J p l e rm_X7_mark s m args below meth c 0 0 (MQ below (QcI D dA G (fun r v1 w1 => Ok G v1 w1 ∧ True ∧ True ∧ (w1 = w ∧ (r, v1) = F_X7_mark G w v h0 x_0 x_1 x_2 x_3) ∧ Fr G [4, 7, 120, 124] v v1)) args s 0 0 (dm G)) D dA G (dm G) s.heap 5 v w [(0, .ref h0)] 42 [] := by
    intro hK
    refine J_aload_n E dX7_mark_42 0 rfl ?_
    refine J_callVI E cal_X7_bad wd364 rfl (S_X7.h S0) [] [] (ct_X7_bad l D dA G v w (hOk) h0 S0) rfl rfl (Nat.le_of_ble_eq_true rfl) ⟨rfl, rfl⟩ ⟨Nat.le_of_ble_eq_true rfl, Nat.le_of_ble_eq_true rfl⟩ dX7_mark_43 (fun x4 v1 w2 p3 => ?_)
    have ew9 : w = w2 := p3.2.2.2.1.1.symm
    subst ew9
    have o5 := p3.1
    have k6 : True := trivial
    have f7 : Fr G [4, 7, 120, 124] v v1 := Fr.tr Fr.rf (p3.2.2.2.2) (by decide)
    have b8 : Bd x4 (-2) (-2) := p3.2.2.1
    have e9 : x4 = (F_X7_bad G w v h0).1 := congrArg Prod.fst (p3.2.2.2.1).2
    have e10 : v1 = (F_X7_bad G w v h0).2 := congrArg Prod.snd (p3.2.2.2.1).2
    have hK : K_X7_mark_c1 G w h0 v1 x4 = F_X7_mark G w v h0 x_0 x_1 x_2 x_3 := ((kx_X7_mark_1 (e9) (e10)).symm.trans hK)
    exact J_iret E hr dX7_mark_46 ⟨o5, k6, trivial, ⟨⟨rfl, ((kx_X7_mark_2).symm.trans hK)⟩, f7⟩⟩
  have hK : K_X7_mark_e G w v h0 x_0 x_1 x_2 x_3 = F_X7_mark G w v h0 x_0 x_1 x_2 x_3 := rfl
  refine J_aload_n E dX7_mark_0 0 rfl ?_
  refine J_getR E in_X7 rfl (S_X7.h S0) 0 (by decide) wd308 rfl dX7_mark_1 ?_
  refine J_iload_n E dX7_mark_4 1 rfl ?_
  refine J_callVNI E cal_X6_hasOne wd584 rfl (S_X6.h (S_X7.f0 S0)) [.int x_0] [] (ct_X6_hasOne l D dA G v w (hOk) (rf G h0 0) (S_X7.f0 S0) x_0) rfl rfl (Nat.le_of_ble_eq_true rfl) ⟨rfl, rfl⟩ ⟨Nat.le_of_ble_eq_true rfl, Nat.le_of_ble_eq_true rfl⟩ dX7_mark_5 (fun x14 v11 w12 p13 => ?_)
  rw [p13.1, p13.2.1]
  have b15 : Bd x14 0 1 := p13.2.2.1
  have e16 : x14 = F_X6_hasOne G w v (rf G h0 0) x_0 := (p13.2.2.2.2)
  refine J_if_eq E 42 dX7_mark_8 (by decide) (fun c17 => ?_) (fun c17 => ?_)
  · have b18 : Bd x14 0 0 := Bd.eq_l c17 b15 (Bd.lit 0 0 (by decide)) 0 0 (by decide)
    exact J.sub [0] rfl (J42 ((kx_X7_mark_3 (e16) (c17)).symm.trans hK))
  · have b19 : Bd x14 1 1 := (Bd.ne_lo c17 b15 (Bd.lit 0 0 (by decide))).w _ _ (by decide)
    have b20 : Bd x_0 0 6 := (p13.2.2.2.1).resolve_left c17
    refine J_iload_n E dX7_mark_11 2 rfl ?_
    refine J_iconst E 1 dX7_mark_12 (by decide) ?_
    refine J_bipush E 9 dX7_mark_13 (by decide) ?_
    refine J_callSI E cal_X7_isWithin wd361 [.int x_1, .int 1, .int 9] [] (ct_X7_isWithin l D dA G v w (hOk) x_1 1 9) rfl rfl (Nat.le_of_ble_eq_true rfl) ⟨rfl, rfl⟩ ⟨Nat.le_of_ble_eq_true rfl, Nat.le_of_ble_eq_true rfl⟩ dX7_mark_15 (fun x24 v21 w22 p23 => ?_)
    rw [p23.1, p23.2.1]
    have b25 : Bd x24 0 1 := p23.2.2.1
    have e26 : x24 = F_X7_isWithin G w v x_1 (1 : Int32) (9 : Int32) := (p23.2.2.2.2.2)
    refine J_if_eq E 42 dX7_mark_18 (by decide) (fun c27 => ?_) (fun c27 => ?_)
    · have b28 : Bd x24 0 0 := Bd.eq_l c27 b25 (Bd.lit 0 0 (by decide)) 0 0 (by decide)
      have g29 : ¬ (1 ≤ x_1 ∧ x_1 ≤ 9) := (p23.2.2.2.2.1).resolve_left (fun h9 => h9 c27)
      exact J.sub [0] rfl (J42 ((kx_X7_mark_4 (e16) (e26) (c17) (c27)).symm.trans hK))
    · have b30 : Bd x24 1 1 := (Bd.ne_lo c27 b25 (Bd.lit 0 0 (by decide))).w _ _ (by decide)
      have g31 := (p23.2.2.2.1).resolve_left c27
      have b32 : Bd x_1 1 I1 := Bd.le_r g31.1 (Bd.lit 1 1 (by decide)) (Bd.any x_1) 1 (by decide)
      have b33 : Bd x_1 1 9 := Bd.le_l g31.2 b32 (Bd.lit 9 9 (by decide)) 9 (by decide)
      refine J_iload_n E dX7_mark_21 3 rfl ?_
      refine J_iconst E 0 dX7_mark_22 (by decide) ?_
      refine J_bipush E 99 dX7_mark_23 (by decide) ?_
      refine J_callSI E cal_X7_isWithin wd361 [.int x_2, .int 0, .int 99] [] (ct_X7_isWithin l D dA G v w (hOk) x_2 0 99) rfl rfl (Nat.le_of_ble_eq_true rfl) ⟨rfl, rfl⟩ ⟨Nat.le_of_ble_eq_true rfl, Nat.le_of_ble_eq_true rfl⟩ dX7_mark_25 (fun x37 v34 w35 p36 => ?_)
      rw [p36.1, p36.2.1]
      have b38 : Bd x37 0 1 := p36.2.2.1
      have e39 : x37 = F_X7_isWithin G w v x_2 (0 : Int32) (99 : Int32) := (p36.2.2.2.2.2)
      refine J_if_eq E 42 dX7_mark_28 (by decide) (fun c40 => ?_) (fun c40 => ?_)
      · have b41 : Bd x37 0 0 := Bd.eq_l c40 b38 (Bd.lit 0 0 (by decide)) 0 0 (by decide)
        have g42 : ¬ (0 ≤ x_2 ∧ x_2 ≤ 99) := (p36.2.2.2.2.1).resolve_left (fun h9 => h9 c40)
        exact J.sub [0] rfl (J42 ((kx_X7_mark_5 (e16) (e26) (e39) (c17) (c27) (c40)).symm.trans hK))
      · have b43 : Bd x37 1 1 := (Bd.ne_lo c40 b38 (Bd.lit 0 0 (by decide))).w _ _ (by decide)
        have g44 := (p36.2.2.2.1).resolve_left c40
        have b45 : Bd x_2 0 I1 := Bd.le_r g44.1 (Bd.lit 0 0 (by decide)) (Bd.any x_2) 0 (by decide)
        have b46 : Bd x_2 0 99 := Bd.le_l g44.2 b45 (Bd.lit 99 99 (by decide)) 99 (by decide)
        refine J_iload E dX7_mark_31 4 rfl ?_
        refine J_iconst E 0 dX7_mark_33 (by decide) ?_
        refine J_bipush E 99 dX7_mark_34 (by decide) ?_
        refine J_callSI E cal_X7_isWithin wd361 [.int x_3, .int 0, .int 99] [] (ct_X7_isWithin l D dA G v w (hOk) x_3 0 99) rfl rfl (Nat.le_of_ble_eq_true rfl) ⟨rfl, rfl⟩ ⟨Nat.le_of_ble_eq_true rfl, Nat.le_of_ble_eq_true rfl⟩ dX7_mark_36 (fun x50 v47 w48 p49 => ?_)
        rw [p49.1, p49.2.1]
        have b51 : Bd x50 0 1 := p49.2.2.1
        have e52 : x50 = F_X7_isWithin G w v x_3 (0 : Int32) (99 : Int32) := (p49.2.2.2.2.2)
        refine J_if_ne E 47 dX7_mark_39 (by decide) (fun c53 => ?_) (fun c53 => ?_)
        · have b54 : Bd x50 1 1 := (Bd.ne_lo c53 b51 (Bd.lit 0 0 (by decide))).w _ _ (by decide)
          have g55 := (p49.2.2.2.1).resolve_left c53
          have b56 : Bd x_3 0 I1 := Bd.le_r g55.1 (Bd.lit 0 0 (by decide)) (Bd.any x_3) 0 (by decide)
          have b57 : Bd x_3 0 99 := Bd.le_l g55.2 b56 (Bd.lit 99 99 (by decide)) 99 (by decide)
          refine J_aload_n E dX7_mark_47 0 rfl ?_
          refine J_getR E in_X7 rfl (S_X7.h S0) 0 (by decide) wd308 rfl dX7_mark_48 ?_
          refine J_getRN E in_X6 rfl (S_X6.h (S_X7.f0 S0)) 11 (by decide) wd218 rfl dX7_mark_51 ?_
          refine J_callVNI E cal_X4_isFull wd731 rfl (S_X4.h (S_X6.f11 (S_X7.f0 S0))) [] [] (ct_X4_isFull_6 l D dA G v w (hOk) (rf G (rf G h0 0) 11) (S_X6.f11 (S_X7.f0 S0))) rfl rfl (Nat.le_of_ble_eq_true rfl) ⟨rfl, rfl⟩ ⟨Nat.le_of_ble_eq_true rfl, Nat.le_of_ble_eq_true rfl⟩ dX7_mark_54 (fun x61 v58 w59 p60 => ?_)
          rw [p60.1, p60.2.1]
          have b62 : Bd x61 0 1 := p60.2.2.1
          have e63 : x61 = F_X4_isFull_6 G w v (rf G (rf G h0 0) 11) := (p60.2.2.2.2)
          refine J_if_eq E 65 dX7_mark_57 (by decide) (fun c64 => ?_) (fun c64 => ?_)
          · have b65 : Bd x61 0 0 := Bd.eq_l c64 b62 (Bd.lit 0 0 (by decide)) 0 0 (by decide)
            obtain ⟨x66, e67⟩ : ∃ z : Int32, z = v (rf G (rf G h0 0) 11) 2 := ⟨_, rfl⟩
            have b68 : Bd x66 0 6 := Ok.fd hOk e67 (S_X4.h (S_X6.f11 (S_X7.f0 S0))) rfl
            have b69 : Bd x66 0 5 := Bd.e ((p60.2.2.2.1).resolve_left (fun h9 => h9 c64)) e67
            refine J_aload_n E dX7_mark_65 0 rfl ?_
            refine J_getR E in_X7 rfl (S_X7.h S0) 0 (by decide) wd308 rfl dX7_mark_66 ?_
            refine J_getRN E in_X6 rfl (S_X6.h (S_X7.f0 S0)) 11 (by decide) wd218 rfl dX7_mark_69 ?_
            refine J_iload_n E dX7_mark_72 1 rfl ?_
            refine J_iload_n E dX7_mark_73 2 rfl ?_
            refine J_iload_n E dX7_mark_74 3 rfl ?_
            refine J_iload E dX7_mark_75 4 rfl ?_
            refine J_callVNI E cal_X4_add wd735 rfl (S_X4.h (S_X6.f11 (S_X7.f0 S0))) [.int x_0, .int x_1, .int x_2, .int x_3] [] (ct_X4_add_6 l D dA G v w (hOk) (rf G (rf G h0 0) 11) (S_X6.f11 (S_X7.f0 S0)) x_0 b20 x_1 (b33.w 1 30 (by decide)) x_2 b46 x_3 b57 x66 (e67) b69) rfl rfl (Nat.le_of_ble_eq_true rfl) ⟨rfl, rfl⟩ ⟨Nat.le_of_ble_eq_true rfl, Nat.le_of_ble_eq_true rfl⟩ dX7_mark_77 (fun x73 v70 w71 p72 => ?_)
            have ew9 : w = w71 := p72.2.2.2.1.1.symm
            subst ew9
            have o74 := p72.1
            have k75 : True := trivial
            have f76 : Fr G [4, 7, 120, 124] v v70 := Fr.tr Fr.rf (p72.2.2.2.2) (by decide)
            have b77 : Bd x73 1 6 := p72.2.2.1
            have e78 : x73 = (F_X4_add_6 G w v (rf G (rf G h0 0) 11) x_0 x_1 x_2 x_3).1 := congrArg Prod.fst (p72.2.2.2.1).2
            have e79 : v70 = (F_X4_add_6 G w v (rf G (rf G h0 0) 11) x_0 x_1 x_2 x_3).2 := congrArg Prod.snd (p72.2.2.2.1).2
            have hK : K_X7_mark_c2 G w h0 v70 x73 = F_X7_mark G w v h0 x_0 x_1 x_2 x_3 := ((kx_X7_mark_6 (e16) (e26) (e39) (e52) (e63) (e78) (e79) (c17) (c27) (c40) (c53) (c64)).symm.trans hK)
            exact J_iret E hr dX7_mark_80 ⟨o74, k75, trivial, ⟨⟨rfl, ((kx_X7_mark_7).symm.trans hK)⟩, f76⟩⟩
          · have b80 : Bd x61 1 1 := (Bd.ne_lo c64 b62 (Bd.lit 0 0 (by decide))).w _ _ (by decide)
            refine J_aload_n E dX7_mark_60 0 rfl ?_
            refine J_callVI E cal_X7_full wd368 rfl (S_X7.h S0) [] [] (ct_X7_full l D dA G v w (hOk) h0 S0) rfl rfl (Nat.le_of_ble_eq_true rfl) ⟨rfl, rfl⟩ ⟨Nat.le_of_ble_eq_true rfl, Nat.le_of_ble_eq_true rfl⟩ dX7_mark_61 (fun x84 v81 w82 p83 => ?_)
            have ew9 : w = w82 := p83.2.2.2.1.1.symm
            subst ew9
            have o85 := p83.1
            have k86 : True := trivial
            have f87 : Fr G [4, 7, 120, 124] v v81 := Fr.tr Fr.rf (p83.2.2.2.2) (by decide)
            have b88 : Bd x84 (-4) (-4) := p83.2.2.1
            have e89 : x84 = (F_X7_full G w v h0).1 := congrArg Prod.fst (p83.2.2.2.1).2
            have e90 : v81 = (F_X7_full G w v h0).2 := congrArg Prod.snd (p83.2.2.2.1).2
            have hK : K_X7_mark_c3 G w h0 v81 x84 = F_X7_mark G w v h0 x_0 x_1 x_2 x_3 := ((kx_X7_mark_8 (e16) (e26) (e39) (e52) (e63) (e89) (e90) (c17) (c27) (c40) (c53) (c64)).symm.trans hK)
            exact J_iret E hr dX7_mark_64 ⟨o85, k86, trivial, ⟨⟨rfl, ((kx_X7_mark_9).symm.trans hK)⟩, f87⟩⟩
        · have b91 : Bd x50 0 0 := Bd.eq_l c53 b51 (Bd.lit 0 0 (by decide)) 0 0 (by decide)
          have g92 : ¬ (0 ≤ x_3 ∧ x_3 ≤ 99) := (p49.2.2.2.2.1).resolve_left (fun h9 => h9 c53)
          exact J.sub [0] rfl (J42 ((kx_X7_mark_10 (e16) (e26) (e39) (e52) (c17) (c27) (c40) (c53)).symm.trans hK))

def K_X7_forget_c1 (G : Gm) (w : Mw) (h0 : Nat) (v16 : Mv) (x19 : Int32) : Int32 × Mv :=
  (x19, v16)
def K_X7_forget_c2 (G : Gm) (w : Mw) (h0 : Nat) (v27 : Mv) (x30 : Int32) : Int32 × Mv :=
  (x30, v27)
def K_X7_forget_c3 (G : Gm) (w : Mw) (h0 : Nat) (v38 : Mv) (x41 : Int32) : Int32 × Mv :=
  (x41, v38)
def K_X7_forget_c4 (G : Gm) (w : Mw) (h0 : Nat) (v50 : Mv) (x53 : Int32) : Int32 × Mv :=
  (x53, v50)
def K_X7_forget_e (G : Gm) (w : Mw) (v : Mv) (h0 : Nat) (x_0 : Int32) : Int32 × Mv :=
  if (F_X7_isWithin G w v x_0 (0 : Int32) (2 : Int32)) = (0 : Int32) then (K_X7_forget_c4 G w h0 ((F_X7_bad G w v h0).2) ((F_X7_bad G w v h0).1)) else (if x_0 = (0 : Int32) then (K_X7_forget_c3 G w h0 ((F_X4_drop_5 G w v (rf G (rf G h0 0) 9)).2) ((F_X4_drop_5 G w v (rf G (rf G h0 0) 9)).1)) else (if x_0 = (1 : Int32) then (K_X7_forget_c2 G w h0 ((F_X4_drop_6 G w v (rf G (rf G h0 0) 10)).2) ((F_X4_drop_6 G w v (rf G (rf G h0 0) 10)).1)) else (K_X7_forget_c1 G w h0 ((F_X4_drop_6 G w v (rf G (rf G h0 0) 11)).2) ((F_X4_drop_6 G w v (rf G (rf G h0 0) 11)).1))))
def F_X7_forget (G : Gm) (w : Mw) (v : Mv) (h0 : Nat) (x_0 : Int32) : Int32 × Mv := K_X7_forget_e G w v h0 x_0
set_option maxRecDepth 100000 in
theorem kx_X7_forget_1 {G : Gm} {w : Mw} {v : Mv} {h0 : Nat} {x_0 : Int32} {v16 : Mv} {x19 : Int32} {x4 : Int32} (a0 : x4 = F_X7_isWithin G w v x_0 (0 : Int32) (2 : Int32)) (a1 : x19 = (F_X4_drop_6 G w v (rf G (rf G h0 0) 11)).1) (a2 : v16 = (F_X4_drop_6 G w v (rf G (rf G h0 0) 11)).2) (k0 : ¬ (x4 = (0 : Int32))) (k1 : ¬ (x_0 = (0 : Int32))) (k2 : ¬ (x_0 = (1 : Int32))) : K_X7_forget_e G w v h0 x_0 = K_X7_forget_c1 G w h0 v16 x19 := by
  subst a2; subst a1; subst a0; first | rw [K_X7_forget_e, if_neg k0, if_neg k1, if_neg k2] | simp only [K_X7_forget_e, if_neg k0, if_neg k1, if_neg k2]
set_option maxRecDepth 100000 in
theorem kx_X7_forget_2 {G : Gm} {w : Mw} {h0 : Nat} {v16 : Mv} {x19 : Int32}   : K_X7_forget_c1 G w h0 v16 x19 = (x19, v16) := by
  first | rw [K_X7_forget_c1] | simp only [K_X7_forget_c1]
set_option maxRecDepth 100000 in
theorem kx_X7_forget_3 {G : Gm} {w : Mw} {v : Mv} {h0 : Nat} {x_0 : Int32} {v27 : Mv} {x30 : Int32} {x4 : Int32} (a0 : x4 = F_X7_isWithin G w v x_0 (0 : Int32) (2 : Int32)) (a1 : x30 = (F_X4_drop_6 G w v (rf G (rf G h0 0) 10)).1) (a2 : v27 = (F_X4_drop_6 G w v (rf G (rf G h0 0) 10)).2) (k0 : ¬ (x4 = (0 : Int32))) (k1 : ¬ (x_0 = (0 : Int32))) (k2 : x_0 = (1 : Int32)) : K_X7_forget_e G w v h0 x_0 = K_X7_forget_c2 G w h0 v27 x30 := by
  subst a2; subst a1; subst a0; first | rw [K_X7_forget_e, if_neg k0, if_neg k1, if_pos k2] | simp only [K_X7_forget_e, if_neg k0, if_neg k1, if_pos k2]
set_option maxRecDepth 100000 in
theorem kx_X7_forget_4 {G : Gm} {w : Mw} {h0 : Nat} {v27 : Mv} {x30 : Int32}   : K_X7_forget_c2 G w h0 v27 x30 = (x30, v27) := by
  first | rw [K_X7_forget_c2] | simp only [K_X7_forget_c2]
set_option maxRecDepth 100000 in
theorem kx_X7_forget_5 {G : Gm} {w : Mw} {v : Mv} {h0 : Nat} {x_0 : Int32} {v38 : Mv} {x41 : Int32} {x4 : Int32} (a0 : x4 = F_X7_isWithin G w v x_0 (0 : Int32) (2 : Int32)) (a1 : x41 = (F_X4_drop_5 G w v (rf G (rf G h0 0) 9)).1) (a2 : v38 = (F_X4_drop_5 G w v (rf G (rf G h0 0) 9)).2) (k0 : ¬ (x4 = (0 : Int32))) (k1 : x_0 = (0 : Int32)) : K_X7_forget_e G w v h0 x_0 = K_X7_forget_c3 G w h0 v38 x41 := by
  subst a2; subst a1; subst a0; first | rw [K_X7_forget_e, if_neg k0, if_pos k1] | simp only [K_X7_forget_e, if_neg k0, if_pos k1]
set_option maxRecDepth 100000 in
theorem kx_X7_forget_6 {G : Gm} {w : Mw} {h0 : Nat} {v38 : Mv} {x41 : Int32}   : K_X7_forget_c3 G w h0 v38 x41 = (x41, v38) := by
  first | rw [K_X7_forget_c3] | simp only [K_X7_forget_c3]
set_option maxRecDepth 100000 in
theorem kx_X7_forget_7 {G : Gm} {w : Mw} {v : Mv} {h0 : Nat} {x_0 : Int32} {v50 : Mv} {x53 : Int32} {x4 : Int32} (a0 : x4 = F_X7_isWithin G w v x_0 (0 : Int32) (2 : Int32)) (a1 : x53 = (F_X7_bad G w v h0).1) (a2 : v50 = (F_X7_bad G w v h0).2) (k0 : x4 = (0 : Int32)) : K_X7_forget_e G w v h0 x_0 = K_X7_forget_c4 G w h0 v50 x53 := by
  subst a2; subst a1; subst a0; first | rw [K_X7_forget_e, if_pos k0] | simp only [K_X7_forget_e, if_pos k0]
set_option maxRecDepth 100000 in
theorem kx_X7_forget_8 {G : Gm} {w : Mw} {h0 : Nat} {v50 : Mv} {x53 : Int32}   : K_X7_forget_c4 G w h0 v50 x53 = (x53, v50) := by
  first | rw [K_X7_forget_c4] | simp only [K_X7_forget_c4]
abbrev rm_X7_forget : Room := { frames := 1, cells := 0, slots := 0, locals := 22 }
set_option maxHeartbeats 4000000 in
set_option maxRecDepth 100000 in
theorem ct_X7_forget (l : Launch) (D : va_G) (dA : Nat → ClassId) (G : Gm) (v : Mv) (w : Mw) (hOk : Ok G v w) (h0 : Nat) (S0 : S_X7 G h0) (x_0 : Int32) : CtI l yX7_forget cX7_forget 2 (some .int) rm_X7_forget D dA G [.ref h0, .int x_0] v w (fun r v1 w1 => Ok G v1 w1 ∧ True ∧ True ∧ (w1 = w ∧ (r, v1) = F_X7_forget G w v h0 x_0) ∧ Fr G [4, 7] v v1) := by
  refine CtI.of RX7 [(0, .ref h0), (1, .int x_0)] (Nat.le_of_ble_eq_true rfl) rfl (by decide) rfl ?_
  intro p e s m args below meth c E hr
  have hK : K_X7_forget_e G w v h0 x_0 = F_X7_forget G w v h0 x_0 := rfl
  refine J_iload_n E dX7_forget_0 1 rfl ?_
  refine J_iconst E 0 dX7_forget_1 (by decide) ?_
  refine J_iconst E 2 dX7_forget_2 (by decide) ?_
  refine J_callSI E cal_X7_isWithin wd361 [.int x_0, .int 0, .int 2] [] (ct_X7_isWithin l D dA G v w (hOk) x_0 0 2) rfl rfl (Nat.le_of_ble_eq_true rfl) ⟨rfl, rfl⟩ ⟨Nat.le_of_ble_eq_true rfl, Nat.le_of_ble_eq_true rfl⟩ dX7_forget_3 (fun x4 v1 w2 p3 => ?_)
  rw [p3.1, p3.2.1]
  have b5 : Bd x4 0 1 := p3.2.2.1
  have e6 : x4 = F_X7_isWithin G w v x_0 (0 : Int32) (2 : Int32) := (p3.2.2.2.2.2)
  refine J_if_ne E 14 dX7_forget_6 (by decide) (fun c7 => ?_) (fun c7 => ?_)
  · have b8 : Bd x4 1 1 := (Bd.ne_lo c7 b5 (Bd.lit 0 0 (by decide))).w _ _ (by decide)
    have g9 := (p3.2.2.2.1).resolve_left c7
    have b10 : Bd x_0 0 I1 := Bd.le_r g9.1 (Bd.lit 0 0 (by decide)) (Bd.any x_0) 0 (by decide)
    have b11 : Bd x_0 0 2 := Bd.le_l g9.2 b10 (Bd.lit 2 2 (by decide)) 2 (by decide)
    refine J_iload_n E dX7_forget_14 1 rfl ?_
    refine J_if_ne E 29 dX7_forget_15 (by decide) (fun c12 => ?_) (fun c12 => ?_)
    · have b13 : Bd x_0 1 2 := (Bd.ne_lo c12 b11 (Bd.lit 0 0 (by decide))).w _ _ (by decide)
      refine J_iload_n E dX7_forget_29 1 rfl ?_
      refine J_iconst E 1 dX7_forget_30 (by decide) ?_
      refine J_icmp_ne E 47 dX7_forget_31 (by decide) (fun c14 => ?_) (fun c14 => ?_)
      · have b15 : Bd x_0 2 2 := (Bd.ne_lo c14 b13 (Bd.lit 1 1 (by decide))).w _ _ (by decide)
        refine J_aload_n E dX7_forget_47 0 rfl ?_
        refine J_getR E in_X7 rfl (S_X7.h S0) 0 (by decide) wd308 rfl dX7_forget_48 ?_
        refine J_getRN E in_X6 rfl (S_X6.h (S_X7.f0 S0)) 11 (by decide) wd218 rfl dX7_forget_51 ?_
        refine J_callVNI E cal_X4_drop wd792 rfl (S_X4.h (S_X6.f11 (S_X7.f0 S0))) [] [] (ct_X4_drop_6 l D dA G v w (hOk) (rf G (rf G h0 0) 11) (S_X6.f11 (S_X7.f0 S0))) rfl rfl (Nat.le_of_ble_eq_true rfl) ⟨rfl, rfl⟩ ⟨Nat.le_of_ble_eq_true rfl, Nat.le_of_ble_eq_true rfl⟩ dX7_forget_54 (fun x19 v16 w17 p18 => ?_)
        have ew9 : w = w17 := p18.2.2.2.1.1.symm
        subst ew9
        have o20 := p18.1
        have k21 : True := trivial
        have f22 : Fr G [4, 7] v v16 := Fr.tr Fr.rf (p18.2.2.2.2) (by decide)
        have b23 : Bd x19 0 6 := p18.2.2.1
        have e24 : x19 = (F_X4_drop_6 G w v (rf G (rf G h0 0) 11)).1 := congrArg Prod.fst (p18.2.2.2.1).2
        have e25 : v16 = (F_X4_drop_6 G w v (rf G (rf G h0 0) 11)).2 := congrArg Prod.snd (p18.2.2.2.1).2
        have hK : K_X7_forget_c1 G w h0 v16 x19 = F_X7_forget G w v h0 x_0 := ((kx_X7_forget_1 (e6) (e24) (e25) (c7) (c12) (c14)).symm.trans hK)
        exact J_iret E hr dX7_forget_57 ⟨o20, k21, trivial, ⟨⟨rfl, ((kx_X7_forget_2).symm.trans hK)⟩, f22⟩⟩
      · have b26 : Bd x_0 1 1 := Bd.eq_l c14 b13 (Bd.lit 1 1 (by decide)) 1 1 (by decide)
        refine J_aload_n E dX7_forget_34 0 rfl ?_
        refine J_getR E in_X7 rfl (S_X7.h S0) 0 (by decide) wd308 rfl dX7_forget_35 ?_
        refine J_getRN E in_X6 rfl (S_X6.h (S_X7.f0 S0)) 10 (by decide) wd216 rfl dX7_forget_38 ?_
        refine J_callVNI E cal_X4_drop wd792 rfl (S_X4.h (S_X6.f10 (S_X7.f0 S0))) [] [] (ct_X4_drop_6 l D dA G v w (hOk) (rf G (rf G h0 0) 10) (S_X6.f10 (S_X7.f0 S0))) rfl rfl (Nat.le_of_ble_eq_true rfl) ⟨rfl, rfl⟩ ⟨Nat.le_of_ble_eq_true rfl, Nat.le_of_ble_eq_true rfl⟩ dX7_forget_41 (fun x30 v27 w28 p29 => ?_)
        have ew9 : w = w28 := p29.2.2.2.1.1.symm
        subst ew9
        have o31 := p29.1
        have k32 : True := trivial
        have f33 : Fr G [4, 7] v v27 := Fr.tr Fr.rf (p29.2.2.2.2) (by decide)
        have b34 : Bd x30 0 6 := p29.2.2.1
        have e35 : x30 = (F_X4_drop_6 G w v (rf G (rf G h0 0) 10)).1 := congrArg Prod.fst (p29.2.2.2.1).2
        have e36 : v27 = (F_X4_drop_6 G w v (rf G (rf G h0 0) 10)).2 := congrArg Prod.snd (p29.2.2.2.1).2
        have hK : K_X7_forget_c2 G w h0 v27 x30 = F_X7_forget G w v h0 x_0 := ((kx_X7_forget_3 (e6) (e35) (e36) (c7) (c12) (c14)).symm.trans hK)
        refine J_goto E 57 dX7_forget_44 (by decide) ?_
        exact J_iret E hr dX7_forget_57 ⟨o31, k32, trivial, ⟨⟨rfl, ((kx_X7_forget_4).symm.trans hK)⟩, f33⟩⟩
    · have b37 : Bd x_0 0 0 := Bd.eq_l c12 b11 (Bd.lit 0 0 (by decide)) 0 0 (by decide)
      refine J_aload_n E dX7_forget_18 0 rfl ?_
      refine J_getR E in_X7 rfl (S_X7.h S0) 0 (by decide) wd308 rfl dX7_forget_19 ?_
      refine J_getRN E in_X6 rfl (S_X6.h (S_X7.f0 S0)) 9 (by decide) wd214 rfl dX7_forget_22 ?_
      refine J_callVNI E cal_X4_drop wd792 rfl (S_X4.h (S_X6.f9 (S_X7.f0 S0))) [] [] (ct_X4_drop_5 l D dA G v w (hOk) (rf G (rf G h0 0) 9) (S_X6.f9 (S_X7.f0 S0))) rfl rfl (Nat.le_of_ble_eq_true rfl) ⟨rfl, rfl⟩ ⟨Nat.le_of_ble_eq_true rfl, Nat.le_of_ble_eq_true rfl⟩ dX7_forget_25 (fun x41 v38 w39 p40 => ?_)
      have ew9 : w = w39 := p40.2.2.2.1.1.symm
      subst ew9
      have o42 := p40.1
      have k43 : True := trivial
      have f44 : Fr G [4, 7] v v38 := Fr.tr Fr.rf (p40.2.2.2.2) (by decide)
      have b45 : Bd x41 0 5 := p40.2.2.1
      have e46 : x41 = (F_X4_drop_5 G w v (rf G (rf G h0 0) 9)).1 := congrArg Prod.fst (p40.2.2.2.1).2
      have e47 : v38 = (F_X4_drop_5 G w v (rf G (rf G h0 0) 9)).2 := congrArg Prod.snd (p40.2.2.2.1).2
      have hK : K_X7_forget_c3 G w h0 v38 x41 = F_X7_forget G w v h0 x_0 := ((kx_X7_forget_5 (e6) (e46) (e47) (c7) (c12)).symm.trans hK)
      exact J_iret E hr dX7_forget_28 ⟨o42, k43, trivial, ⟨⟨rfl, ((kx_X7_forget_6).symm.trans hK)⟩, f44⟩⟩
  · have b48 : Bd x4 0 0 := Bd.eq_l c7 b5 (Bd.lit 0 0 (by decide)) 0 0 (by decide)
    have g49 : ¬ (0 ≤ x_0 ∧ x_0 ≤ 2) := (p3.2.2.2.2.1).resolve_left (fun h9 => h9 c7)
    refine J_aload_n E dX7_forget_9 0 rfl ?_
    refine J_callVI E cal_X7_bad wd364 rfl (S_X7.h S0) [] [] (ct_X7_bad l D dA G v w (hOk) h0 S0) rfl rfl (Nat.le_of_ble_eq_true rfl) ⟨rfl, rfl⟩ ⟨Nat.le_of_ble_eq_true rfl, Nat.le_of_ble_eq_true rfl⟩ dX7_forget_10 (fun x53 v50 w51 p52 => ?_)
    have ew9 : w = w51 := p52.2.2.2.1.1.symm
    subst ew9
    have o54 := p52.1
    have k55 : True := trivial
    have f56 : Fr G [4, 7] v v50 := Fr.tr Fr.rf (p52.2.2.2.2) (by decide)
    have b57 : Bd x53 (-2) (-2) := p52.2.2.1
    have e58 : x53 = (F_X7_bad G w v h0).1 := congrArg Prod.fst (p52.2.2.2.1).2
    have e59 : v50 = (F_X7_bad G w v h0).2 := congrArg Prod.snd (p52.2.2.2.1).2
    have hK : K_X7_forget_c4 G w h0 v50 x53 = F_X7_forget G w v h0 x_0 := ((kx_X7_forget_7 (e6) (e58) (e59) (c7)).symm.trans hK)
    exact J_iret E hr dX7_forget_13 ⟨o54, k55, trivial, ⟨⟨rfl, ((kx_X7_forget_8).symm.trans hK)⟩, f56⟩⟩

def K_X7_is_c1 (G : Gm) (w : Mw) (h0 : Nat) (v9 : Mv) (x12 : Int32) : Int32 × Mv :=
  (x12, v9)
def K_X7_is_e (G : Gm) (w : Mw) (v : Mv) (h0 : Nat) (x_0 : Int32) : Int32 × Mv :=
  if (F_X6_hasThing G w v (rf G h0 0) x_0) = (0 : Int32) then (K_X7_is_c1 G w h0 ((F_X7_bad G w v h0).2) ((F_X7_bad G w v h0).1)) else (((F_X6_fittingThingKinds G w v (rf G h0 0) x_0), v))
def F_X7_is (G : Gm) (w : Mw) (v : Mv) (h0 : Nat) (x_0 : Int32) : Int32 × Mv := K_X7_is_e G w v h0 x_0
set_option maxRecDepth 100000 in
theorem kx_X7_is_1 {G : Gm} {w : Mw} {v : Mv} {h0 : Nat} {x_0 : Int32} {v9 : Mv} {x12 : Int32} {x4 : Int32} (a0 : x4 = F_X6_hasThing G w v (rf G h0 0) x_0) (a1 : x12 = (F_X7_bad G w v h0).1) (a2 : v9 = (F_X7_bad G w v h0).2) (k0 : x4 = (0 : Int32)) : K_X7_is_e G w v h0 x_0 = K_X7_is_c1 G w h0 v9 x12 := by
  subst a2; subst a1; subst a0; first | rw [K_X7_is_e, if_pos k0] | simp only [K_X7_is_e, if_pos k0]
set_option maxRecDepth 100000 in
theorem kx_X7_is_2 {G : Gm} {w : Mw} {h0 : Nat} {v9 : Mv} {x12 : Int32}   : K_X7_is_c1 G w h0 v9 x12 = (x12, v9) := by
  first | rw [K_X7_is_c1] | simp only [K_X7_is_c1]
set_option maxRecDepth 100000 in
theorem kx_X7_is_3 {G : Gm} {w : Mw} {v : Mv} {h0 : Nat} {x_0 : Int32} {x24 : Int32} {x4 : Int32} (a0 : x4 = F_X6_hasThing G w v (rf G h0 0) x_0) (a1 : x24 = F_X6_fittingThingKinds G w v (rf G h0 0) x_0) (k0 : ¬ (x4 = (0 : Int32))) : K_X7_is_e G w v h0 x_0 = (x24, v) := by
  subst a1; subst a0; first | rw [K_X7_is_e, if_neg k0] | simp only [K_X7_is_e, if_neg k0]
abbrev rm_X7_is : Room := { frames := 4, cells := 0, slots := 0, locals := 89 }
set_option maxHeartbeats 4000000 in
set_option maxRecDepth 100000 in
theorem ct_X7_is (l : Launch) (D : va_G) (dA : Nat → ClassId) (G : Gm) (v : Mv) (w : Mw) (hOk : Ok G v w) (h0 : Nat) (S0 : S_X7 G h0) (x_0 : Int32) : CtI l yX7_is cX7_is 2 (some .int) rm_X7_is D dA G [.ref h0, .int x_0] v w (fun r v1 w1 => Ok G v1 w1 ∧ Kp G v v1 ∧ True ∧ (w1 = w ∧ (r, v1) = F_X7_is G w v h0 x_0) ∧ Fr G [7] v v1) := by
  refine CtI.of RX7 [(0, .ref h0), (1, .int x_0)] (Nat.le_of_ble_eq_true rfl) rfl (by decide) rfl ?_
  intro p e s m args below meth c E hr
  have hK : K_X7_is_e G w v h0 x_0 = F_X7_is G w v h0 x_0 := rfl
  refine J_aload_n E dX7_is_0 0 rfl ?_
  refine J_getR E in_X7 rfl (S_X7.h S0) 0 (by decide) wd308 rfl dX7_is_1 ?_
  refine J_iload_n E dX7_is_4 1 rfl ?_
  refine J_callVNI E cal_X6_hasThing wd588 rfl (S_X6.h (S_X7.f0 S0)) [.int x_0] [] (ct_X6_hasThing l D dA G v w (hOk) (rf G h0 0) (S_X7.f0 S0) x_0) rfl rfl (Nat.le_of_ble_eq_true rfl) ⟨rfl, rfl⟩ ⟨Nat.le_of_ble_eq_true rfl, Nat.le_of_ble_eq_true rfl⟩ dX7_is_5 (fun x4 v1 w2 p3 => ?_)
  rw [p3.1, p3.2.1]
  have b5 : Bd x4 0 1 := p3.2.2.1
  have e6 : x4 = F_X6_hasThing G w v (rf G h0 0) x_0 := (p3.2.2.2.2)
  refine J_if_eq E 22 dX7_is_8 (by decide) (fun c7 => ?_) (fun c7 => ?_)
  · have b8 : Bd x4 0 0 := Bd.eq_l c7 b5 (Bd.lit 0 0 (by decide)) 0 0 (by decide)
    refine J_aload_n E dX7_is_22 0 rfl ?_
    refine J_callVI E cal_X7_bad wd364 rfl (S_X7.h S0) [] [] (ct_X7_bad l D dA G v w (hOk) h0 S0) rfl rfl (Nat.le_of_ble_eq_true rfl) ⟨rfl, rfl⟩ ⟨Nat.le_of_ble_eq_true rfl, Nat.le_of_ble_eq_true rfl⟩ dX7_is_23 (fun x12 v9 w10 p11 => ?_)
    have ew9 : w = w10 := p11.2.2.2.1.1.symm
    subst ew9
    have o13 := p11.1
    have k14 : Kp G v v9 := (Kp.rf).tr p11.2.1
    have f15 : Fr G [7] v v9 := Fr.tr Fr.rf (p11.2.2.2.2) (by decide)
    have b16 : Bd x12 (-2) (-2) := p11.2.2.1
    have e17 : x12 = (F_X7_bad G w v h0).1 := congrArg Prod.fst (p11.2.2.2.1).2
    have e18 : v9 = (F_X7_bad G w v h0).2 := congrArg Prod.snd (p11.2.2.2.1).2
    have hK : K_X7_is_c1 G w h0 v9 x12 = F_X7_is G w v h0 x_0 := ((kx_X7_is_1 (e6) (e17) (e18) (c7)).symm.trans hK)
    exact J_iret E hr dX7_is_26 ⟨o13, k14, trivial, ⟨⟨rfl, ((kx_X7_is_2).symm.trans hK)⟩, f15⟩⟩
  · have b19 : Bd x4 1 1 := (Bd.ne_lo c7 b5 (Bd.lit 0 0 (by decide))).w _ _ (by decide)
    have b20 : Bd x_0 0 6 := (p3.2.2.2.1).resolve_left c7
    refine J_aload_n E dX7_is_11 0 rfl ?_
    refine J_getR E in_X7 rfl (S_X7.h S0) 0 (by decide) wd308 rfl dX7_is_12 ?_
    refine J_iload_n E dX7_is_15 1 rfl ?_
    refine J_callVNI E cal_X6_fittingThingKinds wd797 rfl (S_X6.h (S_X7.f0 S0)) [.int x_0] [] (ct_X6_fittingThingKinds l D dA G v w (hOk) (rf G h0 0) (S_X7.f0 S0) x_0 b20) rfl rfl (Nat.le_of_ble_eq_true rfl) ⟨rfl, rfl⟩ ⟨Nat.le_of_ble_eq_true rfl, Nat.le_of_ble_eq_true rfl⟩ dX7_is_16 (fun x24 v21 w22 p23 => ?_)
    rw [p23.1, p23.2.1]
    have b25 : Bd x24 0 63 := p23.2.2.1
    have e26 : x24 = F_X6_fittingThingKinds G w v (rf G h0 0) x_0 := (p23.2.2.2)
    refine J_goto E 26 dX7_is_19 (by decide) ?_
    exact J_iret E hr dX7_is_26 ⟨hOk, Kp.rf, trivial, ⟨⟨rfl, ((kx_X7_is_3 (e6) (e26) (c7)).symm.trans hK)⟩, Fr.rf⟩⟩

def K_X7_look_89 (G : Gm) (w : Mw) (h0 : Nat) (rec40 : Mv → Int32 → Int32 → Int32 → Int32 → Int32 → Int32 × Mv) (v14 : Mv) (x_0 : Int32) (x6 : Int32) (x20 : Int32) (x22 : Int32) (x12 : Int32) : Int32 × Mv :=
  rec40 v14 x_0 x6 x20 x22 (x12 + (1 : Int32))
def K_X7_look_c1 (G : Gm) (w : Mw) (h0 : Nat) (rec40 : Mv → Int32 → Int32 → Int32 → Int32 → Int32 → Int32 × Mv) (v33 : Mv) (x_0 : Int32) (x6 : Int32) (x8 : Int32) (x10 : Int32) (x12 : Int32) : Int32 × Mv :=
  if x10 ≤ (F_X0_mostAlike G w v33 (rf G h0 5)) then (K_X7_look_89 G w h0 rec40 v33 x_0 x6 x8 x10 x12) else (K_X7_look_89 G w h0 rec40 v33 x_0 x6 x12 (F_X0_mostAlike G w v33 (rf G h0 5)) x12)
def K_X7_look_40 (G : Gm) (w : Mw) (h0 : Nat) : Nat → Mv → Int32 → Int32 → Int32 → Int32 → Int32 → Int32 × Mv
  | 0, _, _, _, _, _, _ => ((0 : Int32), (fun _ _ => 0 : Mv))
  | n40 + 1, v1, x_0, x6, x8, x10, x12 =>
    if (60 : Int32) < x12 then ((x8, v1)) else (K_X7_look_c1 G w h0 (K_X7_look_40 G w h0 n40) (F_X0_fillByThingKind G w v1 (rf G h0 5) x6 (v1 (rf G (rf G h0 0) 2) (Int32.toNatClampNeg x_0)) x12) x_0 x6 x8 x10 x12)
def K_X7_look_c2 (G : Gm) (w : Mw) (h0 : Nat) (v67 : Mv) (x70 : Int32) : Int32 × Mv :=
  (x70, v67)
def K_X7_look_e (G : Gm) (w : Mw) (v : Mv) (h0 : Nat) (x_0 : Int32) : Int32 × Mv :=
  if (F_X6_hasThing G w v (rf G h0 0) x_0) = (0 : Int32) then (K_X7_look_c2 G w h0 ((F_X7_bad G w v h0).2) ((F_X7_bad G w v h0).1)) else (if (F_X6_fittingThingKinds G w v (rf G h0 0) x_0) = (0 : Int32) then (((-1 : Int32), v)) else (K_X7_look_40 G w h0 62 v x_0 (F_X6_fittingThingKinds G w v (rf G h0 0) x_0) (-1 : Int32) (7 : Int32) (0 : Int32)))
def F_X7_look (G : Gm) (w : Mw) (v : Mv) (h0 : Nat) (x_0 : Int32) : Int32 × Mv := K_X7_look_e G w v h0 x_0
set_option maxRecDepth 100000 in
theorem kx_X7_look_1 {G : Gm} {w : Mw} {h0 : Nat} {rec40 : Mv → Int32 → Int32 → Int32 → Int32 → Int32 → Int32 × Mv} {v14 : Mv} {x_0 : Int32} {x6 : Int32} {x20 : Int32} {x22 : Int32} {x12 : Int32} {x25 : Int32} (a0 : x25 = x12 + (1 : Int32))  : K_X7_look_89 G w h0 rec40 v14 x_0 x6 x20 x22 x12 = rec40 v14 x_0 x6 x20 x22 x25 := by
  subst a0; first | rw [K_X7_look_89] | simp only [K_X7_look_89]
set_option maxRecDepth 100000 in
theorem kx_X7_look_2 {G : Gm} {w : Mw} {h0 : Nat} {n40 : Nat} {v1 : Mv} {x_0 : Int32} {x6 : Int32} {x8 : Int32} {x10 : Int32} {x12 : Int32}  (k0 : (60 : Int32) < x12) : K_X7_look_40 G w h0 (n40 + 1) v1 x_0 x6 x8 x10 x12 = (x8, v1) := by
  first | rw [K_X7_look_40, if_pos k0] | simp only [K_X7_look_40, if_pos k0]
set_option maxRecDepth 100000 in
theorem kx_X7_look_3 {G : Gm} {w : Mw} {h0 : Nat} {n40 : Nat} {v1 : Mv} {x_0 : Int32} {x6 : Int32} {x8 : Int32} {x10 : Int32} {x12 : Int32} {v33 : Mv} {x31 : Int32} (a0 : x31 = v1 (rf G (rf G h0 0) 2) (Int32.toNatClampNeg x_0)) (a1 : v33 = F_X0_fillByThingKind G w v1 (rf G h0 5) x6 x31 x12) (k0 : ¬ ((60 : Int32) < x12)) : K_X7_look_40 G w h0 (n40 + 1) v1 x_0 x6 x8 x10 x12 = K_X7_look_c1 G w h0 (K_X7_look_40 G w h0 n40) v33 x_0 x6 x8 x10 x12 := by
  subst a1; subst a0; first | rw [K_X7_look_40, if_neg k0] | simp only [K_X7_look_40, if_neg k0]
set_option maxRecDepth 100000 in
theorem kx_X7_look_4 {G : Gm} {w : Mw} {h0 : Nat} {rec40 : Mv → Int32 → Int32 → Int32 → Int32 → Int32 → Int32 × Mv} {v33 : Mv} {x_0 : Int32} {x6 : Int32} {x8 : Int32} {x10 : Int32} {x12 : Int32} {x44 : Int32} (a0 : x44 = F_X0_mostAlike G w v33 (rf G h0 5)) (k0 : x10 ≤ x44) : K_X7_look_c1 G w h0 rec40 v33 x_0 x6 x8 x10 x12 = K_X7_look_89 G w h0 rec40 v33 x_0 x6 x8 x10 x12 := by
  subst a0; first | rw [K_X7_look_c1, if_pos k0] | simp only [K_X7_look_c1, if_pos k0]
set_option maxRecDepth 100000 in
theorem kx_X7_look_5 {G : Gm} {w : Mw} {h0 : Nat} {rec40 : Mv → Int32 → Int32 → Int32 → Int32 → Int32 → Int32 × Mv} {v33 : Mv} {x_0 : Int32} {x6 : Int32} {x8 : Int32} {x10 : Int32} {x12 : Int32} {x44 : Int32} (a0 : x44 = F_X0_mostAlike G w v33 (rf G h0 5)) (k0 : ¬ (x10 ≤ x44)) : K_X7_look_c1 G w h0 rec40 v33 x_0 x6 x8 x10 x12 = K_X7_look_89 G w h0 rec40 v33 x_0 x6 x12 x44 x12 := by
  subst a0; first | rw [K_X7_look_c1, if_neg k0] | simp only [K_X7_look_c1, if_neg k0]
set_option maxRecDepth 100000 in
theorem kx_X7_look_6 {G : Gm} {w : Mw} {v : Mv} {h0 : Nat} {x_0 : Int32} {x60 : Int32} {x51 : Int32} (a0 : x51 = F_X6_hasThing G w v (rf G h0 0) x_0) (a1 : x60 = F_X6_fittingThingKinds G w v (rf G h0 0) x_0) (k0 : ¬ (x51 = (0 : Int32))) (k1 : ¬ (x60 = (0 : Int32))) : K_X7_look_e G w v h0 x_0 = K_X7_look_40 G w h0 62 v x_0 x60 (-1 : Int32) (7 : Int32) (0 : Int32) := by
  subst a1; subst a0; first | rw [K_X7_look_e, if_neg k0, if_neg k1] | simp only [K_X7_look_e, if_neg k0, if_neg k1]
set_option maxRecDepth 100000 in
theorem kx_X7_look_7 {G : Gm} {w : Mw} {v : Mv} {h0 : Nat} {x_0 : Int32} {x51 : Int32} {x60 : Int32} (a0 : x51 = F_X6_hasThing G w v (rf G h0 0) x_0) (a1 : x60 = F_X6_fittingThingKinds G w v (rf G h0 0) x_0) (k0 : ¬ (x51 = (0 : Int32))) (k1 : x60 = (0 : Int32)) : K_X7_look_e G w v h0 x_0 = ((-1 : Int32), v) := by
  subst a1; subst a0; first | rw [K_X7_look_e, if_neg k0, if_pos k1] | simp only [K_X7_look_e, if_neg k0, if_pos k1]
set_option maxRecDepth 100000 in
theorem kx_X7_look_8 {G : Gm} {w : Mw} {v : Mv} {h0 : Nat} {x_0 : Int32} {v67 : Mv} {x70 : Int32} {x51 : Int32} (a0 : x51 = F_X6_hasThing G w v (rf G h0 0) x_0) (a1 : x70 = (F_X7_bad G w v h0).1) (a2 : v67 = (F_X7_bad G w v h0).2) (k0 : x51 = (0 : Int32)) : K_X7_look_e G w v h0 x_0 = K_X7_look_c2 G w h0 v67 x70 := by
  subst a2; subst a1; subst a0; first | rw [K_X7_look_e, if_pos k0] | simp only [K_X7_look_e, if_pos k0]
set_option maxRecDepth 100000 in
theorem kx_X7_look_9 {G : Gm} {w : Mw} {h0 : Nat} {v67 : Mv} {x70 : Int32}   : K_X7_look_c2 G w h0 v67 x70 = (x70, v67) := by
  first | rw [K_X7_look_c2] | simp only [K_X7_look_c2]
abbrev rm_X7_look : Room := { frames := 4, cells := 0, slots := 0, locals := 89 }
set_option maxHeartbeats 4000000 in
set_option maxRecDepth 100000 in
theorem ct_X7_look (l : Launch) (D : va_G) (dA : Nat → ClassId) (G : Gm) (v : Mv) (w : Mw) (hOk : Ok G v w) (h0 : Nat) (S0 : S_X7 G h0) (x_0 : Int32) : CtI l yX7_look cX7_look 7 (some .int) rm_X7_look D dA G [.ref h0, .int x_0] v w (fun r v1 w1 => Ok G v1 w1 ∧ Kp G v v1 ∧ True ∧ (w1 = w ∧ (r, v1) = F_X7_look G w v h0 x_0) ∧ Fr G [0, 7, 109] v v1) := by
  refine CtI.of RX7 [(0, .ref h0), (1, .int x_0)] (Nat.le_of_ble_eq_true rfl) rfl (by decide) rfl ?_
  intro p e s m args below meth c E hr
  have J40 : ∀ n40 : Nat, ∀ (v1 : Mv), Ok G v1 w → Kp G v v1 → Fr G [0, 7, 109] v v1 → Bd x_0 0 6 → ∀ x6 : Int32, Bd x6 1 63 → ∀ x8 : Int32, Bd x8 (-1) 60 → ∀ x10 : Int32, Bd x10 I0 7 → ∀ x12 : Int32, Bd x12 0 61 → Mu x12 61 n40 → K_X7_look_40 G w h0 n40 v1 x_0 x6 x8 x10 x12 = F_X7_look G w v h0 x_0 → J p l e rm_X7_look s m args below meth c 0 0 (MQ below (QcI D dA G (fun r v1 w1 => Ok G v1 w1 ∧ Kp G v v1 ∧ True ∧ (w1 = w ∧ (r, v1) = F_X7_look G w v h0 x_0) ∧ Fr G [0, 7, 109] v v1)) args s 0 0 (dm G)) D dA G (dm G) s.heap 7 v1 w [(0, .ref h0), (1, .int x_0), (2, .int x6), (3, .int x8), (4, .int x10), (5, .int x12)] 40 [] := by
    intro n40
    induction n40 with
    | zero => intro v1 o2 k3 f4 b5 x6 b7 x8 b9 x10 b11 x12 b13 hm hK; exact hm.zero b13 (by decide)
    | succ n40 ih40 =>
      intro v1 o2 k3 f4 b5 x6 b7 x8 b9 x10 b11 x12 b13 hmu40 hK
      have J89 : ∀ (v14 : Mv), Ok G v14 w → Kp G v v14 → Fr G [0, 7, 109] v v14 → Bd x_0 0 6 → Bd x6 1 63 → ∀ x20 : Int32, Bd x20 (-1) 60 → ∀ x22 : Int32, Bd x22 I0 7 → Bd x12 0 60 → K_X7_look_89 G w h0 (K_X7_look_40 G w h0 n40) v14 x_0 x6 x20 x22 x12 = F_X7_look G w v h0 x_0 → J p l e rm_X7_look s m args below meth c 0 0 (MQ below (QcI D dA G (fun r v1 w1 => Ok G v1 w1 ∧ Kp G v v1 ∧ True ∧ (w1 = w ∧ (r, v1) = F_X7_look G w v h0 x_0) ∧ Fr G [0, 7, 109] v v1)) args s 0 0 (dm G)) D dA G (dm G) s.heap 7 v14 w [(0, .ref h0), (1, .int x_0), (2, .int x6), (3, .int x20), (4, .int x22), (5, .int x12)] 89 [] := by
        intro v14 o15 k16 f17 b18 b19 x20 b21 x22 b23 b24 hK
        refine J_iinc E 5 1 (fun z => [(5, .int z), (0, .ref h0), (1, .int x_0), (2, .int x6), (3, .int x20), (4, .int x22)]) dX7_look_89 rfl (by decide) (by decide) (fun _ => rfl) (fun x25 e26 => ?_)
        have b27 : Bd x25 1 61 := (Bd.add e26 b24 (Bd.lit 1 1 (by decide)) (by decide)).w _ _ (by decide)
        refine J_goto E 40 dX7_look_92 (by decide) ?_
        exact J.sub [1, 2, 3, 4, 5, 0] rfl (ih40 v14 (o15) (k16) f17 b18 x6 b19 x20 b21 x22 b23 x25 (b27.w 0 61 (by decide)) (Mu.step hmu40 e26 b24 (Bd.lit 1 1 (by decide)) (by decide)) ((kx_X7_look_1 (e26)).symm.trans hK))
      refine J_iload E dX7_look_40 5 rfl ?_
      refine J_bipush E 60 dX7_look_42 (by decide) ?_
      refine J_icmp_gt E 95 dX7_look_44 (by decide) (fun c28 => ?_) (fun c28 => ?_)
      · have b29 : Bd x12 61 61 := Bd.lt_r c28 (Bd.lit 60 60 (by decide)) b13 61 (by decide)
        refine J_iload_n E dX7_look_95 3 rfl ?_
        exact J_iret E hr dX7_look_96 ⟨o2, k3, trivial, ⟨⟨rfl, ((kx_X7_look_2 (c28)).symm.trans hK)⟩, f4⟩⟩
      · have b30 : Bd x12 0 60 := Bd.le_l (nlt c28) b13 (Bd.lit 60 60 (by decide)) 60 (by decide)
        refine J_aload_n E dX7_look_47 0 rfl ?_
        refine J_getR E in_X7 rfl (S_X7.h S0) 5 (by decide) wd313 rfl dX7_look_48 ?_
        refine J_iload_n E dX7_look_51 2 rfl ?_
        refine J_aload_n E dX7_look_52 0 rfl ?_
        refine J_getR E in_X7 rfl (S_X7.h S0) 0 (by decide) wd308 rfl dX7_look_53 ?_
        refine J_getRN E in_X6 rfl (S_X6.h (S_X7.f0 S0)) 2 (by decide) wd198 rfl dX7_look_56 ?_
        refine J_iload_n E dX7_look_59 1 rfl ?_
        refine J_iald1 E (S_X6.f2 (S_X7.f0 S0)) (Bd.in b5 (by decide)) dX7_look_60 (fun x31 e32 => ?_)
        refine J_iload E dX7_look_61 5 rfl ?_
        refine J_callVNV E cal_X0_fillByThingKind wd809 rfl (S_X0.h (S_X7.f5 S0)) [.int x6, .int x31, .int x12] [] (ct_X0_fillByThingKind l D dA G v1 w (o2) (rf G h0 5) (S_X7.f5 S0) x6 x31 x12 b30) rfl rfl (Nat.le_of_ble_eq_true rfl) ⟨rfl, rfl⟩ ⟨Nat.le_of_ble_eq_true rfl, Nat.le_of_ble_eq_true rfl⟩ dX7_look_63 (fun v33 w34 p35 => ?_)
        have ew9 : w = w34 := p35.2.2.1.1.symm
        subst ew9
        have o37 := p35.1
        have k38 : Kp G v v33 := (k3).tr p35.2.1
        have f39 : Fr G [0, 7, 109] v v33 := Fr.tr f4 (p35.2.2.2) (by decide)
        have e40 : v33 = F_X0_fillByThingKind G w v1 (rf G h0 5) x6 x31 x12 := (p35.2.2.1).2
        have hK : K_X7_look_c1 G w h0 (K_X7_look_40 G w h0 n40) v33 x_0 x6 x8 x10 x12 = F_X7_look G w v h0 x_0 := ((kx_X7_look_3 (e32) (e40) (c28)).symm.trans hK)
        refine J_aload_n E dX7_look_66 0 rfl ?_
        refine J_getR E in_X7 rfl (S_X7.h S0) 5 (by decide) wd313 rfl dX7_look_67 ?_
        refine J_callVNI E cal_X0_mostAlike wd814 rfl (S_X0.h (S_X7.f5 S0)) [] [] (ct_X0_mostAlike l D dA G v33 w (o37) (rf G h0 5) (S_X7.f5 S0)) rfl rfl (Nat.le_of_ble_eq_true rfl) ⟨rfl, rfl⟩ ⟨Nat.le_of_ble_eq_true rfl, Nat.le_of_ble_eq_true rfl⟩ dX7_look_70 (fun x44 v41 w42 p43 => ?_)
        rw [p43.1, p43.2.1]
        have e45 : x44 = F_X0_mostAlike G w v33 (rf G h0 5) := (p43.2.2.2)
        refine J_istore E [(6, .int x44), (0, .ref h0), (1, .int x_0), (2, .int x6), (3, .int x8), (4, .int x10), (5, .int x12)] dX7_look_73 (by decide) rfl ?_
        refine J_iload E dX7_look_75 0 rfl ?_
        refine J_iload E dX7_look_77 5 rfl ?_
        refine J_icmp_ge E 89 dX7_look_79 (by decide) (fun c46 => ?_) (fun c46 => ?_)
        · exact J.sub [1, 2, 3, 4, 5, 6] rfl (J89 v33 (o37) (k38) f39 b5 b7 x8 b9 x10 b11 b30 ((kx_X7_look_4 (e45) (c46)).symm.trans hK))
        · have b47 : Bd x44 I0 6 := Bd.lt_l (nle c46) (Bd.any x44) b11 6 (by decide)
          refine J_iload E dX7_look_82 0 rfl ?_
          refine J_istore E [(4, .int x44), (6, .int x44), (0, .ref h0), (1, .int x_0), (2, .int x6), (3, .int x8), (5, .int x12)] dX7_look_84 (by decide) rfl ?_
          refine J_iload E dX7_look_86 6 rfl ?_
          refine J_istore_n E [(3, .int x12), (4, .int x44), (6, .int x44), (0, .ref h0), (1, .int x_0), (2, .int x6), (5, .int x12)] dX7_look_88 rfl (by decide) rfl ?_
          exact J.sub [3, 4, 5, 0, 1, 6] rfl (J89 v33 (o37) (k38) f39 b5 b7 x12 (b30.w (-1) 60 (by decide)) x44 (b47.w I0 7 (by decide)) b30 ((kx_X7_look_5 (e45) (c46)).symm.trans hK))
  have hK : K_X7_look_e G w v h0 x_0 = F_X7_look G w v h0 x_0 := rfl
  refine J_aload_n E dX7_look_0 0 rfl ?_
  refine J_getR E in_X7 rfl (S_X7.h S0) 0 (by decide) wd308 rfl dX7_look_1 ?_
  refine J_iload_n E dX7_look_4 1 rfl ?_
  refine J_callVNI E cal_X6_hasThing wd588 rfl (S_X6.h (S_X7.f0 S0)) [.int x_0] [] (ct_X6_hasThing l D dA G v w (hOk) (rf G h0 0) (S_X7.f0 S0) x_0) rfl rfl (Nat.le_of_ble_eq_true rfl) ⟨rfl, rfl⟩ ⟨Nat.le_of_ble_eq_true rfl, Nat.le_of_ble_eq_true rfl⟩ dX7_look_5 (fun x51 v48 w49 p50 => ?_)
  rw [p50.1, p50.2.1]
  have b52 : Bd x51 0 1 := p50.2.2.1
  have e53 : x51 = F_X6_hasThing G w v (rf G h0 0) x_0 := (p50.2.2.2.2)
  refine J_if_ne E 16 dX7_look_8 (by decide) (fun c54 => ?_) (fun c54 => ?_)
  · have b55 : Bd x51 1 1 := (Bd.ne_lo c54 b52 (Bd.lit 0 0 (by decide))).w _ _ (by decide)
    have b56 : Bd x_0 0 6 := (p50.2.2.2.1).resolve_left c54
    refine J_aload_n E dX7_look_16 0 rfl ?_
    refine J_getR E in_X7 rfl (S_X7.h S0) 0 (by decide) wd308 rfl dX7_look_17 ?_
    refine J_iload_n E dX7_look_20 1 rfl ?_
    refine J_callVNI E cal_X6_fittingThingKinds wd797 rfl (S_X6.h (S_X7.f0 S0)) [.int x_0] [] (ct_X6_fittingThingKinds l D dA G v w (hOk) (rf G h0 0) (S_X7.f0 S0) x_0 b56) rfl rfl (Nat.le_of_ble_eq_true rfl) ⟨rfl, rfl⟩ ⟨Nat.le_of_ble_eq_true rfl, Nat.le_of_ble_eq_true rfl⟩ dX7_look_21 (fun x60 v57 w58 p59 => ?_)
    rw [p59.1, p59.2.1]
    have b61 : Bd x60 0 63 := p59.2.2.1
    have e62 : x60 = F_X6_fittingThingKinds G w v (rf G h0 0) x_0 := (p59.2.2.2)
    refine J_istore_n E [(2, .int x60), (0, .ref h0), (1, .int x_0)] dX7_look_24 rfl (by decide) rfl ?_
    refine J_iload_n E dX7_look_25 0 rfl ?_
    refine J_if_ne E 31 dX7_look_26 (by decide) (fun c63 => ?_) (fun c63 => ?_)
    · have b64 : Bd x60 1 63 := (Bd.ne_lo c63 b61 (Bd.lit 0 0 (by decide))).w _ _ (by decide)
      refine J_iconst E (-1) dX7_look_31 (by decide) ?_
      refine J_istore_n E [(3, .int (-1)), (2, .int x60), (0, .ref h0), (1, .int x_0)] dX7_look_32 rfl (by decide) rfl ?_
      refine J_bipush E 7 dX7_look_33 (by decide) ?_
      refine J_istore E [(4, .int 7), (3, .int (-1)), (2, .int x60), (0, .ref h0), (1, .int x_0)] dX7_look_35 (by decide) rfl ?_
      refine J_iconst E 0 dX7_look_37 (by decide) ?_
      refine J_istore E [(5, .int 0), (4, .int 7), (3, .int (-1)), (2, .int x60), (0, .ref h0), (1, .int x_0)] dX7_look_38 (by decide) rfl ?_
      exact J.sub [4, 5, 3, 2, 1, 0] rfl (J40 62 v (hOk) (Kp.rf) Fr.rf b56 x60 b64 (-1) ((Bd.lit (-1) (-1) (by decide)).w (-1) 60 (by decide)) 7 ((Bd.lit 7 7 (by decide)).w I0 7 (by decide)) 0 ((Bd.lit 0 0 (by decide)).w 0 61 (by decide)) (Mu.start _ (Bd.lit 0 0 (by decide)) (by decide)) ((kx_X7_look_6 (e53) (e62) (c54) (c63)).symm.trans hK))
    · have b65 : Bd x60 0 0 := Bd.eq_l c63 b61 (Bd.lit 0 0 (by decide)) 0 0 (by decide)
      refine J_iconst E (-1) dX7_look_29 (by decide) ?_
      exact J_iret E hr dX7_look_30 ⟨hOk, Kp.rf, trivial, ⟨⟨rfl, ((kx_X7_look_7 (e53) (e62) (c54) (c63)).symm.trans hK)⟩, Fr.rf⟩⟩
  · have b66 : Bd x51 0 0 := Bd.eq_l c54 b52 (Bd.lit 0 0 (by decide)) 0 0 (by decide)
    refine J_aload_n E dX7_look_11 0 rfl ?_
    refine J_callVI E cal_X7_bad wd364 rfl (S_X7.h S0) [] [] (ct_X7_bad l D dA G v w (hOk) h0 S0) rfl rfl (Nat.le_of_ble_eq_true rfl) ⟨rfl, rfl⟩ ⟨Nat.le_of_ble_eq_true rfl, Nat.le_of_ble_eq_true rfl⟩ dX7_look_12 (fun x70 v67 w68 p69 => ?_)
    have ew9 : w = w68 := p69.2.2.2.1.1.symm
    subst ew9
    have o71 := p69.1
    have k72 : Kp G v v67 := (Kp.rf).tr p69.2.1
    have f73 : Fr G [0, 7, 109] v v67 := Fr.tr Fr.rf (p69.2.2.2.2) (by decide)
    have b74 : Bd x70 (-2) (-2) := p69.2.2.1
    have e75 : x70 = (F_X7_bad G w v h0).1 := congrArg Prod.fst (p69.2.2.2.1).2
    have e76 : v67 = (F_X7_bad G w v h0).2 := congrArg Prod.snd (p69.2.2.2.1).2
    have hK : K_X7_look_c2 G w h0 v67 x70 = F_X7_look G w v h0 x_0 := ((kx_X7_look_8 (e53) (e75) (e76) (c54)).symm.trans hK)
    exact J_iret E hr dX7_look_15 ⟨o71, k72, trivial, ⟨⟨rfl, ((kx_X7_look_9).symm.trans hK)⟩, f73⟩⟩

def K_X7_kinds_c1 (G : Gm) (w : Mw) (h0 : Nat) (v9 : Mv) (x12 : Int32) : Int32 × Mv :=
  (x12, v9)
def K_X7_kinds_e (G : Gm) (w : Mw) (v : Mv) (h0 : Nat) (x_0 : Int32) : Int32 × Mv :=
  if (F_X6_hasOne G w v (rf G h0 0) x_0) = (0 : Int32) then (K_X7_kinds_c1 G w h0 ((F_X7_bad G w v h0).2) ((F_X7_bad G w v h0).1)) else (((F_X6_fittingOneKinds G w v (rf G h0 0) x_0), v))
def F_X7_kinds (G : Gm) (w : Mw) (v : Mv) (h0 : Nat) (x_0 : Int32) : Int32 × Mv := K_X7_kinds_e G w v h0 x_0
set_option maxRecDepth 100000 in
theorem kx_X7_kinds_1 {G : Gm} {w : Mw} {v : Mv} {h0 : Nat} {x_0 : Int32} {v9 : Mv} {x12 : Int32} {x4 : Int32} (a0 : x4 = F_X6_hasOne G w v (rf G h0 0) x_0) (a1 : x12 = (F_X7_bad G w v h0).1) (a2 : v9 = (F_X7_bad G w v h0).2) (k0 : x4 = (0 : Int32)) : K_X7_kinds_e G w v h0 x_0 = K_X7_kinds_c1 G w h0 v9 x12 := by
  subst a2; subst a1; subst a0; first | rw [K_X7_kinds_e, if_pos k0] | simp only [K_X7_kinds_e, if_pos k0]
set_option maxRecDepth 100000 in
theorem kx_X7_kinds_2 {G : Gm} {w : Mw} {h0 : Nat} {v9 : Mv} {x12 : Int32}   : K_X7_kinds_c1 G w h0 v9 x12 = (x12, v9) := by
  first | rw [K_X7_kinds_c1] | simp only [K_X7_kinds_c1]
set_option maxRecDepth 100000 in
theorem kx_X7_kinds_3 {G : Gm} {w : Mw} {v : Mv} {h0 : Nat} {x_0 : Int32} {x24 : Int32} {x4 : Int32} (a0 : x4 = F_X6_hasOne G w v (rf G h0 0) x_0) (a1 : x24 = F_X6_fittingOneKinds G w v (rf G h0 0) x_0) (k0 : ¬ (x4 = (0 : Int32))) : K_X7_kinds_e G w v h0 x_0 = (x24, v) := by
  subst a1; subst a0; first | rw [K_X7_kinds_e, if_neg k0] | simp only [K_X7_kinds_e, if_neg k0]
abbrev rm_X7_kinds : Room := { frames := 4, cells := 0, slots := 0, locals := 90 }
set_option maxHeartbeats 4000000 in
set_option maxRecDepth 100000 in
theorem ct_X7_kinds (l : Launch) (D : va_G) (dA : Nat → ClassId) (G : Gm) (v : Mv) (w : Mw) (hOk : Ok G v w) (h0 : Nat) (S0 : S_X7 G h0) (x_0 : Int32) : CtI l yX7_kinds cX7_kinds 2 (some .int) rm_X7_kinds D dA G [.ref h0, .int x_0] v w (fun r v1 w1 => Ok G v1 w1 ∧ Kp G v v1 ∧ True ∧ (w1 = w ∧ (r, v1) = F_X7_kinds G w v h0 x_0) ∧ Fr G [7] v v1) := by
  refine CtI.of RX7 [(0, .ref h0), (1, .int x_0)] (Nat.le_of_ble_eq_true rfl) rfl (by decide) rfl ?_
  intro p e s m args below meth c E hr
  have hK : K_X7_kinds_e G w v h0 x_0 = F_X7_kinds G w v h0 x_0 := rfl
  refine J_aload_n E dX7_kinds_0 0 rfl ?_
  refine J_getR E in_X7 rfl (S_X7.h S0) 0 (by decide) wd308 rfl dX7_kinds_1 ?_
  refine J_iload_n E dX7_kinds_4 1 rfl ?_
  refine J_callVNI E cal_X6_hasOne wd584 rfl (S_X6.h (S_X7.f0 S0)) [.int x_0] [] (ct_X6_hasOne l D dA G v w (hOk) (rf G h0 0) (S_X7.f0 S0) x_0) rfl rfl (Nat.le_of_ble_eq_true rfl) ⟨rfl, rfl⟩ ⟨Nat.le_of_ble_eq_true rfl, Nat.le_of_ble_eq_true rfl⟩ dX7_kinds_5 (fun x4 v1 w2 p3 => ?_)
  rw [p3.1, p3.2.1]
  have b5 : Bd x4 0 1 := p3.2.2.1
  have e6 : x4 = F_X6_hasOne G w v (rf G h0 0) x_0 := (p3.2.2.2.2)
  refine J_if_eq E 22 dX7_kinds_8 (by decide) (fun c7 => ?_) (fun c7 => ?_)
  · have b8 : Bd x4 0 0 := Bd.eq_l c7 b5 (Bd.lit 0 0 (by decide)) 0 0 (by decide)
    refine J_aload_n E dX7_kinds_22 0 rfl ?_
    refine J_callVI E cal_X7_bad wd364 rfl (S_X7.h S0) [] [] (ct_X7_bad l D dA G v w (hOk) h0 S0) rfl rfl (Nat.le_of_ble_eq_true rfl) ⟨rfl, rfl⟩ ⟨Nat.le_of_ble_eq_true rfl, Nat.le_of_ble_eq_true rfl⟩ dX7_kinds_23 (fun x12 v9 w10 p11 => ?_)
    have ew9 : w = w10 := p11.2.2.2.1.1.symm
    subst ew9
    have o13 := p11.1
    have k14 : Kp G v v9 := (Kp.rf).tr p11.2.1
    have f15 : Fr G [7] v v9 := Fr.tr Fr.rf (p11.2.2.2.2) (by decide)
    have b16 : Bd x12 (-2) (-2) := p11.2.2.1
    have e17 : x12 = (F_X7_bad G w v h0).1 := congrArg Prod.fst (p11.2.2.2.1).2
    have e18 : v9 = (F_X7_bad G w v h0).2 := congrArg Prod.snd (p11.2.2.2.1).2
    have hK : K_X7_kinds_c1 G w h0 v9 x12 = F_X7_kinds G w v h0 x_0 := ((kx_X7_kinds_1 (e6) (e17) (e18) (c7)).symm.trans hK)
    exact J_iret E hr dX7_kinds_26 ⟨o13, k14, trivial, ⟨⟨rfl, ((kx_X7_kinds_2).symm.trans hK)⟩, f15⟩⟩
  · have b19 : Bd x4 1 1 := (Bd.ne_lo c7 b5 (Bd.lit 0 0 (by decide))).w _ _ (by decide)
    have b20 : Bd x_0 0 6 := (p3.2.2.2.1).resolve_left c7
    refine J_aload_n E dX7_kinds_11 0 rfl ?_
    refine J_getR E in_X7 rfl (S_X7.h S0) 0 (by decide) wd308 rfl dX7_kinds_12 ?_
    refine J_iload_n E dX7_kinds_15 1 rfl ?_
    refine J_callVNI E cal_X6_fittingOneKinds wd822 rfl (S_X6.h (S_X7.f0 S0)) [.int x_0] [] (ct_X6_fittingOneKinds l D dA G v w (hOk) (rf G h0 0) (S_X7.f0 S0) x_0 b20) rfl rfl (Nat.le_of_ble_eq_true rfl) ⟨rfl, rfl⟩ ⟨Nat.le_of_ble_eq_true rfl, Nat.le_of_ble_eq_true rfl⟩ dX7_kinds_16 (fun x24 v21 w22 p23 => ?_)
    rw [p23.1, p23.2.1]
    have b25 : Bd x24 0 63 := p23.2.2.1
    have e26 : x24 = F_X6_fittingOneKinds G w v (rf G h0 0) x_0 := (p23.2.2.2)
    refine J_goto E 26 dX7_kinds_19 (by decide) ?_
    exact J_iret E hr dX7_kinds_26 ⟨hOk, Kp.rf, trivial, ⟨⟨rfl, ((kx_X7_kinds_3 (e6) (e26) (c7)).symm.trans hK)⟩, Fr.rf⟩⟩

def K_X7_ask_89 (G : Gm) (w : Mw) (h0 : Nat) (rec40 : Mv → Int32 → Int32 → Int32 → Int32 → Int32 → Int32 × Mv) (v14 : Mv) (x_0 : Int32) (x6 : Int32) (x20 : Int32) (x22 : Int32) (x12 : Int32) : Int32 × Mv :=
  rec40 v14 x_0 x6 x20 x22 (x12 + (1 : Int32))
def K_X7_ask_c1 (G : Gm) (w : Mw) (h0 : Nat) (rec40 : Mv → Int32 → Int32 → Int32 → Int32 → Int32 → Int32 × Mv) (v33 : Mv) (x_0 : Int32) (x6 : Int32) (x8 : Int32) (x10 : Int32) (x12 : Int32) : Int32 × Mv :=
  if x10 ≤ (F_X0_mostAlike G w v33 (rf G h0 5)) then (K_X7_ask_89 G w h0 rec40 v33 x_0 x6 x8 x10 x12) else (K_X7_ask_89 G w h0 rec40 v33 x_0 x6 x12 (F_X0_mostAlike G w v33 (rf G h0 5)) x12)
def K_X7_ask_40 (G : Gm) (w : Mw) (h0 : Nat) : Nat → Mv → Int32 → Int32 → Int32 → Int32 → Int32 → Int32 × Mv
  | 0, _, _, _, _, _, _ => ((0 : Int32), (fun _ _ => 0 : Mv))
  | n40 + 1, v1, x_0, x6, x8, x10, x12 =>
    if (99 : Int32) < x12 then ((x8, v1)) else (K_X7_ask_c1 G w h0 (K_X7_ask_40 G w h0 n40) (F_X0_fillByOneKind G w v1 (rf G h0 5) x6 (v1 (rf G (rf G h0 0) 5) (Int32.toNatClampNeg x_0)) x12) x_0 x6 x8 x10 x12)
def K_X7_ask_c2 (G : Gm) (w : Mw) (h0 : Nat) (v67 : Mv) (x70 : Int32) : Int32 × Mv :=
  (x70, v67)
def K_X7_ask_e (G : Gm) (w : Mw) (v : Mv) (h0 : Nat) (x_0 : Int32) : Int32 × Mv :=
  if (F_X6_hasOne G w v (rf G h0 0) x_0) = (0 : Int32) then (K_X7_ask_c2 G w h0 ((F_X7_bad G w v h0).2) ((F_X7_bad G w v h0).1)) else (if (F_X6_fittingOneKinds G w v (rf G h0 0) x_0) = (0 : Int32) then (((-1 : Int32), v)) else (K_X7_ask_40 G w h0 101 v x_0 (F_X6_fittingOneKinds G w v (rf G h0 0) x_0) (-1 : Int32) (7 : Int32) (0 : Int32)))
def F_X7_ask (G : Gm) (w : Mw) (v : Mv) (h0 : Nat) (x_0 : Int32) : Int32 × Mv := K_X7_ask_e G w v h0 x_0
set_option maxRecDepth 100000 in
theorem kx_X7_ask_1 {G : Gm} {w : Mw} {h0 : Nat} {rec40 : Mv → Int32 → Int32 → Int32 → Int32 → Int32 → Int32 × Mv} {v14 : Mv} {x_0 : Int32} {x6 : Int32} {x20 : Int32} {x22 : Int32} {x12 : Int32} {x25 : Int32} (a0 : x25 = x12 + (1 : Int32))  : K_X7_ask_89 G w h0 rec40 v14 x_0 x6 x20 x22 x12 = rec40 v14 x_0 x6 x20 x22 x25 := by
  subst a0; first | rw [K_X7_ask_89] | simp only [K_X7_ask_89]
set_option maxRecDepth 100000 in
theorem kx_X7_ask_2 {G : Gm} {w : Mw} {h0 : Nat} {n40 : Nat} {v1 : Mv} {x_0 : Int32} {x6 : Int32} {x8 : Int32} {x10 : Int32} {x12 : Int32}  (k0 : (99 : Int32) < x12) : K_X7_ask_40 G w h0 (n40 + 1) v1 x_0 x6 x8 x10 x12 = (x8, v1) := by
  first | rw [K_X7_ask_40, if_pos k0] | simp only [K_X7_ask_40, if_pos k0]
set_option maxRecDepth 100000 in
theorem kx_X7_ask_3 {G : Gm} {w : Mw} {h0 : Nat} {n40 : Nat} {v1 : Mv} {x_0 : Int32} {x6 : Int32} {x8 : Int32} {x10 : Int32} {x12 : Int32} {v33 : Mv} {x31 : Int32} (a0 : x31 = v1 (rf G (rf G h0 0) 5) (Int32.toNatClampNeg x_0)) (a1 : v33 = F_X0_fillByOneKind G w v1 (rf G h0 5) x6 x31 x12) (k0 : ¬ ((99 : Int32) < x12)) : K_X7_ask_40 G w h0 (n40 + 1) v1 x_0 x6 x8 x10 x12 = K_X7_ask_c1 G w h0 (K_X7_ask_40 G w h0 n40) v33 x_0 x6 x8 x10 x12 := by
  subst a1; subst a0; first | rw [K_X7_ask_40, if_neg k0] | simp only [K_X7_ask_40, if_neg k0]
set_option maxRecDepth 100000 in
theorem kx_X7_ask_4 {G : Gm} {w : Mw} {h0 : Nat} {rec40 : Mv → Int32 → Int32 → Int32 → Int32 → Int32 → Int32 × Mv} {v33 : Mv} {x_0 : Int32} {x6 : Int32} {x8 : Int32} {x10 : Int32} {x12 : Int32} {x44 : Int32} (a0 : x44 = F_X0_mostAlike G w v33 (rf G h0 5)) (k0 : x10 ≤ x44) : K_X7_ask_c1 G w h0 rec40 v33 x_0 x6 x8 x10 x12 = K_X7_ask_89 G w h0 rec40 v33 x_0 x6 x8 x10 x12 := by
  subst a0; first | rw [K_X7_ask_c1, if_pos k0] | simp only [K_X7_ask_c1, if_pos k0]
set_option maxRecDepth 100000 in
theorem kx_X7_ask_5 {G : Gm} {w : Mw} {h0 : Nat} {rec40 : Mv → Int32 → Int32 → Int32 → Int32 → Int32 → Int32 × Mv} {v33 : Mv} {x_0 : Int32} {x6 : Int32} {x8 : Int32} {x10 : Int32} {x12 : Int32} {x44 : Int32} (a0 : x44 = F_X0_mostAlike G w v33 (rf G h0 5)) (k0 : ¬ (x10 ≤ x44)) : K_X7_ask_c1 G w h0 rec40 v33 x_0 x6 x8 x10 x12 = K_X7_ask_89 G w h0 rec40 v33 x_0 x6 x12 x44 x12 := by
  subst a0; first | rw [K_X7_ask_c1, if_neg k0] | simp only [K_X7_ask_c1, if_neg k0]
set_option maxRecDepth 100000 in
theorem kx_X7_ask_6 {G : Gm} {w : Mw} {v : Mv} {h0 : Nat} {x_0 : Int32} {x60 : Int32} {x51 : Int32} (a0 : x51 = F_X6_hasOne G w v (rf G h0 0) x_0) (a1 : x60 = F_X6_fittingOneKinds G w v (rf G h0 0) x_0) (k0 : ¬ (x51 = (0 : Int32))) (k1 : ¬ (x60 = (0 : Int32))) : K_X7_ask_e G w v h0 x_0 = K_X7_ask_40 G w h0 101 v x_0 x60 (-1 : Int32) (7 : Int32) (0 : Int32) := by
  subst a1; subst a0; first | rw [K_X7_ask_e, if_neg k0, if_neg k1] | simp only [K_X7_ask_e, if_neg k0, if_neg k1]
set_option maxRecDepth 100000 in
theorem kx_X7_ask_7 {G : Gm} {w : Mw} {v : Mv} {h0 : Nat} {x_0 : Int32} {x51 : Int32} {x60 : Int32} (a0 : x51 = F_X6_hasOne G w v (rf G h0 0) x_0) (a1 : x60 = F_X6_fittingOneKinds G w v (rf G h0 0) x_0) (k0 : ¬ (x51 = (0 : Int32))) (k1 : x60 = (0 : Int32)) : K_X7_ask_e G w v h0 x_0 = ((-1 : Int32), v) := by
  subst a1; subst a0; first | rw [K_X7_ask_e, if_neg k0, if_pos k1] | simp only [K_X7_ask_e, if_neg k0, if_pos k1]
set_option maxRecDepth 100000 in
theorem kx_X7_ask_8 {G : Gm} {w : Mw} {v : Mv} {h0 : Nat} {x_0 : Int32} {v67 : Mv} {x70 : Int32} {x51 : Int32} (a0 : x51 = F_X6_hasOne G w v (rf G h0 0) x_0) (a1 : x70 = (F_X7_bad G w v h0).1) (a2 : v67 = (F_X7_bad G w v h0).2) (k0 : x51 = (0 : Int32)) : K_X7_ask_e G w v h0 x_0 = K_X7_ask_c2 G w h0 v67 x70 := by
  subst a2; subst a1; subst a0; first | rw [K_X7_ask_e, if_pos k0] | simp only [K_X7_ask_e, if_pos k0]
set_option maxRecDepth 100000 in
theorem kx_X7_ask_9 {G : Gm} {w : Mw} {h0 : Nat} {v67 : Mv} {x70 : Int32}   : K_X7_ask_c2 G w h0 v67 x70 = (x70, v67) := by
  first | rw [K_X7_ask_c2] | simp only [K_X7_ask_c2]
abbrev rm_X7_ask : Room := { frames := 4, cells := 0, slots := 0, locals := 90 }
set_option maxHeartbeats 4000000 in
set_option maxRecDepth 100000 in
theorem ct_X7_ask (l : Launch) (D : va_G) (dA : Nat → ClassId) (G : Gm) (v : Mv) (w : Mw) (hOk : Ok G v w) (h0 : Nat) (S0 : S_X7 G h0) (x_0 : Int32) : CtI l yX7_ask cX7_ask 7 (some .int) rm_X7_ask D dA G [.ref h0, .int x_0] v w (fun r v1 w1 => Ok G v1 w1 ∧ Kp G v v1 ∧ True ∧ (w1 = w ∧ (r, v1) = F_X7_ask G w v h0 x_0) ∧ Fr G [0, 7, 109] v v1) := by
  refine CtI.of RX7 [(0, .ref h0), (1, .int x_0)] (Nat.le_of_ble_eq_true rfl) rfl (by decide) rfl ?_
  intro p e s m args below meth c E hr
  have J40 : ∀ n40 : Nat, ∀ (v1 : Mv), Ok G v1 w → Kp G v v1 → Fr G [0, 7, 109] v v1 → Bd x_0 0 6 → ∀ x6 : Int32, Bd x6 1 63 → ∀ x8 : Int32, Bd x8 (-1) 99 → ∀ x10 : Int32, Bd x10 I0 7 → ∀ x12 : Int32, Bd x12 0 100 → Mu x12 100 n40 → K_X7_ask_40 G w h0 n40 v1 x_0 x6 x8 x10 x12 = F_X7_ask G w v h0 x_0 → J p l e rm_X7_ask s m args below meth c 0 0 (MQ below (QcI D dA G (fun r v1 w1 => Ok G v1 w1 ∧ Kp G v v1 ∧ True ∧ (w1 = w ∧ (r, v1) = F_X7_ask G w v h0 x_0) ∧ Fr G [0, 7, 109] v v1)) args s 0 0 (dm G)) D dA G (dm G) s.heap 7 v1 w [(0, .ref h0), (1, .int x_0), (2, .int x6), (3, .int x8), (4, .int x10), (5, .int x12)] 40 [] := by
    intro n40
    induction n40 with
    | zero => intro v1 o2 k3 f4 b5 x6 b7 x8 b9 x10 b11 x12 b13 hm hK; exact hm.zero b13 (by decide)
    | succ n40 ih40 =>
      intro v1 o2 k3 f4 b5 x6 b7 x8 b9 x10 b11 x12 b13 hmu40 hK
      have J89 : ∀ (v14 : Mv), Ok G v14 w → Kp G v v14 → Fr G [0, 7, 109] v v14 → Bd x_0 0 6 → Bd x6 1 63 → ∀ x20 : Int32, Bd x20 (-1) 99 → ∀ x22 : Int32, Bd x22 I0 7 → Bd x12 0 99 → K_X7_ask_89 G w h0 (K_X7_ask_40 G w h0 n40) v14 x_0 x6 x20 x22 x12 = F_X7_ask G w v h0 x_0 → J p l e rm_X7_ask s m args below meth c 0 0 (MQ below (QcI D dA G (fun r v1 w1 => Ok G v1 w1 ∧ Kp G v v1 ∧ True ∧ (w1 = w ∧ (r, v1) = F_X7_ask G w v h0 x_0) ∧ Fr G [0, 7, 109] v v1)) args s 0 0 (dm G)) D dA G (dm G) s.heap 7 v14 w [(0, .ref h0), (1, .int x_0), (2, .int x6), (3, .int x20), (4, .int x22), (5, .int x12)] 89 [] := by
        intro v14 o15 k16 f17 b18 b19 x20 b21 x22 b23 b24 hK
        refine J_iinc E 5 1 (fun z => [(5, .int z), (0, .ref h0), (1, .int x_0), (2, .int x6), (3, .int x20), (4, .int x22)]) dX7_ask_89 rfl (by decide) (by decide) (fun _ => rfl) (fun x25 e26 => ?_)
        have b27 : Bd x25 1 100 := (Bd.add e26 b24 (Bd.lit 1 1 (by decide)) (by decide)).w _ _ (by decide)
        refine J_goto E 40 dX7_ask_92 (by decide) ?_
        exact J.sub [1, 2, 3, 4, 5, 0] rfl (ih40 v14 (o15) (k16) f17 b18 x6 b19 x20 b21 x22 b23 x25 (b27.w 0 100 (by decide)) (Mu.step hmu40 e26 b24 (Bd.lit 1 1 (by decide)) (by decide)) ((kx_X7_ask_1 (e26)).symm.trans hK))
      refine J_iload E dX7_ask_40 5 rfl ?_
      refine J_bipush E 99 dX7_ask_42 (by decide) ?_
      refine J_icmp_gt E 95 dX7_ask_44 (by decide) (fun c28 => ?_) (fun c28 => ?_)
      · have b29 : Bd x12 100 100 := Bd.lt_r c28 (Bd.lit 99 99 (by decide)) b13 100 (by decide)
        refine J_iload_n E dX7_ask_95 3 rfl ?_
        exact J_iret E hr dX7_ask_96 ⟨o2, k3, trivial, ⟨⟨rfl, ((kx_X7_ask_2 (c28)).symm.trans hK)⟩, f4⟩⟩
      · have b30 : Bd x12 0 99 := Bd.le_l (nlt c28) b13 (Bd.lit 99 99 (by decide)) 99 (by decide)
        refine J_aload_n E dX7_ask_47 0 rfl ?_
        refine J_getR E in_X7 rfl (S_X7.h S0) 5 (by decide) wd313 rfl dX7_ask_48 ?_
        refine J_iload_n E dX7_ask_51 2 rfl ?_
        refine J_aload_n E dX7_ask_52 0 rfl ?_
        refine J_getR E in_X7 rfl (S_X7.h S0) 0 (by decide) wd308 rfl dX7_ask_53 ?_
        refine J_getRN E in_X6 rfl (S_X6.h (S_X7.f0 S0)) 5 (by decide) wd206 rfl dX7_ask_56 ?_
        refine J_iload_n E dX7_ask_59 1 rfl ?_
        refine J_iald1 E (S_X6.f5 (S_X7.f0 S0)) (Bd.in b5 (by decide)) dX7_ask_60 (fun x31 e32 => ?_)
        refine J_iload E dX7_ask_61 5 rfl ?_
        refine J_callVNV E cal_X0_fillByOneKind wd834 rfl (S_X0.h (S_X7.f5 S0)) [.int x6, .int x31, .int x12] [] (ct_X0_fillByOneKind l D dA G v1 w (o2) (rf G h0 5) (S_X7.f5 S0) x6 x31 x12 b30) rfl rfl (Nat.le_of_ble_eq_true rfl) ⟨rfl, rfl⟩ ⟨Nat.le_of_ble_eq_true rfl, Nat.le_of_ble_eq_true rfl⟩ dX7_ask_63 (fun v33 w34 p35 => ?_)
        have ew9 : w = w34 := p35.2.2.1.1.symm
        subst ew9
        have o37 := p35.1
        have k38 : Kp G v v33 := (k3).tr p35.2.1
        have f39 : Fr G [0, 7, 109] v v33 := Fr.tr f4 (p35.2.2.2) (by decide)
        have e40 : v33 = F_X0_fillByOneKind G w v1 (rf G h0 5) x6 x31 x12 := (p35.2.2.1).2
        have hK : K_X7_ask_c1 G w h0 (K_X7_ask_40 G w h0 n40) v33 x_0 x6 x8 x10 x12 = F_X7_ask G w v h0 x_0 := ((kx_X7_ask_3 (e32) (e40) (c28)).symm.trans hK)
        refine J_aload_n E dX7_ask_66 0 rfl ?_
        refine J_getR E in_X7 rfl (S_X7.h S0) 5 (by decide) wd313 rfl dX7_ask_67 ?_
        refine J_callVNI E cal_X0_mostAlike wd814 rfl (S_X0.h (S_X7.f5 S0)) [] [] (ct_X0_mostAlike l D dA G v33 w (o37) (rf G h0 5) (S_X7.f5 S0)) rfl rfl (Nat.le_of_ble_eq_true rfl) ⟨rfl, rfl⟩ ⟨Nat.le_of_ble_eq_true rfl, Nat.le_of_ble_eq_true rfl⟩ dX7_ask_70 (fun x44 v41 w42 p43 => ?_)
        rw [p43.1, p43.2.1]
        have e45 : x44 = F_X0_mostAlike G w v33 (rf G h0 5) := (p43.2.2.2)
        refine J_istore E [(6, .int x44), (0, .ref h0), (1, .int x_0), (2, .int x6), (3, .int x8), (4, .int x10), (5, .int x12)] dX7_ask_73 (by decide) rfl ?_
        refine J_iload E dX7_ask_75 0 rfl ?_
        refine J_iload E dX7_ask_77 5 rfl ?_
        refine J_icmp_ge E 89 dX7_ask_79 (by decide) (fun c46 => ?_) (fun c46 => ?_)
        · exact J.sub [1, 2, 3, 4, 5, 6] rfl (J89 v33 (o37) (k38) f39 b5 b7 x8 b9 x10 b11 b30 ((kx_X7_ask_4 (e45) (c46)).symm.trans hK))
        · have b47 : Bd x44 I0 6 := Bd.lt_l (nle c46) (Bd.any x44) b11 6 (by decide)
          refine J_iload E dX7_ask_82 0 rfl ?_
          refine J_istore E [(4, .int x44), (6, .int x44), (0, .ref h0), (1, .int x_0), (2, .int x6), (3, .int x8), (5, .int x12)] dX7_ask_84 (by decide) rfl ?_
          refine J_iload E dX7_ask_86 6 rfl ?_
          refine J_istore_n E [(3, .int x12), (4, .int x44), (6, .int x44), (0, .ref h0), (1, .int x_0), (2, .int x6), (5, .int x12)] dX7_ask_88 rfl (by decide) rfl ?_
          exact J.sub [3, 4, 5, 0, 1, 6] rfl (J89 v33 (o37) (k38) f39 b5 b7 x12 (b30.w (-1) 99 (by decide)) x44 (b47.w I0 7 (by decide)) b30 ((kx_X7_ask_5 (e45) (c46)).symm.trans hK))
  have hK : K_X7_ask_e G w v h0 x_0 = F_X7_ask G w v h0 x_0 := rfl
  refine J_aload_n E dX7_ask_0 0 rfl ?_
  refine J_getR E in_X7 rfl (S_X7.h S0) 0 (by decide) wd308 rfl dX7_ask_1 ?_
  refine J_iload_n E dX7_ask_4 1 rfl ?_
  refine J_callVNI E cal_X6_hasOne wd584 rfl (S_X6.h (S_X7.f0 S0)) [.int x_0] [] (ct_X6_hasOne l D dA G v w (hOk) (rf G h0 0) (S_X7.f0 S0) x_0) rfl rfl (Nat.le_of_ble_eq_true rfl) ⟨rfl, rfl⟩ ⟨Nat.le_of_ble_eq_true rfl, Nat.le_of_ble_eq_true rfl⟩ dX7_ask_5 (fun x51 v48 w49 p50 => ?_)
  rw [p50.1, p50.2.1]
  have b52 : Bd x51 0 1 := p50.2.2.1
  have e53 : x51 = F_X6_hasOne G w v (rf G h0 0) x_0 := (p50.2.2.2.2)
  refine J_if_ne E 16 dX7_ask_8 (by decide) (fun c54 => ?_) (fun c54 => ?_)
  · have b55 : Bd x51 1 1 := (Bd.ne_lo c54 b52 (Bd.lit 0 0 (by decide))).w _ _ (by decide)
    have b56 : Bd x_0 0 6 := (p50.2.2.2.1).resolve_left c54
    refine J_aload_n E dX7_ask_16 0 rfl ?_
    refine J_getR E in_X7 rfl (S_X7.h S0) 0 (by decide) wd308 rfl dX7_ask_17 ?_
    refine J_iload_n E dX7_ask_20 1 rfl ?_
    refine J_callVNI E cal_X6_fittingOneKinds wd822 rfl (S_X6.h (S_X7.f0 S0)) [.int x_0] [] (ct_X6_fittingOneKinds l D dA G v w (hOk) (rf G h0 0) (S_X7.f0 S0) x_0 b56) rfl rfl (Nat.le_of_ble_eq_true rfl) ⟨rfl, rfl⟩ ⟨Nat.le_of_ble_eq_true rfl, Nat.le_of_ble_eq_true rfl⟩ dX7_ask_21 (fun x60 v57 w58 p59 => ?_)
    rw [p59.1, p59.2.1]
    have b61 : Bd x60 0 63 := p59.2.2.1
    have e62 : x60 = F_X6_fittingOneKinds G w v (rf G h0 0) x_0 := (p59.2.2.2)
    refine J_istore_n E [(2, .int x60), (0, .ref h0), (1, .int x_0)] dX7_ask_24 rfl (by decide) rfl ?_
    refine J_iload_n E dX7_ask_25 0 rfl ?_
    refine J_if_ne E 31 dX7_ask_26 (by decide) (fun c63 => ?_) (fun c63 => ?_)
    · have b64 : Bd x60 1 63 := (Bd.ne_lo c63 b61 (Bd.lit 0 0 (by decide))).w _ _ (by decide)
      refine J_iconst E (-1) dX7_ask_31 (by decide) ?_
      refine J_istore_n E [(3, .int (-1)), (2, .int x60), (0, .ref h0), (1, .int x_0)] dX7_ask_32 rfl (by decide) rfl ?_
      refine J_bipush E 7 dX7_ask_33 (by decide) ?_
      refine J_istore E [(4, .int 7), (3, .int (-1)), (2, .int x60), (0, .ref h0), (1, .int x_0)] dX7_ask_35 (by decide) rfl ?_
      refine J_iconst E 0 dX7_ask_37 (by decide) ?_
      refine J_istore E [(5, .int 0), (4, .int 7), (3, .int (-1)), (2, .int x60), (0, .ref h0), (1, .int x_0)] dX7_ask_38 (by decide) rfl ?_
      exact J.sub [4, 5, 3, 2, 1, 0] rfl (J40 101 v (hOk) (Kp.rf) Fr.rf b56 x60 b64 (-1) ((Bd.lit (-1) (-1) (by decide)).w (-1) 99 (by decide)) 7 ((Bd.lit 7 7 (by decide)).w I0 7 (by decide)) 0 ((Bd.lit 0 0 (by decide)).w 0 100 (by decide)) (Mu.start _ (Bd.lit 0 0 (by decide)) (by decide)) ((kx_X7_ask_6 (e53) (e62) (c54) (c63)).symm.trans hK))
    · have b65 : Bd x60 0 0 := Bd.eq_l c63 b61 (Bd.lit 0 0 (by decide)) 0 0 (by decide)
      refine J_iconst E (-1) dX7_ask_29 (by decide) ?_
      exact J_iret E hr dX7_ask_30 ⟨hOk, Kp.rf, trivial, ⟨⟨rfl, ((kx_X7_ask_7 (e53) (e62) (c54) (c63)).symm.trans hK)⟩, Fr.rf⟩⟩
  · have b66 : Bd x51 0 0 := Bd.eq_l c54 b52 (Bd.lit 0 0 (by decide)) 0 0 (by decide)
    refine J_aload_n E dX7_ask_11 0 rfl ?_
    refine J_callVI E cal_X7_bad wd364 rfl (S_X7.h S0) [] [] (ct_X7_bad l D dA G v w (hOk) h0 S0) rfl rfl (Nat.le_of_ble_eq_true rfl) ⟨rfl, rfl⟩ ⟨Nat.le_of_ble_eq_true rfl, Nat.le_of_ble_eq_true rfl⟩ dX7_ask_12 (fun x70 v67 w68 p69 => ?_)
    have ew9 : w = w68 := p69.2.2.2.1.1.symm
    subst ew9
    have o71 := p69.1
    have k72 : Kp G v v67 := (Kp.rf).tr p69.2.1
    have f73 : Fr G [0, 7, 109] v v67 := Fr.tr Fr.rf (p69.2.2.2.2) (by decide)
    have b74 : Bd x70 (-2) (-2) := p69.2.2.1
    have e75 : x70 = (F_X7_bad G w v h0).1 := congrArg Prod.fst (p69.2.2.2.1).2
    have e76 : v67 = (F_X7_bad G w v h0).2 := congrArg Prod.snd (p69.2.2.2.1).2
    have hK : K_X7_ask_c2 G w h0 v67 x70 = F_X7_ask G w v h0 x_0 := ((kx_X7_ask_8 (e53) (e75) (e76) (c54)).symm.trans hK)
    exact J_iret E hr dX7_ask_15 ⟨o71, k72, trivial, ⟨⟨rfl, ((kx_X7_ask_9).symm.trans hK)⟩, f73⟩⟩

abbrev rm_X7_gain : Room := { frames := 0, cells := 0, slots := 0, locals := 0 }
set_option maxHeartbeats 4000000 in
set_option maxRecDepth 100000 in
theorem ct_X7_gain (l : Launch) (D : va_G) (dA : Nat → ClassId) (G : Gm) (v : Mv) (w : Mw) (hOk : Ok G v w) (x_0 : Int32) (bx_0 : Bd x_0 0 1) (x_1 : Int32) (bx_1 : Bd x_1 0 1) (x_2 : Int32) (x_3 : Int32) (x_4 : Int32) : CtI l yX7_gain cX7_gain 5 (some .int) rm_X7_gain D dA G [.int x_0, .int x_1, .int x_2, .int x_3, .int x_4] v w (fun r v1 w1 => v1 = v ∧ w1 = w ∧ Bd r (-3) 5 ∧ True) := by
  refine CtI.of RX7 [(0, .int x_0), (1, .int x_1), (2, .int x_2), (3, .int x_3), (4, .int x_4)] (Nat.le_of_ble_eq_true rfl) rfl (by decide) rfl ?_
  intro p e s m args below meth c E hr
  have J23 : Bd x_0 0 1 → Bd x_1 0 1 → J p l e rm_X7_gain s m args below meth c 0 0 (MQ below (QcI D dA G (fun r v1 w1 => v1 = v ∧ w1 = w ∧ Bd r (-3) 5 ∧ True)) args s 0 0 (dm G)) D dA G (dm G) s.heap 5 v w [(0, .int x_0), (1, .int x_1), (2, .int x_2), (3, .int x_3), (4, .int x_4)] 23 [] := by
    intro b1 b2
    refine J_iload_n E dX7_gain_23 0 rfl ?_
    refine J_if_eq E 40 dX7_gain_24 (by decide) (fun c3 => ?_) (fun c3 => ?_)
    · have b4 : Bd x_0 0 0 := Bd.eq_l c3 b1 (Bd.lit 0 0 (by decide)) 0 0 (by decide)
      refine J_iload_n E dX7_gain_40 1 rfl ?_
      refine J_if_eq E 54 dX7_gain_41 (by decide) (fun c5 => ?_) (fun c5 => ?_)
      · have b6 : Bd x_1 0 0 := Bd.eq_l c5 b2 (Bd.lit 0 0 (by decide)) 0 0 (by decide)
        refine J_iconst E 0 dX7_gain_54 (by decide) ?_
        exact J_iret E hr dX7_gain_55 ⟨rfl, rfl, ((Bd.lit 0 0 (by decide)).w (-3) 5 (by decide)), trivial⟩
      · have b7 : Bd x_1 1 1 := (Bd.ne_lo c5 b2 (Bd.lit 0 0 (by decide))).w _ _ (by decide)
        refine J_iload_n E dX7_gain_44 3 rfl ?_
        refine J_iload E dX7_gain_45 4 rfl ?_
        refine J_icmp_ge E 54 dX7_gain_47 (by decide) (fun c8 => ?_) (fun c8 => ?_)
        · refine J_iconst E 0 dX7_gain_54 (by decide) ?_
          exact J_iret E hr dX7_gain_55 ⟨rfl, rfl, ((Bd.lit 0 0 (by decide)).w (-3) 5 (by decide)), trivial⟩
        · refine J_iconst E 1 dX7_gain_50 (by decide) ?_
          refine J_goto E 55 dX7_gain_51 (by decide) ?_
          exact J_iret E hr dX7_gain_55 ⟨rfl, rfl, ((Bd.lit 1 1 (by decide)).w (-3) 5 (by decide)), trivial⟩
    · have b9 : Bd x_0 1 1 := (Bd.ne_lo c3 b1 (Bd.lit 0 0 (by decide))).w _ _ (by decide)
      refine J_iload_n E dX7_gain_27 2 rfl ?_
      refine J_iload E dX7_gain_28 4 rfl ?_
      refine J_icmp_lt E 37 dX7_gain_30 (by decide) (fun c10 => ?_) (fun c10 => ?_)
      · refine J_bipush E (-2) dX7_gain_37 (by decide) ?_
        exact J_iret E hr dX7_gain_39 ⟨rfl, rfl, ((Bd.lit (-2) (-2) (by decide)).w (-3) 5 (by decide)), trivial⟩
      · refine J_iconst E 5 dX7_gain_33 (by decide) ?_
        refine J_goto E 39 dX7_gain_34 (by decide) ?_
        exact J_iret E hr dX7_gain_39 ⟨rfl, rfl, ((Bd.lit 5 5 (by decide)).w (-3) 5 (by decide)), trivial⟩
  refine J_iload_n E dX7_gain_0 0 rfl ?_
  refine J_if_eq E 23 dX7_gain_1 (by decide) (fun c11 => ?_) (fun c11 => ?_)
  · have b12 : Bd x_0 0 0 := Bd.eq_l c11 bx_0 (Bd.lit 0 0 (by decide)) 0 0 (by decide)
    exact J.sub [0, 1, 2, 3, 4] rfl (J23 (b12.w 0 1 (by decide)) bx_1)
  · have b13 : Bd x_0 1 1 := (Bd.ne_lo c11 bx_0 (Bd.lit 0 0 (by decide))).w _ _ (by decide)
    refine J_iload_n E dX7_gain_4 1 rfl ?_
    refine J_if_eq E 23 dX7_gain_5 (by decide) (fun c14 => ?_) (fun c14 => ?_)
    · have b15 : Bd x_1 0 0 := Bd.eq_l c14 bx_1 (Bd.lit 0 0 (by decide)) 0 0 (by decide)
      exact J.sub [0, 1, 2, 3, 4] rfl (J23 (b13.w 0 1 (by decide)) (b15.w 0 1 (by decide)))
    · have b16 : Bd x_1 1 1 := (Bd.ne_lo c14 bx_1 (Bd.lit 0 0 (by decide))).w _ _ (by decide)
      refine J_iload_n E dX7_gain_8 2 rfl ?_
      refine J_iload_n E dX7_gain_9 3 rfl ?_
      refine J_iadd E dX7_gain_10 (fun x17 e18 => ?_)
      refine J_iload E dX7_gain_11 4 rfl ?_
      refine J_icmp_lt E 20 dX7_gain_13 (by decide) (fun c19 => ?_) (fun c19 => ?_)
      · refine J_bipush E (-3) dX7_gain_20 (by decide) ?_
        exact J_iret E hr dX7_gain_22 ⟨rfl, rfl, ((Bd.lit (-3) (-3) (by decide)).w (-3) 5 (by decide)), trivial⟩
      · refine J_iconst E 3 dX7_gain_16 (by decide) ?_
        refine J_goto E 22 dX7_gain_17 (by decide) ?_
        exact J_iret E hr dX7_gain_22 ⟨rfl, rfl, ((Bd.lit 3 3 (by decide)).w (-3) 5 (by decide)), trivial⟩

abbrev rm_X7_isContent : Room := { frames := 1, cells := 0, slots := 0, locals := 24 }
set_option maxHeartbeats 4000000 in
set_option maxRecDepth 100000 in
theorem ct_X7_isContent (l : Launch) (D : va_G) (dA : Nat → ClassId) (G : Gm) (v : Mv) (w : Mw) (hOk : Ok G v w) (x_0 : Int32) (bx_0 : Bd x_0 0 1) (x_1 : Int32) (bx_1 : Bd x_1 0 1) (x_2 : Int32) (x_3 : Int32) (x_4 : Int32) : CtI l yX7_isContent cX7_isContent 5 (some .boolean) rm_X7_isContent D dA G [.int x_0, .int x_1, .int x_2, .int x_3, .int x_4] v w (fun r v1 w1 => v1 = v ∧ w1 = w ∧ Bd r 0 1 ∧ True) := by
  refine CtI.of RX7 [(0, .int x_0), (1, .int x_1), (2, .int x_2), (3, .int x_3), (4, .int x_4)] (Nat.le_of_ble_eq_true rfl) rfl (by decide) rfl ?_
  intro p e s m args below meth c E hr
  have J18 : Bd x_1 0 1 → ∀ x2 : Int32, Bd x2 0 1 → ∀ x4 : Int32, Bd x4 (-3) 5 → J p l e rm_X7_isContent s m args below meth c 0 0 (MQ below (QcI D dA G (fun r v1 w1 => v1 = v ∧ w1 = w ∧ Bd r 0 1 ∧ True)) args s 0 0 (dm G)) D dA G (dm G) s.heap 5 v w [(1, .int x_1), (2, .int x_2), (3, .int x_3), (4, .int x_4)] 18 [.int x2, .int x4] := by
    intro b1 x2 b3 x4 b5
    refine J_iload_n E dX7_isContent_18 0 rfl ?_
    refine J_iload_n E dX7_isContent_19 1 rfl ?_
    refine J_iload_n E dX7_isContent_20 2 rfl ?_
    refine J_iload E dX7_isContent_21 3 rfl ?_
    refine J_callSI E cal_X7_gain wd845 [.int x2, .int x_1, .int x_2, .int x_3, .int x_4] [.int x4] (ct_X7_gain l D dA G v w (hOk) x2 b3 x_1 b1 x_2 x_3 x_4) rfl rfl (Nat.le_of_ble_eq_true rfl) ⟨rfl, rfl⟩ ⟨Nat.le_of_ble_eq_true rfl, Nat.le_of_ble_eq_true rfl⟩ dX7_isContent_23 (fun x9 v6 w7 p8 => ?_)
    rw [p8.1, p8.2.1]
    have b10 : Bd x9 (-3) 5 := p8.2.2.1
    refine J_icmp_lt E 33 dX7_isContent_26 (by decide) (fun c11 => ?_) (fun c11 => ?_)
    · have b12 : Bd x4 (-3) 4 := Bd.lt_l c11 b5 b10 4 (by decide)
      have b13 : Bd x9 (-2) 5 := Bd.lt_r c11 b5 b10 (-2) (by decide)
      refine J_iconst E 0 dX7_isContent_33 (by decide) ?_
      exact J_zret E hr (Bd.z (Bd.lit 0 0 (by decide)) (by decide)) dX7_isContent_34 ⟨rfl, rfl, ((Bd.lit 0 0 (by decide)).w 0 1 (by decide)), trivial⟩
    · refine J_iconst E 1 dX7_isContent_29 (by decide) ?_
      refine J_goto E 34 dX7_isContent_30 (by decide) ?_
      exact J_zret E hr (Bd.z (Bd.lit 1 1 (by decide)) (by decide)) dX7_isContent_34 ⟨rfl, rfl, ((Bd.lit 1 1 (by decide)).w 0 1 (by decide)), trivial⟩
  refine J_iload_n E dX7_isContent_0 0 rfl ?_
  refine J_iload_n E dX7_isContent_1 1 rfl ?_
  refine J_iload_n E dX7_isContent_2 2 rfl ?_
  refine J_iload_n E dX7_isContent_3 3 rfl ?_
  refine J_iload E dX7_isContent_4 4 rfl ?_
  refine J_callSI E cal_X7_gain wd845 [.int x_0, .int x_1, .int x_2, .int x_3, .int x_4] [] (ct_X7_gain l D dA G v w (hOk) x_0 bx_0 x_1 bx_1 x_2 x_3 x_4) rfl rfl (Nat.le_of_ble_eq_true rfl) ⟨rfl, rfl⟩ ⟨Nat.le_of_ble_eq_true rfl, Nat.le_of_ble_eq_true rfl⟩ dX7_isContent_6 (fun x17 v14 w15 p16 => ?_)
  rw [p16.1, p16.2.1]
  have b18 : Bd x17 (-3) 5 := p16.2.2.1
  refine J_iload_n E dX7_isContent_9 0 rfl ?_
  refine J_if_ne E 17 dX7_isContent_10 (by decide) (fun c19 => ?_) (fun c19 => ?_)
  · have b20 : Bd x_0 1 1 := (Bd.ne_lo c19 bx_0 (Bd.lit 0 0 (by decide))).w _ _ (by decide)
    refine J_iconst E 0 dX7_isContent_17 (by decide) ?_
    exact J.sub [1, 2, 3, 4] rfl (J18 bx_1 0 ((Bd.lit 0 0 (by decide)).w 0 1 (by decide)) x17 b18)
  · have b21 : Bd x_0 0 0 := Bd.eq_l c19 bx_0 (Bd.lit 0 0 (by decide)) 0 0 (by decide)
    refine J_iconst E 1 dX7_isContent_13 (by decide) ?_
    refine J_goto E 18 dX7_isContent_14 (by decide) ?_
    exact J.sub [1, 2, 3, 4] rfl (J18 bx_1 1 ((Bd.lit 1 1 (by decide)).w 0 1 (by decide)) x17 b18)

abbrev rm_X7_tries : Room := { frames := 3, cells := 0, slots := 0, locals := 67 }
set_option maxHeartbeats 4000000 in
set_option maxRecDepth 100000 in
theorem ct_X7_tries (l : Launch) (D : va_G) (dA : Nat → ClassId) (G : Gm) (v : Mv) (w : Mw) (hOk : Ok G v w) (h0 : Nat) (S0 : S_X7 G h0) (x_0 : Int32) (x_1 : Int32) (x_2 : Int32) : CtI l yX7_tries cX7_tries 11 (some .int) rm_X7_tries D dA G [.ref h0, .int x_0, .int x_1, .int x_2] v w (fun r v1 w1 => Ok G v1 w1 ∧ Kp G v v1 ∧ True ∧ Fr G [7] v v1) := by
  refine CtI.of RX7 [(0, .ref h0), (1, .int x_0), (2, .int x_1), (3, .int x_2)] (Nat.le_of_ble_eq_true rfl) rfl (by decide) rfl ?_
  intro p e s m args below meth c E hr
  have J82 : ∀ n82 : Nat, ∀ x1 : Int32, ∀ x2 : Int32, ∀ x3 : Int32, ∀ x4 : Int32, Bd x4 0 127 → ∀ x6 : Int32, Bd x6 0 4 → Mu x6 4 n82 → J p l e rm_X7_tries s m args below meth c 0 0 (MQ below (QcI D dA G (fun r v1 w1 => Ok G v1 w1 ∧ Kp G v v1 ∧ True ∧ Fr G [7] v v1)) args s 0 0 (dm G)) D dA G (dm G) s.heap 11 v w [(4, .int x1), (5, .int x2), (6, .int x3), (7, .int x4), (8, .int x6)] 82 [] := by
    intro n82
    induction n82 with
    | zero => intro x1 x2 x3 x4 b5 x6 b7 hm; exact hm.zero b7 (by decide)
    | succ n82 ih82 =>
      intro x1 x2 x3 x4 b5 x6 b7 hmu82
      have J157 : ∀ x8 : Int32, Bd x8 0 127 → Bd x6 0 3 → J p l e rm_X7_tries s m args below meth c 0 0 (MQ below (QcI D dA G (fun r v1 w1 => Ok G v1 w1 ∧ Kp G v v1 ∧ True ∧ Fr G [7] v v1)) args s 0 0 (dm G)) D dA G (dm G) s.heap 11 v w [(4, .int x1), (5, .int x2), (6, .int x3), (7, .int x8), (8, .int x6)] 157 [] := by
        intro x8 b9 b10
        refine J_iinc E 4 1 (fun z => [(8, .int z), (4, .int x1), (5, .int x2), (6, .int x3), (7, .int x8)]) dX7_tries_157 rfl (by decide) (by decide) (fun _ => rfl) (fun x11 e12 => ?_)
        have b13 : Bd x11 1 4 := (Bd.add e12 b10 (Bd.lit 1 1 (by decide)) (by decide)).w _ _ (by decide)
        refine J_goto E 82 dX7_tries_160 (by decide) ?_
        exact J.sub [1, 2, 3, 4, 0] rfl (ih82 x1 x2 x3 x8 b9 x11 (b13.w 0 4 (by decide)) (Mu.step hmu82 e12 b10 (Bd.lit 1 1 (by decide)) (by decide)))
      have J114 : Bd x4 0 127 → Bd x6 0 3 → ∀ x16 : Int32, Bd x16 0 1 → ∀ x18 : Int32, Bd x18 0 1 → J p l e rm_X7_tries s m args below meth c 0 0 (MQ below (QcI D dA G (fun r v1 w1 => Ok G v1 w1 ∧ Kp G v v1 ∧ True ∧ Fr G [7] v v1)) args s 0 0 (dm G)) D dA G (dm G) s.heap 11 v w [(4, .int x1), (5, .int x2), (6, .int x3), (7, .int x4), (8, .int x6), (9, .int x16)] 114 [.int x18] := by
        intro b14 b15 x16 b17 x18 b19
        refine J_istore E [(10, .int x18), (4, .int x1), (5, .int x2), (6, .int x3), (7, .int x4), (8, .int x6), (9, .int x16)] dX7_tries_114 (by decide) rfl ?_
        refine J_iload E dX7_tries_116 6 rfl ?_
        refine J_iload E dX7_tries_118 0 rfl ?_
        refine J_iload E dX7_tries_120 1 rfl ?_
        refine J_iload E dX7_tries_122 2 rfl ?_
        refine J_iload E dX7_tries_124 3 rfl ?_
        refine J_callSI E cal_X7_isContent wd842 [.int x16, .int x18, .int x1, .int x2, .int x3] [] (ct_X7_isContent l D dA G v w (hOk) x16 b17 x18 b19 x1 x2 x3) rfl rfl (Nat.le_of_ble_eq_true rfl) ⟨rfl, rfl⟩ ⟨Nat.le_of_ble_eq_true rfl, Nat.le_of_ble_eq_true rfl⟩ dX7_tries_126 (fun x23 v20 w21 p22 => ?_)
        rw [p22.1, p22.2.1]
        have b24 : Bd x23 0 1 := p22.2.2.1
        refine J_if_eq E 157 dX7_tries_129 (by decide) (fun c25 => ?_) (fun c25 => ?_)
        · have b26 : Bd x23 0 0 := Bd.eq_l c25 b24 (Bd.lit 0 0 (by decide)) 0 0 (by decide)
          exact J.sub [1, 2, 3, 4, 5] rfl (J157 x4 b14 b15)
        · have b27 : Bd x23 1 1 := (Bd.ne_lo c25 b24 (Bd.lit 0 0 (by decide))).w _ _ (by decide)
          refine J_iload E dX7_tries_132 0 rfl ?_
          refine J_iload E dX7_tries_134 6 rfl ?_
          refine J_iload E dX7_tries_136 2 rfl ?_
          refine J_iload E dX7_tries_138 1 rfl ?_
          refine J_iload E dX7_tries_140 3 rfl ?_
          refine J_callSI E cal_X7_isContent wd842 [.int x18, .int x16, .int x2, .int x1, .int x3] [] (ct_X7_isContent l D dA G v w (hOk) x18 b19 x16 b17 x2 x1 x3) rfl rfl (Nat.le_of_ble_eq_true rfl) ⟨rfl, rfl⟩ ⟨Nat.le_of_ble_eq_true rfl, Nat.le_of_ble_eq_true rfl⟩ dX7_tries_142 (fun x31 v28 w29 p30 => ?_)
          rw [p30.1, p30.2.1]
          have b32 : Bd x31 0 1 := p30.2.2.1
          refine J_if_eq E 157 dX7_tries_145 (by decide) (fun c33 => ?_) (fun c33 => ?_)
          · have b34 : Bd x31 0 0 := Bd.eq_l c33 b32 (Bd.lit 0 0 (by decide)) 0 0 (by decide)
            exact J.sub [1, 2, 3, 4, 5] rfl (J157 x4 b14 b15)
          · have b35 : Bd x31 1 1 := (Bd.ne_lo c33 b32 (Bd.lit 0 0 (by decide))).w _ _ (by decide)
            refine J_iload E dX7_tries_148 4 rfl ?_
            refine J_iconst E 1 dX7_tries_150 (by decide) ?_
            refine J_iload E dX7_tries_151 5 rfl ?_
            refine J_ishl E dX7_tries_153 (fun x36 e37 => ?_)
            have b38 : Bd x36 1 8 := Bd.shl1 e37 b15 3 (by decide)
            refine J_ior E dX7_tries_154 (fun x39 e40 => ?_)
            have b41 : Bd x39 0 127 := Bd.or e40 b14 b38 7 (by decide)
            refine J_istore E [(7, .int x39), (10, .int x18), (4, .int x1), (5, .int x2), (6, .int x3), (8, .int x6), (9, .int x16)] dX7_tries_155 (by decide) rfl ?_
            exact J.sub [2, 3, 4, 0, 5] rfl (J157 x39 b41 b15)
      have J100 : Bd x4 0 127 → Bd x6 0 3 → ∀ x44 : Int32, Bd x44 0 1 → J p l e rm_X7_tries s m args below meth c 0 0 (MQ below (QcI D dA G (fun r v1 w1 => Ok G v1 w1 ∧ Kp G v v1 ∧ True ∧ Fr G [7] v v1)) args s 0 0 (dm G)) D dA G (dm G) s.heap 11 v w [(4, .int x1), (5, .int x2), (6, .int x3), (7, .int x4), (8, .int x6)] 100 [.int x44] := by
        intro b42 b43 x44 b45
        refine J_istore E [(9, .int x44), (4, .int x1), (5, .int x2), (6, .int x3), (7, .int x4), (8, .int x6)] dX7_tries_100 (by decide) rfl ?_
        refine J_iload E dX7_tries_102 5 rfl ?_
        refine J_iconst E 2 dX7_tries_104 (by decide) ?_
        refine J_iand E dX7_tries_105 (fun x46 e47 => ?_)
        have b48 : Bd x46 0 2 := Bd.and_r e47 (Bd.lit 2 2 (by decide)) (by decide)
        refine J_if_eq E 113 dX7_tries_106 (by decide) (fun c49 => ?_) (fun c49 => ?_)
        · have b50 : Bd x46 0 0 := Bd.eq_l c49 b48 (Bd.lit 0 0 (by decide)) 0 0 (by decide)
          refine J_iconst E 0 dX7_tries_113 (by decide) ?_
          exact J.sub [1, 2, 3, 4, 5, 0] rfl (J114 b42 b43 x44 b45 0 ((Bd.lit 0 0 (by decide)).w 0 1 (by decide)))
        · have b51 : Bd x46 1 2 := (Bd.ne_lo c49 b48 (Bd.lit 0 0 (by decide))).w _ _ (by decide)
          refine J_iconst E 1 dX7_tries_109 (by decide) ?_
          refine J_goto E 114 dX7_tries_110 (by decide) ?_
          exact J.sub [1, 2, 3, 4, 5, 0] rfl (J114 b42 b43 x44 b45 1 ((Bd.lit 1 1 (by decide)).w 0 1 (by decide)))
      refine J_iload E dX7_tries_82 4 rfl ?_
      refine J_iconst E 4 dX7_tries_84 (by decide) ?_
      refine J_icmp_ge E 163 dX7_tries_85 (by decide) (fun c52 => ?_) (fun c52 => ?_)
      · have b53 : Bd x6 4 4 := Bd.le_r c52 (Bd.lit 4 4 (by decide)) b7 4 (by decide)
        refine J_iload E dX7_tries_163 3 rfl ?_
        exact J_iret E hr dX7_tries_165 ⟨hOk, Kp.rf, trivial, Fr.rf⟩
      · have b54 : Bd x6 0 3 := Bd.lt_l (nle c52) b7 (Bd.lit 4 4 (by decide)) 3 (by decide)
        refine J_iload E dX7_tries_88 4 rfl ?_
        refine J_iconst E 1 dX7_tries_90 (by decide) ?_
        refine J_iand E dX7_tries_91 (fun x55 e56 => ?_)
        have b57 : Bd x55 0 1 := Bd.and_r e56 (Bd.lit 1 1 (by decide)) (by decide)
        refine J_if_eq E 99 dX7_tries_92 (by decide) (fun c58 => ?_) (fun c58 => ?_)
        · have b59 : Bd x55 0 0 := Bd.eq_l c58 b57 (Bd.lit 0 0 (by decide)) 0 0 (by decide)
          refine J_iconst E 0 dX7_tries_99 (by decide) ?_
          exact J.sub [0, 1, 2, 3, 4] rfl (J100 b5 b54 0 ((Bd.lit 0 0 (by decide)).w 0 1 (by decide)))
        · have b60 : Bd x55 1 1 := (Bd.ne_lo c58 b57 (Bd.lit 0 0 (by decide))).w _ _ (by decide)
          refine J_iconst E 1 dX7_tries_95 (by decide) ?_
          refine J_goto E 100 dX7_tries_96 (by decide) ?_
          exact J.sub [0, 1, 2, 3, 4] rfl (J100 b5 b54 1 ((Bd.lit 1 1 (by decide)).w 0 1 (by decide)))
  have J38 :  J p l e rm_X7_tries s m args below meth c 0 0 (MQ below (QcI D dA G (fun r v1 w1 => Ok G v1 w1 ∧ Kp G v v1 ∧ True ∧ Fr G [7] v v1)) args s 0 0 (dm G)) D dA G (dm G) s.heap 11 v w [(0, .ref h0)] 38 [] := by
    refine J_aload_n E dX7_tries_38 0 rfl ?_
    refine J_callVI E cal_X7_bad wd364 rfl (S_X7.h S0) [] [] (ct_X7_bad l D dA G v w (hOk) h0 S0) rfl rfl (Nat.le_of_ble_eq_true rfl) ⟨rfl, rfl⟩ ⟨Nat.le_of_ble_eq_true rfl, Nat.le_of_ble_eq_true rfl⟩ dX7_tries_39 (fun x64 v61 w62 p63 => ?_)
    have ew9 : w = w62 := p63.2.2.2.1.1.symm
    subst ew9
    have o65 := p63.1
    have k66 : Kp G v v61 := (Kp.rf).tr p63.2.1
    have f67 : Fr G [7] v v61 := Fr.tr Fr.rf (p63.2.2.2.2) (by decide)
    have b68 : Bd x64 (-2) (-2) := p63.2.2.1
    exact J_iret E hr dX7_tries_42 ⟨o65, k66, trivial, f67⟩
  refine J_aload_n E dX7_tries_0 0 rfl ?_
  refine J_getR E in_X7 rfl (S_X7.h S0) 0 (by decide) wd308 rfl dX7_tries_1 ?_
  refine J_iload_n E dX7_tries_4 1 rfl ?_
  refine J_callVNI E cal_X6_hasOne wd584 rfl (S_X6.h (S_X7.f0 S0)) [.int x_0] [] (ct_X6_hasOne l D dA G v w (hOk) (rf G h0 0) (S_X7.f0 S0) x_0) rfl rfl (Nat.le_of_ble_eq_true rfl) ⟨rfl, rfl⟩ ⟨Nat.le_of_ble_eq_true rfl, Nat.le_of_ble_eq_true rfl⟩ dX7_tries_5 (fun x72 v69 w70 p71 => ?_)
  rw [p71.1, p71.2.1]
  have b73 : Bd x72 0 1 := p71.2.2.1
  refine J_if_eq E 38 dX7_tries_8 (by decide) (fun c74 => ?_) (fun c74 => ?_)
  · have b75 : Bd x72 0 0 := Bd.eq_l c74 b73 (Bd.lit 0 0 (by decide)) 0 0 (by decide)
    exact J.sub [0] rfl (J38)
  · have b76 : Bd x72 1 1 := (Bd.ne_lo c74 b73 (Bd.lit 0 0 (by decide))).w _ _ (by decide)
    have b77 : Bd x_0 0 6 := (p71.2.2.2.1).resolve_left c74
    refine J_aload_n E dX7_tries_11 0 rfl ?_
    refine J_getR E in_X7 rfl (S_X7.h S0) 0 (by decide) wd308 rfl dX7_tries_12 ?_
    refine J_iload_n E dX7_tries_15 2 rfl ?_
    refine J_callVNI E cal_X6_hasOne wd584 rfl (S_X6.h (S_X7.f0 S0)) [.int x_1] [] (ct_X6_hasOne l D dA G v w (hOk) (rf G h0 0) (S_X7.f0 S0) x_1) rfl rfl (Nat.le_of_ble_eq_true rfl) ⟨rfl, rfl⟩ ⟨Nat.le_of_ble_eq_true rfl, Nat.le_of_ble_eq_true rfl⟩ dX7_tries_16 (fun x81 v78 w79 p80 => ?_)
    rw [p80.1, p80.2.1]
    have b82 : Bd x81 0 1 := p80.2.2.1
    refine J_if_eq E 38 dX7_tries_19 (by decide) (fun c83 => ?_) (fun c83 => ?_)
    · have b84 : Bd x81 0 0 := Bd.eq_l c83 b82 (Bd.lit 0 0 (by decide)) 0 0 (by decide)
      exact J.sub [0] rfl (J38)
    · have b85 : Bd x81 1 1 := (Bd.ne_lo c83 b82 (Bd.lit 0 0 (by decide))).w _ _ (by decide)
      have b86 : Bd x_1 0 6 := (p80.2.2.2.1).resolve_left c83
      refine J_iload_n E dX7_tries_22 1 rfl ?_
      refine J_iload_n E dX7_tries_23 2 rfl ?_
      refine J_icmp_eq E 38 dX7_tries_24 (by decide) (fun c87 => ?_) (fun c87 => ?_)
      · exact J.sub [0] rfl (J38)
      · refine J_aload_n E dX7_tries_27 0 rfl ?_
        refine J_getR E in_X7 rfl (S_X7.h S0) 0 (by decide) wd308 rfl dX7_tries_28 ?_
        refine J_iload_n E dX7_tries_31 3 rfl ?_
        refine J_callVNI E cal_X6_hasThing wd588 rfl (S_X6.h (S_X7.f0 S0)) [.int x_2] [] (ct_X6_hasThing l D dA G v w (hOk) (rf G h0 0) (S_X7.f0 S0) x_2) rfl rfl (Nat.le_of_ble_eq_true rfl) ⟨rfl, rfl⟩ ⟨Nat.le_of_ble_eq_true rfl, Nat.le_of_ble_eq_true rfl⟩ dX7_tries_32 (fun x91 v88 w89 p90 => ?_)
        rw [p90.1, p90.2.1]
        have b92 : Bd x91 0 1 := p90.2.2.1
        refine J_if_ne E 43 dX7_tries_35 (by decide) (fun c93 => ?_) (fun c93 => ?_)
        · have b94 : Bd x91 1 1 := (Bd.ne_lo c93 b92 (Bd.lit 0 0 (by decide))).w _ _ (by decide)
          have b95 : Bd x_2 0 6 := (p90.2.2.2.1).resolve_left c93
          refine J_aload_n E dX7_tries_43 0 rfl ?_
          refine J_getR E in_X7 rfl (S_X7.h S0) 0 (by decide) wd308 rfl dX7_tries_44 ?_
          refine J_iload_n E dX7_tries_47 1 rfl ?_
          refine J_iconst E 0 dX7_tries_48 (by decide) ?_
          refine J_callVNI E cal_X6_liftOf wd655 rfl (S_X6.h (S_X7.f0 S0)) [.int x_0, .int 0] [] (ct_X6_liftOf l D dA G v w (hOk) (rf G h0 0) (S_X7.f0 S0) x_0 b77 0 ((Bd.lit 0 0 (by decide)).w 0 60 (by decide))) rfl rfl (Nat.le_of_ble_eq_true rfl) ⟨rfl, rfl⟩ ⟨Nat.le_of_ble_eq_true rfl, Nat.le_of_ble_eq_true rfl⟩ dX7_tries_49 (fun x99 v96 w97 p98 => ?_)
          rw [p98.1, p98.2.1]
          refine J_istore E [(4, .int x99), (0, .ref h0), (1, .int x_0), (2, .int x_1), (3, .int x_2)] dX7_tries_52 (by decide) rfl ?_
          refine J_aload_n E dX7_tries_54 1 rfl ?_
          refine J_getR E in_X7 rfl (S_X7.h S0) 0 (by decide) wd308 rfl dX7_tries_55 ?_
          refine J_iload_n E dX7_tries_58 3 rfl ?_
          refine J_iconst E 0 dX7_tries_59 (by decide) ?_
          refine J_callVNI E cal_X6_liftOf wd655 rfl (S_X6.h (S_X7.f0 S0)) [.int x_1, .int 0] [] (ct_X6_liftOf l D dA G v w (hOk) (rf G h0 0) (S_X7.f0 S0) x_1 b86 0 ((Bd.lit 0 0 (by decide)).w 0 60 (by decide))) rfl rfl (Nat.le_of_ble_eq_true rfl) ⟨rfl, rfl⟩ ⟨Nat.le_of_ble_eq_true rfl, Nat.le_of_ble_eq_true rfl⟩ dX7_tries_60 (fun x103 v100 w101 p102 => ?_)
          rw [p102.1, p102.2.1]
          refine J_istore E [(5, .int x103), (4, .int x99), (0, .ref h0), (1, .int x_0), (2, .int x_1), (3, .int x_2)] dX7_tries_63 (by decide) rfl ?_
          refine J_aload_n E dX7_tries_65 2 rfl ?_
          refine J_getR E in_X7 rfl (S_X7.h S0) 0 (by decide) wd308 rfl dX7_tries_66 ?_
          refine J_iload_n E dX7_tries_69 5 rfl ?_
          refine J_iconst E 0 dX7_tries_70 (by decide) ?_
          refine J_callVNI E cal_X6_weightOf wd660 rfl (S_X6.h (S_X7.f0 S0)) [.int x_2, .int 0] [] (ct_X6_weightOf l D dA G v w (hOk) (rf G h0 0) (S_X7.f0 S0) x_2 b95 0 ((Bd.lit 0 0 (by decide)).w 0 60 (by decide))) rfl rfl (Nat.le_of_ble_eq_true rfl) ⟨rfl, rfl⟩ ⟨Nat.le_of_ble_eq_true rfl, Nat.le_of_ble_eq_true rfl⟩ dX7_tries_71 (fun x107 v104 w105 p106 => ?_)
          rw [p106.1, p106.2.1]
          refine J_istore E [(6, .int x107), (5, .int x103), (4, .int x99), (0, .ref h0), (1, .int x_0), (2, .int x_1), (3, .int x_2)] dX7_tries_74 (by decide) rfl ?_
          refine J_iconst E 0 dX7_tries_76 (by decide) ?_
          refine J_istore E [(7, .int 0), (6, .int x107), (5, .int x103), (4, .int x99), (0, .ref h0), (1, .int x_0), (2, .int x_1), (3, .int x_2)] dX7_tries_77 (by decide) rfl ?_
          refine J_iconst E 0 dX7_tries_79 (by decide) ?_
          refine J_istore E [(8, .int 0), (7, .int 0), (6, .int x107), (5, .int x103), (4, .int x99), (0, .ref h0), (1, .int x_0), (2, .int x_1), (3, .int x_2)] dX7_tries_80 (by decide) rfl ?_
          exact J.sub [4, 3, 2, 1, 0] rfl (J82 5 x99 x103 x107 0 ((Bd.lit 0 0 (by decide)).w 0 127 (by decide)) 0 ((Bd.lit 0 0 (by decide)).w 0 4 (by decide)) (Mu.start _ (Bd.lit 0 0 (by decide)) (by decide)))
        · have b108 : Bd x91 0 0 := Bd.eq_l c93 b92 (Bd.lit 0 0 (by decide)) 0 0 (by decide)
          exact J.sub [0] rfl (J38)

abbrev rm_X7_commonDivisor : Room := { frames := 0, cells := 0, slots := 0, locals := 0 }
set_option maxHeartbeats 4000000 in
set_option maxRecDepth 100000 in
theorem ct_X7_commonDivisor (l : Launch) (D : va_G) (dA : Nat → ClassId) (G : Gm) (v : Mv) (w : Mw) (hOk : Ok G v w) (y_0 : Int64) (y_1 : Int64) : CtL l yX7_commonDivisor cX7_commonDivisor 11 (some .long) rm_X7_commonDivisor D dA G [.long y_0, .long y_1] v w (fun r v1 w1 => v1 = v ∧ w1 = w ∧ True) := by
  refine CtL.of RX7 [(0, .long y_0), (2, .long y_1)] (Nat.le_of_ble_eq_true rfl) rfl (by decide) rfl ?_
  intro p e s m args below meth c E hr
  have J9 : ∀ n9 : Nat, ∀ y1 : Int64, ∀ y2 : Int64, ∀ x3 : Int32, Bd x3 0 100 → Mu x3 100 n9 → J p l e rm_X7_commonDivisor s m args below meth c 0 0 (MQ below (QcL D dA G (fun r v1 w1 => v1 = v ∧ w1 = w ∧ True)) args s 0 0 (dm G)) D dA G (dm G) s.heap 11 v w [(4, .long y1), (6, .long y2), (8, .int x3)] 9 [] := by
    intro n9
    induction n9 with
    | zero => intro y1 y2 x3 b4 hm; exact hm.zero b4 (by decide)
    | succ n9 ih9 =>
      intro y1 y2 x3 b4 hmu9
      refine J_iload E dX7_commonDivisor_9 2 rfl ?_
      refine J_bipush E 100 dX7_commonDivisor_11 (by decide) ?_
      refine J_icmp_ge E 44 dX7_commonDivisor_13 (by decide) (fun c5 => ?_) (fun c5 => ?_)
      · have b6 : Bd x3 100 100 := Bd.le_r c5 (Bd.lit 100 100 (by decide)) b4 100 (by decide)
        refine J_lload E dX7_commonDivisor_44 0 rfl ?_
        exact J_lret E hr dX7_commonDivisor_46 ⟨rfl, rfl, trivial⟩
      · have b7 : Bd x3 0 99 := Bd.lt_l (nle c5) b4 (Bd.lit 100 100 (by decide)) 99 (by decide)
        refine J_lload E dX7_commonDivisor_16 1 rfl ?_
        refine J_lconst E 0 dX7_commonDivisor_18 (by decide) ?_
        refine J_lcmp E dX7_commonDivisor_19 (fun x8 e9 => ?_)
        refine J_if_eq E 44 dX7_commonDivisor_20 (by decide) (fun c10 => ?_) (fun c10 => ?_)
        · have b11 : Bd x8 0 0 := Bd.eq_l c10 (Bd.any x8) (Bd.lit 0 0 (by decide)) 0 0 (by decide)
          refine J_lload E dX7_commonDivisor_44 0 rfl ?_
          exact J_lret E hr dX7_commonDivisor_46 ⟨rfl, rfl, trivial⟩
        · have z12 : ¬ y2 = 0 := fun h9 => c10 (by rw [e9, h9]; rfl)
          refine J_lload E dX7_commonDivisor_23 0 rfl ?_
          refine J_lload E dX7_commonDivisor_25 1 rfl ?_
          refine J_lrem E dX7_commonDivisor_27 z12 (fun y13 e14 => ?_)
          refine J_lstore E [(9, .long y13), (4, .long y1), (6, .long y2), (8, .int x3)] dX7_commonDivisor_28 (by decide) rfl ?_
          refine J_lload E dX7_commonDivisor_30 2 rfl ?_
          refine J_lstore E [(4, .long y2), (9, .long y13), (6, .long y2), (8, .int x3)] dX7_commonDivisor_32 (by decide) rfl ?_
          refine J_lload E dX7_commonDivisor_34 1 rfl ?_
          refine J_lstore E [(6, .long y13), (4, .long y2), (9, .long y13), (8, .int x3)] dX7_commonDivisor_36 (by decide) rfl ?_
          refine J_iinc E 3 1 (fun z => [(8, .int z), (6, .long y13), (4, .long y2), (9, .long y13)]) dX7_commonDivisor_38 rfl (by decide) (by decide) (fun _ => rfl) (fun x15 e16 => ?_)
          have b17 : Bd x15 1 100 := (Bd.add e16 b7 (Bd.lit 1 1 (by decide)) (by decide)).w _ _ (by decide)
          refine J_goto E 9 dX7_commonDivisor_41 (by decide) ?_
          exact J.sub [2, 1, 0] rfl (ih9 y2 y13 x15 (b17.w 0 100 (by decide)) (Mu.step hmu9 e16 b7 (Bd.lit 1 1 (by decide)) (by decide)))
  refine J_lload_n E dX7_commonDivisor_0 0 rfl ?_
  refine J_lstore E [(4, .long y_0), (0, .long y_0), (2, .long y_1)] dX7_commonDivisor_1 (by decide) rfl ?_
  refine J_lload_n E dX7_commonDivisor_3 2 rfl ?_
  refine J_lstore E [(6, .long y_1), (4, .long y_0), (0, .long y_0), (2, .long y_1)] dX7_commonDivisor_4 (by decide) rfl ?_
  refine J_iconst E 0 dX7_commonDivisor_6 (by decide) ?_
  refine J_istore E [(8, .int 0), (6, .long y_1), (4, .long y_0), (0, .long y_0), (2, .long y_1)] dX7_commonDivisor_7 (by decide) rfl ?_
  exact J.sub [2, 1, 0] rfl (J9 101 y_0 y_1 0 ((Bd.lit 0 0 (by decide)).w 0 100 (by decide)) (Mu.start _ (Bd.lit 0 0 (by decide)) (by decide)))

abbrev rm_X7_setFraction : Room := { frames := 1, cells := 0, slots := 0, locals := 30 }
set_option maxHeartbeats 4000000 in
set_option maxRecDepth 100000 in
theorem ct_X7_setFraction (l : Launch) (D : va_G) (dA : Nat → ClassId) (G : Gm) (v : Mv) (w : Mw) (hOk : Ok G v w) (h0 : Nat) (S0 : S_X7 G h0) (y_0 : Int64) (y_1 : Int64) : CtV l yX7_setFraction cX7_setFraction 7 none rm_X7_setFraction D dA G [.ref h0, .long y_0, .long y_1] v w (fun v1 w1 => Ok G v1 w1 ∧ Kp G v v1 ∧ Fr G [7] v v1) := by
  refine CtV.of RX7 [(0, .ref h0), (1, .long y_0), (3, .long y_1)] (Nat.le_of_ble_eq_true rfl) rfl (by decide) rfl ?_
  intro p e s m args below meth c E hr
  refine J_lload_n E dX7_setFraction_0 1 rfl ?_
  refine J_lload_n E dX7_setFraction_1 2 rfl ?_
  refine J_callSL E cal_X7_commonDivisor wd861 [.long y_0, .long y_1] [] (ct_X7_commonDivisor l D dA G v w (hOk) y_0 y_1) rfl rfl (Nat.le_of_ble_eq_true rfl) ⟨rfl, rfl⟩ ⟨Nat.le_of_ble_eq_true rfl, Nat.le_of_ble_eq_true rfl⟩ dX7_setFraction_2 (fun y4 v1 w2 p3 => ?_)
  rw [p3.1, p3.2.1]
  refine J_lstore E [(5, .long y4), (0, .ref h0), (1, .long y_0), (3, .long y_1)] dX7_setFraction_5 (by decide) rfl ?_
  refine J_lload E dX7_setFraction_7 0 rfl ?_
  refine J_lconst E 0 dX7_setFraction_9 (by decide) ?_
  refine J_lcmp E dX7_setFraction_10 (fun x5 e6 => ?_)
  refine J_if_le E 30 dX7_setFraction_11 (by decide) (fun c7 => ?_) (fun c7 => ?_)
  · have b8 : Bd x5 I0 0 := Bd.le_l c7 (Bd.any x5) (Bd.lit 0 0 (by decide)) 0 (by decide)
    exact J_vret E hr dX7_setFraction_30 ⟨hOk, Kp.rf, Fr.rf⟩
  · have b9 : Bd x5 1 I1 := Bd.lt_r (nle c7) (Bd.lit 0 0 (by decide)) (Bd.any x5) 1 (by decide)
    have z10 : ¬ y4 = 0 := fun h9 => absurd (nle c7) (by rw [e6, h9]; decide)
    refine J_aload_n E dX7_setFraction_14 1 rfl ?_
    refine J_lload_n E dX7_setFraction_15 2 rfl ?_
    refine J_lload E dX7_setFraction_16 0 rfl ?_
    refine J_ldiv E dX7_setFraction_18 z10 (fun y11 e12 => ?_)
    refine J_pL E in_X7 rfl (S_X7.h S0) 7 (by decide) wd315 tyX7 tyX7_ok nmX7 rfl rfl .long (by decide +kernel) rfl rfl dX7_setFraction_19 (fun w13 e14 => ?_)
    have o15 : Ok G v w13 := by rw [e14]; exact Ok.stw hOk _ _ _
    refine J_aload_n E dX7_setFraction_22 1 rfl ?_
    refine J_lload_n E dX7_setFraction_23 3 rfl ?_
    refine J_lload E dX7_setFraction_24 0 rfl ?_
    refine J_ldiv E dX7_setFraction_26 z10 (fun y16 e17 => ?_)
    refine J_pL E in_X7 rfl (S_X7.h S0) 8 (by decide) wd316 tyX7 tyX7_ok nmX7 rfl rfl .long (by decide +kernel) rfl rfl dX7_setFraction_27 (fun w18 e19 => ?_)
    have o20 : Ok G v w18 := by rw [e19]; exact Ok.stw o15 _ _ _
    exact J_vret E hr dX7_setFraction_30 ⟨o20, Kp.rf, Fr.rf⟩

abbrev rm_X7_shout : Room := { frames := 4, cells := 0, slots := 0, locals := 93 }
set_option maxHeartbeats 4000000 in
set_option maxRecDepth 100000 in
theorem ct_X7_shout (l : Launch) (D : va_G) (dA : Nat → ClassId) (G : Gm) (v : Mv) (w : Mw) (hOk : Ok G v w) (h0 : Nat) (S0 : S_X7 G h0) (x_0 : Int32) (x_1 : Int32) (x_2 : Int32) : CtI l yX7_shout cX7_shout 9 (some .int) rm_X7_shout D dA G [.ref h0, .int x_0, .int x_1, .int x_2] v w (fun r v1 w1 => Ok G v1 w1 ∧ Kp G v v1 ∧ True ∧ Fr G [7] v v1) := by
  refine CtI.of RX7 [(0, .ref h0), (1, .int x_0), (2, .int x_1), (3, .int x_2)] (Nat.le_of_ble_eq_true rfl) rfl (by decide) rfl ?_
  intro p e s m args below meth c E hr
  have J64 : ∀ n64 : Nat, Bd x_0 0 6 → Bd x_1 0 6 → Bd x_2 0 10 → ∀ y4 : Int64, ∀ y5 : Int64, ∀ x6 : Int32, Bd x6 0 6 → Mu x6 6 n64 → J p l e rm_X7_shout s m args below meth c 0 0 (MQ below (QcI D dA G (fun r v1 w1 => Ok G v1 w1 ∧ Kp G v v1 ∧ True ∧ Fr G [7] v v1)) args s 0 0 (dm G)) D dA G (dm G) s.heap 9 v w [(0, .ref h0), (1, .int x_0), (2, .int x_1), (3, .int x_2), (4, .long y4), (6, .long y5), (8, .int x6)] 64 [] := by
    intro n64
    induction n64 with
    | zero => intro b1 b2 b3 y4 y5 x6 b7 hm; exact hm.zero b7 (by decide)
    | succ n64 ih64 =>
      intro b1 b2 b3 y4 y5 x6 b7 hmu64
      refine J_iload E dX7_shout_64 6 rfl ?_
      refine J_iload_n E dX7_shout_66 2 rfl ?_
      refine J_icmp_ge E 101 dX7_shout_67 (by decide) (fun c8 => ?_) (fun c8 => ?_)
      · refine J_aload_n E dX7_shout_101 0 rfl ?_
        refine J_lload E dX7_shout_102 4 rfl ?_
        refine J_lload E dX7_shout_104 5 rfl ?_
        refine J_callVV E cal_X7_setFraction wd857 rfl (S_X7.h S0) [.long y4, .long y5] [] (ct_X7_setFraction l D dA G v w (hOk) h0 S0 y4 y5) rfl rfl (Nat.le_of_ble_eq_true rfl) ⟨rfl, rfl⟩ ⟨Nat.le_of_ble_eq_true rfl, Nat.le_of_ble_eq_true rfl⟩ dX7_shout_106 (fun v9 w10 p11 => ?_)
        have o13 := p11.1
        have k14 : Kp G v v9 := (Kp.rf).tr p11.2.1
        have f15 : Fr G [7] v v9 := Fr.tr Fr.rf (p11.2.2) (by decide)
        refine J_iconst E 1 dX7_shout_109 (by decide) ?_
        exact J_iret E hr dX7_shout_110 ⟨o13, k14, trivial, f15⟩
      · have b16 : Bd x6 0 5 := Bd.lt_l (nle c8) b7 b2 5 (by decide)
        have b17 : Bd x_1 1 6 := Bd.lt_r (nle c8) b7 b2 1 (by decide)
        refine J_lload E dX7_shout_70 4 rfl ?_
        refine J_aload_n E dX7_shout_72 0 rfl ?_
        refine J_getR E in_X7 rfl (S_X7.h S0) 0 (by decide) wd308 rfl dX7_shout_73 ?_
        refine J_iload_n E dX7_shout_76 1 rfl ?_
        refine J_iload E dX7_shout_77 6 rfl ?_
        refine J_iload_n E dX7_shout_79 3 rfl ?_
        refine J_callVNI E cal_X6_tenthsHeld wd852 rfl (S_X6.h (S_X7.f0 S0)) [.int x_0, .int x6, .int x_2] [.long y4] (ct_X6_tenthsHeld l D dA G v w (hOk) (rf G h0 0) (S_X7.f0 S0) x_0 b1 x6 b16 x_2 b3) rfl rfl (Nat.le_of_ble_eq_true rfl) ⟨rfl, rfl⟩ ⟨Nat.le_of_ble_eq_true rfl, Nat.le_of_ble_eq_true rfl⟩ dX7_shout_80 (fun x21 v18 w19 p20 => ?_)
        rw [p20.1, p20.2.1]
        have b22 : Bd x21 0 20 := p20.2.2.1
        refine J_i2l E dX7_shout_83 (fun y23 e24 => ?_)
        refine J_lmul E dX7_shout_84 (fun y25 e26 => ?_)
        refine J_lstore E [(4, .long y25), (0, .ref h0), (1, .int x_0), (2, .int x_1), (3, .int x_2), (6, .long y5), (8, .int x6)] dX7_shout_85 (by decide) rfl ?_
        refine J_lload E dX7_shout_87 5 rfl ?_
        refine J_ldc2 E wd856 dX7_shout_89 ?_
        refine J_lmul E dX7_shout_92 (fun y27 e28 => ?_)
        refine J_lstore E [(6, .long y27), (4, .long y25), (0, .ref h0), (1, .int x_0), (2, .int x_1), (3, .int x_2), (8, .int x6)] dX7_shout_93 (by decide) rfl ?_
        refine J_iinc E 6 1 (fun z => [(8, .int z), (6, .long y27), (4, .long y25), (0, .ref h0), (1, .int x_0), (2, .int x_1), (3, .int x_2)]) dX7_shout_95 rfl (by decide) (by decide) (fun _ => rfl) (fun x29 e30 => ?_)
        have b31 : Bd x29 1 6 := (Bd.add e30 b16 (Bd.lit 1 1 (by decide)) (by decide)).w _ _ (by decide)
        refine J_goto E 64 dX7_shout_98 (by decide) ?_
        exact J.sub [3, 4, 5, 6, 2, 1, 0] rfl (ih64 b1 (b17.w 0 6 (by decide)) b3 y25 y27 x29 (b31.w 0 6 (by decide)) (Mu.step hmu64 e30 b16 (Bd.lit 1 1 (by decide)) (by decide)))
  have J31 :  J p l e rm_X7_shout s m args below meth c 0 0 (MQ below (QcI D dA G (fun r v1 w1 => Ok G v1 w1 ∧ Kp G v v1 ∧ True ∧ Fr G [7] v v1)) args s 0 0 (dm G)) D dA G (dm G) s.heap 9 v w [(0, .ref h0)] 31 [] := by
    refine J_aload_n E dX7_shout_31 0 rfl ?_
    refine J_callVI E cal_X7_bad wd364 rfl (S_X7.h S0) [] [] (ct_X7_bad l D dA G v w (hOk) h0 S0) rfl rfl (Nat.le_of_ble_eq_true rfl) ⟨rfl, rfl⟩ ⟨Nat.le_of_ble_eq_true rfl, Nat.le_of_ble_eq_true rfl⟩ dX7_shout_32 (fun x35 v32 w33 p34 => ?_)
    have ew9 : w = w33 := p34.2.2.2.1.1.symm
    subst ew9
    have o36 := p34.1
    have k37 : Kp G v v32 := (Kp.rf).tr p34.2.1
    have f38 : Fr G [7] v v32 := Fr.tr Fr.rf (p34.2.2.2.2) (by decide)
    have b39 : Bd x35 (-2) (-2) := p34.2.2.1
    exact J_iret E hr dX7_shout_35 ⟨o36, k37, trivial, f38⟩
  refine J_aload_n E dX7_shout_0 0 rfl ?_
  refine J_getR E in_X7 rfl (S_X7.h S0) 0 (by decide) wd308 rfl dX7_shout_1 ?_
  refine J_iload_n E dX7_shout_4 1 rfl ?_
  refine J_callVNI E cal_X6_hasOne wd584 rfl (S_X6.h (S_X7.f0 S0)) [.int x_0] [] (ct_X6_hasOne l D dA G v w (hOk) (rf G h0 0) (S_X7.f0 S0) x_0) rfl rfl (Nat.le_of_ble_eq_true rfl) ⟨rfl, rfl⟩ ⟨Nat.le_of_ble_eq_true rfl, Nat.le_of_ble_eq_true rfl⟩ dX7_shout_5 (fun x43 v40 w41 p42 => ?_)
  rw [p42.1, p42.2.1]
  have b44 : Bd x43 0 1 := p42.2.2.1
  refine J_if_eq E 31 dX7_shout_8 (by decide) (fun c45 => ?_) (fun c45 => ?_)
  · have b46 : Bd x43 0 0 := Bd.eq_l c45 b44 (Bd.lit 0 0 (by decide)) 0 0 (by decide)
    exact J.sub [0] rfl (J31)
  · have b47 : Bd x43 1 1 := (Bd.ne_lo c45 b44 (Bd.lit 0 0 (by decide))).w _ _ (by decide)
    have b48 : Bd x_0 0 6 := (p42.2.2.2.1).resolve_left c45
    refine J_iload_n E dX7_shout_11 2 rfl ?_
    refine J_iconst E 0 dX7_shout_12 (by decide) ?_
    refine J_bipush E 6 dX7_shout_13 (by decide) ?_
    refine J_callSI E cal_X7_isWithin wd361 [.int x_1, .int 0, .int 6] [] (ct_X7_isWithin l D dA G v w (hOk) x_1 0 6) rfl rfl (Nat.le_of_ble_eq_true rfl) ⟨rfl, rfl⟩ ⟨Nat.le_of_ble_eq_true rfl, Nat.le_of_ble_eq_true rfl⟩ dX7_shout_15 (fun x52 v49 w50 p51 => ?_)
    rw [p51.1, p51.2.1]
    have b53 : Bd x52 0 1 := p51.2.2.1
    refine J_if_eq E 31 dX7_shout_18 (by decide) (fun c54 => ?_) (fun c54 => ?_)
    · have b55 : Bd x52 0 0 := Bd.eq_l c54 b53 (Bd.lit 0 0 (by decide)) 0 0 (by decide)
      have g56 : ¬ (0 ≤ x_1 ∧ x_1 ≤ 6) := (p51.2.2.2.2.1).resolve_left (fun h9 => h9 c54)
      exact J.sub [0] rfl (J31)
    · have b57 : Bd x52 1 1 := (Bd.ne_lo c54 b53 (Bd.lit 0 0 (by decide))).w _ _ (by decide)
      have g58 := (p51.2.2.2.1).resolve_left c54
      have b59 : Bd x_1 0 I1 := Bd.le_r g58.1 (Bd.lit 0 0 (by decide)) (Bd.any x_1) 0 (by decide)
      have b60 : Bd x_1 0 6 := Bd.le_l g58.2 b59 (Bd.lit 6 6 (by decide)) 6 (by decide)
      refine J_iload_n E dX7_shout_21 3 rfl ?_
      refine J_iconst E 0 dX7_shout_22 (by decide) ?_
      refine J_bipush E 10 dX7_shout_23 (by decide) ?_
      refine J_callSI E cal_X7_isWithin wd361 [.int x_2, .int 0, .int 10] [] (ct_X7_isWithin l D dA G v w (hOk) x_2 0 10) rfl rfl (Nat.le_of_ble_eq_true rfl) ⟨rfl, rfl⟩ ⟨Nat.le_of_ble_eq_true rfl, Nat.le_of_ble_eq_true rfl⟩ dX7_shout_25 (fun x64 v61 w62 p63 => ?_)
      rw [p63.1, p63.2.1]
      have b65 : Bd x64 0 1 := p63.2.2.1
      refine J_if_ne E 36 dX7_shout_28 (by decide) (fun c66 => ?_) (fun c66 => ?_)
      · have b67 : Bd x64 1 1 := (Bd.ne_lo c66 b65 (Bd.lit 0 0 (by decide))).w _ _ (by decide)
        have g68 := (p63.2.2.2.1).resolve_left c66
        have b69 : Bd x_2 0 I1 := Bd.le_r g68.1 (Bd.lit 0 0 (by decide)) (Bd.any x_2) 0 (by decide)
        have b70 : Bd x_2 0 10 := Bd.le_l g68.2 b69 (Bd.lit 10 10 (by decide)) 10 (by decide)
        refine J_aload_n E dX7_shout_36 0 rfl ?_
        refine J_getR E in_X7 rfl (S_X7.h S0) 0 (by decide) wd308 rfl dX7_shout_37 ?_
        refine J_getRN E in_X6 rfl (S_X6.h (S_X7.f0 S0)) 6 (by decide) wd209 rfl dX7_shout_40 ?_
        refine J_iload_n E dX7_shout_43 1 rfl ?_
        refine J_callVNI E cal_X2_isHere wd665 rfl (S_X2.h (S_X6.f6 (S_X7.f0 S0))) [.int x_0] [] (ct_X2_isHere l D dA G v w (hOk) (rf G (rf G h0 0) 6) (S_X6.f6 (S_X7.f0 S0)) x_0 b48) rfl rfl (Nat.le_of_ble_eq_true rfl) ⟨rfl, rfl⟩ ⟨Nat.le_of_ble_eq_true rfl, Nat.le_of_ble_eq_true rfl⟩ dX7_shout_44 (fun x74 v71 w72 p73 => ?_)
        rw [p73.1, p73.2.1]
        have b75 : Bd x74 0 1 := p73.2.2.1
        refine J_if_ne E 55 dX7_shout_47 (by decide) (fun c76 => ?_) (fun c76 => ?_)
        · have b77 : Bd x74 1 1 := (Bd.ne_lo c76 b75 (Bd.lit 0 0 (by decide))).w _ _ (by decide)
          refine J_lconst E 1 dX7_shout_55 (by decide) ?_
          refine J_lstore E [(4, .long 1), (0, .ref h0), (1, .int x_0), (2, .int x_1), (3, .int x_2)] dX7_shout_56 (by decide) rfl ?_
          refine J_lconst E 1 dX7_shout_58 (by decide) ?_
          refine J_lstore E [(6, .long 1), (4, .long 1), (0, .ref h0), (1, .int x_0), (2, .int x_1), (3, .int x_2)] dX7_shout_59 (by decide) rfl ?_
          refine J_iconst E 0 dX7_shout_61 (by decide) ?_
          refine J_istore E [(8, .int 0), (6, .long 1), (4, .long 1), (0, .ref h0), (1, .int x_0), (2, .int x_1), (3, .int x_2)] dX7_shout_62 (by decide) rfl ?_
          exact J.sub [3, 4, 5, 6, 2, 1, 0] rfl (J64 7 b48 b60 b70 1 1 0 ((Bd.lit 0 0 (by decide)).w 0 6 (by decide)) (Mu.start _ (Bd.lit 0 0 (by decide)) (by decide)))
        · have b78 : Bd x74 0 0 := Bd.eq_l c76 b75 (Bd.lit 0 0 (by decide)) 0 0 (by decide)
          refine J_aload_n E dX7_shout_50 0 rfl ?_
          refine J_callVI E cal_X7_no wd591 rfl (S_X7.h S0) [] [] (ct_X7_no l D dA G v w (hOk) h0 S0) rfl rfl (Nat.le_of_ble_eq_true rfl) ⟨rfl, rfl⟩ ⟨Nat.le_of_ble_eq_true rfl, Nat.le_of_ble_eq_true rfl⟩ dX7_shout_51 (fun x82 v79 w80 p81 => ?_)
          have ew9 : w = w80 := p81.2.2.2.1.1.symm
          subst ew9
          have o83 := p81.1
          have k84 : Kp G v v79 := (Kp.rf).tr p81.2.1
          have f85 : Fr G [7] v v79 := Fr.tr Fr.rf (p81.2.2.2.2) (by decide)
          have b86 : Bd x82 (-3) (-3) := p81.2.2.1
          exact J_iret E hr dX7_shout_54 ⟨o83, k84, trivial, f85⟩
      · have b87 : Bd x64 0 0 := Bd.eq_l c66 b65 (Bd.lit 0 0 (by decide)) 0 0 (by decide)
        have g88 : ¬ (0 ≤ x_2 ∧ x_2 ≤ 10) := (p63.2.2.2.2.1).resolve_left (fun h9 => h9 c66)
        exact J.sub [0] rfl (J31)

abbrev rm_X7_centuries : Room := { frames := 4, cells := 0, slots := 0, locals := 92 }
set_option maxHeartbeats 4000000 in
set_option maxRecDepth 100000 in
theorem ct_X7_centuries (l : Launch) (D : va_G) (dA : Nat → ClassId) (G : Gm) (v : Mv) (w : Mw) (hOk : Ok G v w) (h0 : Nat) (S0 : S_X7 G h0) (x_0 : Int32) (x_1 : Int32) : CtI l yX7_centuries cX7_centuries 8 (some .int) rm_X7_centuries D dA G [.ref h0, .int x_0, .int x_1] v w (fun r v1 w1 => Ok G v1 w1 ∧ Kp G v v1 ∧ True ∧ Fr G [2, 7, 107] v v1) := by
  refine CtI.of RX7 [(0, .ref h0), (1, .int x_0), (2, .int x_1)] (Nat.le_of_ble_eq_true rfl) rfl (by decide) rfl ?_
  intro p e s m args below meth c E hr
  have J46 : ∀ n46 : Nat, ∀ (v1 : Mv) (w2 : Mw), Ok G v1 w2 → Kp G v v1 → Fr G [2, 7, 107] v v1 → Bd x_1 0 60 → ∀ y7 : Int64, ∀ x8 : Int32, Bd x8 0 60 → Mu x8 60 n46 → J p l e rm_X7_centuries s m args below meth c 0 0 (MQ below (QcI D dA G (fun r v1 w1 => Ok G v1 w1 ∧ Kp G v v1 ∧ True ∧ Fr G [2, 7, 107] v v1)) args s 0 0 (dm G)) D dA G (dm G) s.heap 8 v1 w2 [(0, .ref h0), (2, .int x_1), (3, .long y7), (5, .int x8)] 46 [] := by
    intro n46
    induction n46 with
    | zero => intro v1 w2 o3 k4 f5 b6 y7 x8 b9 hm; exact hm.zero b9 (by decide)
    | succ n46 ih46 =>
      intro v1 w2 o3 k4 f5 b6 y7 x8 b9 hmu46
      refine J_iload E dX7_centuries_46 3 rfl ?_
      refine J_iload_n E dX7_centuries_48 1 rfl ?_
      refine J_icmp_ge E 126 dX7_centuries_49 (by decide) (fun c10 => ?_) (fun c10 => ?_)
      · refine J_aload_n E dX7_centuries_126 0 rfl ?_
        refine J_getR E in_X7 rfl (S_X7.h S0) 6 (by decide) wd314 rfl dX7_centuries_127 ?_
        refine J_callVNI E cal_X2_countHere wd621 rfl (S_X2.h (S_X7.f6 S0)) [] [] (ct_X2_countHere l D dA G v1 w2 (o3) (rf G h0 6) (S_X7.f6 S0)) rfl rfl (Nat.le_of_ble_eq_true rfl) ⟨rfl, rfl⟩ ⟨Nat.le_of_ble_eq_true rfl, Nat.le_of_ble_eq_true rfl⟩ dX7_centuries_130 (fun x14 v11 w12 p13 => ?_)
        rw [p13.1, p13.2.1]
        exact J_iret E hr dX7_centuries_133 ⟨o3, k4, trivial, f5⟩
      · have b15 : Bd x8 0 59 := Bd.lt_l (nle c10) b9 b6 59 (by decide)
        have b16 : Bd x_1 1 60 := Bd.lt_r (nle c10) b9 b6 1 (by decide)
        refine J_lload_n E dX7_centuries_52 2 rfl ?_
        refine J_ldc2 E wd869 dX7_centuries_53 ?_
        refine J_lmul E dX7_centuries_56 (fun y17 e18 => ?_)
        refine J_ldc2 E wd870 dX7_centuries_57 ?_
        refine J_ladd E dX7_centuries_60 (fun y19 e20 => ?_)
        refine J_ldc2 E wd871 dX7_centuries_61 ?_
        refine J_lrem E dX7_centuries_64 (by decide) (fun y21 e22 => ?_)
        refine J_lstore_n E [(3, .long y21), (0, .ref h0), (2, .int x_1), (5, .int x8)] dX7_centuries_65 rfl (by decide) rfl ?_
        refine J_lload_n E dX7_centuries_66 0 rfl ?_
        refine J_ldc2 E wd872 dX7_centuries_67 ?_
        refine J_ldiv E dX7_centuries_70 (by decide) (fun y23 e24 => ?_)
        refine J_ldc2 E wd873 dX7_centuries_71 ?_
        refine J_lrem E dX7_centuries_74 (by decide) (fun y25 e26 => ?_)
        refine J_l2i E dX7_centuries_75 (fun x27 e28 => ?_)
        refine J_istore E [(6, .int x27), (3, .long y21), (0, .ref h0), (2, .int x_1), (5, .int x8)] dX7_centuries_76 (by decide) rfl ?_
        refine J_lload_n E dX7_centuries_78 1 rfl ?_
        refine J_ldc2 E wd874 dX7_centuries_79 ?_
        refine J_ldiv E dX7_centuries_82 (by decide) (fun y29 e30 => ?_)
        refine J_ldc2 E wd873 dX7_centuries_83 ?_
        refine J_lrem E dX7_centuries_86 (by decide) (fun y31 e32 => ?_)
        refine J_l2i E dX7_centuries_87 (fun x33 e34 => ?_)
        refine J_istore E [(7, .int x33), (6, .int x27), (3, .long y21), (0, .ref h0), (2, .int x_1), (5, .int x8)] dX7_centuries_88 (by decide) rfl ?_
        refine J_aload_n E dX7_centuries_90 3 rfl ?_
        refine J_getR E in_X7 rfl (S_X7.h S0) 0 (by decide) wd308 rfl dX7_centuries_91 ?_
        refine J_aload_n E dX7_centuries_94 3 rfl ?_
        refine J_getR E in_X7 rfl (S_X7.h S0) 6 (by decide) wd314 rfl dX7_centuries_95 ?_
        refine J_iload E dX7_centuries_98 1 rfl ?_
        refine J_iload E dX7_centuries_100 0 rfl ?_
        refine J_callVNV E cal_X6_giveIfFree wd875 rfl (S_X6.h (S_X7.f0 S0)) [.ref (rf G h0 6), .int x27, .int x33] [] (ct_X6_giveIfFree l D dA G v1 w2 (o3) (rf G h0 0) (S_X7.f0 S0) (rf G h0 6) (S_X7.f6 S0) x27 x33) rfl rfl (Nat.le_of_ble_eq_true rfl) ⟨rfl, rfl⟩ ⟨Nat.le_of_ble_eq_true rfl, Nat.le_of_ble_eq_true rfl⟩ dX7_centuries_102 (fun v35 w36 p37 => ?_)
        have o39 := p37.1
        have k40 : Kp G v v35 := (k4).tr p37.2.1
        have f41 : Fr G [2, 7, 107] v v35 := Fr.tr f5 (p37.2.2) (by decide)
        refine J_aload_n E dX7_centuries_105 3 rfl ?_
        refine J_getR E in_X7 rfl (S_X7.h S0) 0 (by decide) wd308 rfl dX7_centuries_106 ?_
        refine J_aload_n E dX7_centuries_109 3 rfl ?_
        refine J_getR E in_X7 rfl (S_X7.h S0) 6 (by decide) wd314 rfl dX7_centuries_110 ?_
        refine J_iconst E 1 dX7_centuries_113 (by decide) ?_
        refine J_sipush E 1059 dX7_centuries_114 (by decide) ?_
        refine J_callVNV E cal_X6_passYears wd620 rfl (S_X6.h (S_X7.f0 S0)) [.ref (rf G h0 6), .int 1, .int 1059] [] (ct_X6_passYears l D dA G v35 w36 (o39) (rf G h0 0) (S_X7.f0 S0) (rf G h0 6) (S_X7.f6 S0) 1 ((Bd.lit 1 1 (by decide)).w 0 99 (by decide)) 1059 ((Bd.lit 1059 1059 (by decide)).w 999 1059 (by decide))) rfl rfl (Nat.le_of_ble_eq_true rfl) ⟨rfl, rfl⟩ ⟨Nat.le_of_ble_eq_true rfl, Nat.le_of_ble_eq_true rfl⟩ dX7_centuries_117 (fun v42 w43 p44 => ?_)
        have ew9 : w36 = w43 := p44.2.2.1.1.symm
        subst ew9
        have o46 := p44.1
        have k47 : Kp G v v42 := (k40).tr p44.2.1
        have f48 : Fr G [2, 7, 107] v v42 := Fr.tr f41 (p44.2.2.2) (by decide)
        refine J_iinc E 5 1 (fun z => [(5, .int z), (7, .int x33), (6, .int x27), (3, .long y21), (0, .ref h0), (2, .int x_1)]) dX7_centuries_120 rfl (by decide) (by decide) (fun _ => rfl) (fun x49 e50 => ?_)
        have b51 : Bd x49 1 60 := (Bd.add e50 b15 (Bd.lit 1 1 (by decide)) (by decide)).w _ _ (by decide)
        refine J_goto E 46 dX7_centuries_123 (by decide) ?_
        exact J.sub [4, 5, 3, 0] rfl (ih46 v42 w36 (o46) (k47) f48 (b16.w 0 60 (by decide)) y21 x49 (b51.w 0 60 (by decide)) (Mu.step hmu46 e50 b15 (Bd.lit 1 1 (by decide)) (by decide)))
  have J21 :  J p l e rm_X7_centuries s m args below meth c 0 0 (MQ below (QcI D dA G (fun r v1 w1 => Ok G v1 w1 ∧ Kp G v v1 ∧ True ∧ Fr G [2, 7, 107] v v1)) args s 0 0 (dm G)) D dA G (dm G) s.heap 8 v w [(0, .ref h0)] 21 [] := by
    refine J_aload_n E dX7_centuries_21 0 rfl ?_
    refine J_callVI E cal_X7_bad wd364 rfl (S_X7.h S0) [] [] (ct_X7_bad l D dA G v w (hOk) h0 S0) rfl rfl (Nat.le_of_ble_eq_true rfl) ⟨rfl, rfl⟩ ⟨Nat.le_of_ble_eq_true rfl, Nat.le_of_ble_eq_true rfl⟩ dX7_centuries_22 (fun x55 v52 w53 p54 => ?_)
    have ew9 : w = w53 := p54.2.2.2.1.1.symm
    subst ew9
    have o56 := p54.1
    have k57 : Kp G v v52 := (Kp.rf).tr p54.2.1
    have f58 : Fr G [2, 7, 107] v v52 := Fr.tr Fr.rf (p54.2.2.2.2) (by decide)
    have b59 : Bd x55 (-2) (-2) := p54.2.2.1
    exact J_iret E hr dX7_centuries_25 ⟨o56, k57, trivial, f58⟩
  refine J_iload_n E dX7_centuries_0 1 rfl ?_
  refine J_iconst E 0 dX7_centuries_1 (by decide) ?_
  refine J_ldcw E wd868 dX7_centuries_2 ?_
  refine J_callSI E cal_X7_isWithin wd361 [.int x_0, .int 0, .int 999999] [] (ct_X7_isWithin l D dA G v w (hOk) x_0 0 999999) rfl rfl (Nat.le_of_ble_eq_true rfl) ⟨rfl, rfl⟩ ⟨Nat.le_of_ble_eq_true rfl, Nat.le_of_ble_eq_true rfl⟩ dX7_centuries_5 (fun x63 v60 w61 p62 => ?_)
  rw [p62.1, p62.2.1]
  have b64 : Bd x63 0 1 := p62.2.2.1
  refine J_if_eq E 21 dX7_centuries_8 (by decide) (fun c65 => ?_) (fun c65 => ?_)
  · have b66 : Bd x63 0 0 := Bd.eq_l c65 b64 (Bd.lit 0 0 (by decide)) 0 0 (by decide)
    have g67 : ¬ (0 ≤ x_0 ∧ x_0 ≤ 999999) := (p62.2.2.2.2.1).resolve_left (fun h9 => h9 c65)
    exact J.sub [0] rfl (J21)
  · have b68 : Bd x63 1 1 := (Bd.ne_lo c65 b64 (Bd.lit 0 0 (by decide))).w _ _ (by decide)
    have g69 := (p62.2.2.2.1).resolve_left c65
    have b70 : Bd x_0 0 I1 := Bd.le_r g69.1 (Bd.lit 0 0 (by decide)) (Bd.any x_0) 0 (by decide)
    have b71 : Bd x_0 0 999999 := Bd.le_l g69.2 b70 (Bd.lit 999999 999999 (by decide)) 999999 (by decide)
    refine J_iload_n E dX7_centuries_11 2 rfl ?_
    refine J_iconst E 0 dX7_centuries_12 (by decide) ?_
    refine J_bipush E 60 dX7_centuries_13 (by decide) ?_
    refine J_callSI E cal_X7_isWithin wd361 [.int x_1, .int 0, .int 60] [] (ct_X7_isWithin l D dA G v w (hOk) x_1 0 60) rfl rfl (Nat.le_of_ble_eq_true rfl) ⟨rfl, rfl⟩ ⟨Nat.le_of_ble_eq_true rfl, Nat.le_of_ble_eq_true rfl⟩ dX7_centuries_15 (fun x75 v72 w73 p74 => ?_)
    rw [p74.1, p74.2.1]
    have b76 : Bd x75 0 1 := p74.2.2.1
    refine J_if_ne E 26 dX7_centuries_18 (by decide) (fun c77 => ?_) (fun c77 => ?_)
    · have b78 : Bd x75 1 1 := (Bd.ne_lo c77 b76 (Bd.lit 0 0 (by decide))).w _ _ (by decide)
      have g79 := (p74.2.2.2.1).resolve_left c77
      have b80 : Bd x_1 0 I1 := Bd.le_r g79.1 (Bd.lit 0 0 (by decide)) (Bd.any x_1) 0 (by decide)
      have b81 : Bd x_1 0 60 := Bd.le_l g79.2 b80 (Bd.lit 60 60 (by decide)) 60 (by decide)
      refine J_aload_n E dX7_centuries_26 0 rfl ?_
      refine J_getR E in_X7 rfl (S_X7.h S0) 6 (by decide) wd314 rfl dX7_centuries_27 ?_
      refine J_aload_n E dX7_centuries_30 0 rfl ?_
      refine J_getR E in_X7 rfl (S_X7.h S0) 0 (by decide) wd308 rfl dX7_centuries_31 ?_
      refine J_getRN E in_X6 rfl (S_X6.h (S_X7.f0 S0)) 6 (by decide) wd209 rfl dX7_centuries_34 ?_
      refine J_callVNV E cal_X2_copyFrom wd671 rfl (S_X2.h (S_X7.f6 S0)) [.ref (rf G (rf G h0 0) 6)] [] (ct_X2_copyFrom l D dA G v w (hOk) (rf G h0 6) (S_X7.f6 S0) (rf G (rf G h0 0) 6) (S_X6.f6 (S_X7.f0 S0))) rfl rfl (Nat.le_of_ble_eq_true rfl) ⟨rfl, rfl⟩ ⟨Nat.le_of_ble_eq_true rfl, Nat.le_of_ble_eq_true rfl⟩ dX7_centuries_37 (fun v82 w83 p84 => ?_)
      have ew9 : w = w83 := p84.2.2.1.1.symm
      subst ew9
      have o86 := p84.1
      have k87 : Kp G v v82 := (Kp.rf).tr p84.2.1
      have f88 : Fr G [2, 7, 107] v v82 := Fr.tr Fr.rf (p84.2.2.2) (by decide)
      refine J_iload_n E dX7_centuries_40 1 rfl ?_
      refine J_i2l E dX7_centuries_41 (fun y89 e90 => ?_)
      refine J_lstore_n E [(3, .long y89), (0, .ref h0), (1, .int x_0), (2, .int x_1)] dX7_centuries_42 rfl (by decide) rfl ?_
      refine J_iconst E 0 dX7_centuries_43 (by decide) ?_
      refine J_istore E [(5, .int 0), (3, .long y89), (0, .ref h0), (1, .int x_0), (2, .int x_1)] dX7_centuries_44 (by decide) rfl ?_
      exact J.sub [2, 4, 1, 0] rfl (J46 61 v82 w (o86) (k87) f88 b81 y89 0 ((Bd.lit 0 0 (by decide)).w 0 60 (by decide)) (Mu.start _ (Bd.lit 0 0 (by decide)) (by decide)))
    · have b91 : Bd x75 0 0 := Bd.eq_l c77 b76 (Bd.lit 0 0 (by decide)) 0 0 (by decide)
      have g92 : ¬ (0 ≤ x_1 ∧ x_1 ≤ 60) := (p74.2.2.2.2.1).resolve_left (fun h9 => h9 c77)
      exact J.sub [0] rfl (J21)
