abbrev rm_X8_about : Room := { frames := 2, cells := 0, slots := 0, locals := 43 }
set_option maxHeartbeats 4000000 in
set_option maxRecDepth 100000 in
theorem ct_X8_about (l : Launch) (D : va_G) (dA : Nat → ClassId) (G : Gm) (v : Mv) (w : Mw) (hOk : Ok G v w) (h0 : Nat) (S0 : S_X8 G h0) (x_0 : Int32) (x_1 : Int32) : CtI l yX8_about cX8_about 3 (some .int) rm_X8_about D dA G [.ref h0, .int x_0, .int x_1] v w (fun r v1 w1 => Ok G v1 w1 ∧ Kp G v v1 ∧ True ∧ Fr G [103] v v1) := by
  refine CtI.of RX8 [(0, .ref h0), (1, .int x_0), (2, .int x_1)] (Nat.le_of_ble_eq_true rfl) rfl (by decide) rfl ?_
  intro p e s m args below meth c E hr
  have J17 :  J p l e rm_X8_about s m args below meth c 0 0 (MQ below (QcI D dA G (fun r v1 w1 => Ok G v1 w1 ∧ Kp G v v1 ∧ True ∧ Fr G [103] v v1)) args s 0 0 (dm G)) D dA G (dm G) s.heap 3 v w [(0, .ref h0)] 17 [] := by
    refine J_aload_n E dX8_about_17 0 rfl ?_
    refine J_callVI E cal_X8_bad wd999 rfl (S_X8.h S0) [] [] (ct_X8_bad l D dA G v w (hOk) h0 S0) rfl rfl (Nat.le_of_ble_eq_true rfl) ⟨rfl, rfl⟩ ⟨Nat.le_of_ble_eq_true rfl, Nat.le_of_ble_eq_true rfl⟩ dX8_about_18 (fun x4 v1 w2 p3 => ?_)
    have ew9 : w = w2 := p3.2.2.2.1.1.symm
    subst ew9
    have o5 := p3.1
    have k6 : Kp G v v1 := (Kp.rf).tr p3.2.1
    have f7 : Fr G [103] v v1 := Fr.tr Fr.rf (p3.2.2.2.2) (by decide)
    have b8 : Bd x4 (-2) (-2) := p3.2.2.1
    exact J_iret E hr dX8_about_21 ⟨o5, k6, trivial, f7⟩
  refine J_aload_n E dX8_about_0 0 rfl ?_
  refine J_iload_n E dX8_about_1 1 rfl ?_
  refine J_callVI E cal_X8_isThing wd1124 rfl (S_X8.h S0) [.int x_0] [] (ct_X8_isThing l D dA G v w (hOk) h0 S0 x_0) rfl rfl (Nat.le_of_ble_eq_true rfl) ⟨rfl, rfl⟩ ⟨Nat.le_of_ble_eq_true rfl, Nat.le_of_ble_eq_true rfl⟩ dX8_about_2 (fun x12 v9 w10 p11 => ?_)
  rw [p11.1, p11.2.1]
  have b13 : Bd x12 0 1 := p11.2.2.1
  refine J_if_eq E 17 dX8_about_5 (by decide) (fun c14 => ?_) (fun c14 => ?_)
  · have b15 : Bd x12 0 0 := Bd.eq_l c14 b13 (Bd.lit 0 0 (by decide)) 0 0 (by decide)
    exact J.sub [0] rfl (J17)
  · have b16 : Bd x12 1 1 := (Bd.ne_lo c14 b13 (Bd.lit 0 0 (by decide))).w _ _ (by decide)
    have b17 : Bd x_0 0 6 := (p11.2.2.2.1).resolve_left c14
    refine J_iload_n E dX8_about_8 2 rfl ?_
    refine J_iconst E 0 dX8_about_9 (by decide) ?_
    refine J_iconst E 2 dX8_about_10 (by decide) ?_
    refine J_callSI E cal_X8_in wd996 [.int x_1, .int 0, .int 2] [] (ct_X8_in l D dA G v w (hOk) x_1 0 2) rfl rfl (Nat.le_of_ble_eq_true rfl) ⟨rfl, rfl⟩ ⟨Nat.le_of_ble_eq_true rfl, Nat.le_of_ble_eq_true rfl⟩ dX8_about_11 (fun x21 v18 w19 p20 => ?_)
    rw [p20.1, p20.2.1]
    have b22 : Bd x21 0 1 := p20.2.2.1
    refine J_if_ne E 22 dX8_about_14 (by decide) (fun c23 => ?_) (fun c23 => ?_)
    · have b24 : Bd x21 1 1 := (Bd.ne_lo c23 b22 (Bd.lit 0 0 (by decide))).w _ _ (by decide)
      have g25 := (p20.2.2.2.1).resolve_left c23
      have b26 : Bd x_1 0 I1 := Bd.le_r g25.1 (Bd.lit 0 0 (by decide)) (Bd.any x_1) 0 (by decide)
      have b27 : Bd x_1 0 2 := Bd.le_l g25.2 b26 (Bd.lit 2 2 (by decide)) 2 (by decide)
      refine J_iload_n E dX8_about_22 2 rfl ?_
      refine J_if_ne E 38 dX8_about_23 (by decide) (fun c28 => ?_) (fun c28 => ?_)
      · have b29 : Bd x_1 1 2 := (Bd.ne_lo c28 b27 (Bd.lit 0 0 (by decide))).w _ _ (by decide)
        refine J_iload_n E dX8_about_38 2 rfl ?_
        refine J_iconst E 1 dX8_about_39 (by decide) ?_
        refine J_icmp_ne E 55 dX8_about_40 (by decide) (fun c30 => ?_) (fun c30 => ?_)
        · have b31 : Bd x_1 2 2 := (Bd.ne_lo c30 b29 (Bd.lit 1 1 (by decide))).w _ _ (by decide)
          refine J_aload_n E dX8_about_55 0 rfl ?_
          refine J_iconst E 0 dX8_about_56 (by decide) ?_
          refine J_aload_n E dX8_about_57 0 rfl ?_
          refine J_getR E in_X8 rfl (S_X8.h S0) 1 (by decide) wd936 rfl dX8_about_58 ?_
          refine J_bipush E 34 dX8_about_61 (by decide) ?_
          refine J_iload_n E dX8_about_63 1 rfl ?_
          refine J_callVI E cal_X8_ownerOf wd1078 rfl (S_X8.h S0) [.int 0, .ref (rf G h0 1), .int 34, .int x_0] [] (ct_X8_ownerOf_0_A_34 l D dA G v w (hOk) h0 S0 x_0 b17) rfl rfl (Nat.le_of_ble_eq_true rfl) ⟨rfl, rfl⟩ ⟨Nat.le_of_ble_eq_true rfl, Nat.le_of_ble_eq_true rfl⟩ dX8_about_64 (fun x35 v32 w33 p34 => ?_)
          rw [p34.1, p34.2.1]
          have b36 : Bd x35 (-1) 6 := p34.2.2.1
          exact J_iret E hr dX8_about_67 ⟨hOk, Kp.rf, trivial, Fr.rf⟩
        · have b37 : Bd x_1 1 1 := Bd.eq_l c30 b29 (Bd.lit 1 1 (by decide)) 1 1 (by decide)
          refine J_aload_n E dX8_about_43 0 rfl ?_
          refine J_getR E in_X8 rfl (S_X8.h S0) 1 (by decide) wd936 rfl dX8_about_44 ?_
          refine J_bipush E 13 dX8_about_47 (by decide) ?_
          refine J_iload_n E dX8_about_49 1 rfl ?_
          refine J_iadd E dX8_about_50 (fun x38 e39 => ?_)
          have b40 : Bd x38 13 19 := (Bd.add e39 (Bd.lit 13 13 (by decide)) b17 (by decide)).w _ _ (by decide)
          refine J_iald1 E (S_X8.f1 S0) (Bd.in b40 (by decide)) dX8_about_51 (fun x41 e42 => ?_)
          refine J_goto E 67 dX8_about_52 (by decide) ?_
          exact J_iret E hr dX8_about_67 ⟨hOk, Kp.rf, trivial, Fr.rf⟩
      · have b43 : Bd x_1 0 0 := Bd.eq_l c28 b27 (Bd.lit 0 0 (by decide)) 0 0 (by decide)
        refine J_aload_n E dX8_about_26 0 rfl ?_
        refine J_getR E in_X8 rfl (S_X8.h S0) 1 (by decide) wd936 rfl dX8_about_27 ?_
        refine J_bipush E 6 dX8_about_30 (by decide) ?_
        refine J_iload_n E dX8_about_32 1 rfl ?_
        refine J_iadd E dX8_about_33 (fun x44 e45 => ?_)
        have b46 : Bd x44 6 12 := (Bd.add e45 (Bd.lit 6 6 (by decide)) b17 (by decide)).w _ _ (by decide)
        refine J_iald1 E (S_X8.f1 S0) (Bd.in b46 (by decide)) dX8_about_34 (fun x47 e48 => ?_)
        refine J_goto E 67 dX8_about_35 (by decide) ?_
        exact J_iret E hr dX8_about_67 ⟨hOk, Kp.rf, trivial, Fr.rf⟩
    · have b49 : Bd x21 0 0 := Bd.eq_l c23 b22 (Bd.lit 0 0 (by decide)) 0 0 (by decide)
      have g50 : ¬ (0 ≤ x_1 ∧ x_1 ≤ 2) := (p20.2.2.2.2.1).resolve_left (fun h9 => h9 c23)
      exact J.sub [0] rfl (J17)

abbrev rm_X8_ageIn : Room := { frames := 2, cells := 0, slots := 0, locals := 42 }
set_option maxHeartbeats 4000000 in
set_option maxRecDepth 100000 in
theorem ct_X8_ageIn (l : Launch) (D : va_G) (dA : Nat → ClassId) (G : Gm) (v : Mv) (w : Mw) (hOk : Ok G v w) (h0 : Nat) (S0 : S_X8 G h0) (x_0 : Int32) (bx_0 : Bd x_0 0 6) (x_1 : Int32) (bx_1 : Bd x_1 0 60) : CtI l yX8_ageIn cX8_ageIn 4 (some .int) rm_X8_ageIn D dA G [.ref h0, .int x_0, .int x_1] v w (fun r v1 w1 => v1 = v ∧ w1 = w ∧ Bd r I0 99 ∧ True) := by
  refine CtI.of RX8 [(0, .ref h0), (1, .int x_0), (2, .int x_1)] (Nat.le_of_ble_eq_true rfl) rfl (by decide) rfl ?_
  intro p e s m args below meth c E hr
  have J22 : ∀ x1 : Int32, Bd x1 0 60 → ∀ x3 : Int32, J p l e rm_X8_ageIn s m args below meth c 0 0 (MQ below (QcI D dA G (fun r v1 w1 => v1 = v ∧ w1 = w ∧ Bd r I0 99 ∧ True)) args s 0 0 (dm G)) D dA G (dm G) s.heap 4 v w [] 22 [.int x1, .int x3] := by
    intro x1 b2 x3
    refine J_iadd E dX8_ageIn_22 (fun x4 e5 => ?_)
    refine J_istore_n E [(3, .int x4)] dX8_ageIn_23 rfl (by decide) rfl ?_
    refine J_iload_n E dX8_ageIn_24 0 rfl ?_
    refine J_bipush E 99 dX8_ageIn_25 (by decide) ?_
    refine J_icmp_le E 35 dX8_ageIn_27 (by decide) (fun c6 => ?_) (fun c6 => ?_)
    · have b7 : Bd x4 I0 99 := Bd.le_l c6 (Bd.any x4) (Bd.lit 99 99 (by decide)) 99 (by decide)
      refine J_iload_n E dX8_ageIn_35 0 rfl ?_
      exact J_iret E hr dX8_ageIn_36 ⟨rfl, rfl, b7, trivial⟩
    · have b8 : Bd x4 100 I1 := Bd.lt_r (nle c6) (Bd.lit 99 99 (by decide)) (Bd.any x4) 100 (by decide)
      refine J_bipush E 99 dX8_ageIn_30 (by decide) ?_
      refine J_goto E 36 dX8_ageIn_32 (by decide) ?_
      exact J_iret E hr dX8_ageIn_36 ⟨rfl, rfl, ((Bd.lit 99 99 (by decide)).w I0 99 (by decide)), trivial⟩
  refine J_aload_n E dX8_ageIn_0 0 rfl ?_
  refine J_getR E in_X8 rfl (S_X8.h S0) 1 (by decide) wd936 rfl dX8_ageIn_1 ?_
  refine J_bipush E 36 dX8_ageIn_4 (by decide) ?_
  refine J_iload_n E dX8_ageIn_6 1 rfl ?_
  refine J_iadd E dX8_ageIn_7 (fun x9 e10 => ?_)
  have b11 : Bd x9 36 42 := (Bd.add e10 (Bd.lit 36 36 (by decide)) bx_0 (by decide)).w _ _ (by decide)
  refine J_iald1 E (S_X8.f1 S0) (Bd.in b11 (by decide)) dX8_ageIn_8 (fun x12 e13 => ?_)
  refine J_aload_n E dX8_ageIn_9 0 rfl ?_
  refine J_iload_n E dX8_ageIn_10 1 rfl ?_
  refine J_callVI E cal_X8_isLost wd1128 rfl (S_X8.h S0) [.int x_0] [.int x12] (ct_X8_isLost l D dA G v w (hOk) h0 S0 x_0 bx_0) rfl rfl (Nat.le_of_ble_eq_true rfl) ⟨rfl, rfl⟩ ⟨Nat.le_of_ble_eq_true rfl, Nat.le_of_ble_eq_true rfl⟩ dX8_ageIn_11 (fun x17 v14 w15 p16 => ?_)
  rw [p16.1, p16.2.1]
  have b18 : Bd x17 0 1 := p16.2.2.1
  refine J_if_eq E 21 dX8_ageIn_14 (by decide) (fun c19 => ?_) (fun c19 => ?_)
  · have b20 : Bd x17 0 0 := Bd.eq_l c19 b18 (Bd.lit 0 0 (by decide)) 0 0 (by decide)
    refine J_iload_n E dX8_ageIn_21 2 rfl ?_
    exact J.sub [] rfl (J22 x_1 bx_1 x12)
  · have b21 : Bd x17 1 1 := (Bd.ne_lo c19 b18 (Bd.lit 0 0 (by decide))).w _ _ (by decide)
    refine J_iconst E 0 dX8_ageIn_17 (by decide) ?_
    refine J_goto E 22 dX8_ageIn_18 (by decide) ?_
    exact J.sub [] rfl (J22 0 ((Bd.lit 0 0 (by decide)).w 0 60 (by decide)) x12)

abbrev rm_X8_liftsIn : Room := { frames := 3, cells := 0, slots := 0, locals := 65 }
set_option maxHeartbeats 4000000 in
set_option maxRecDepth 100000 in
theorem ct_X8_liftsIn (l : Launch) (D : va_G) (dA : Nat → ClassId) (G : Gm) (v : Mv) (w : Mw) (hOk : Ok G v w) (h0 : Nat) (S0 : S_X8 G h0) (x_0 : Int32) (bx_0 : Bd x_0 0 6) (x_1 : Int32) (bx_1 : Bd x_1 0 60) : CtI l yX8_liftsIn cX8_liftsIn 3 (some .int) rm_X8_liftsIn D dA G [.ref h0, .int x_0, .int x_1] v w (fun r v1 w1 => v1 = v ∧ w1 = w ∧ True ∧ True) := by
  refine CtI.of RX8 [(0, .ref h0), (1, .int x_0), (2, .int x_1)] (Nat.le_of_ble_eq_true rfl) rfl (by decide) rfl ?_
  intro p e s m args below meth c E hr
  refine J_aload_n E dX8_liftsIn_0 0 rfl ?_
  refine J_iconst E 0 dX8_liftsIn_1 (by decide) ?_
  refine J_iload_n E dX8_liftsIn_2 1 rfl ?_
  refine J_aload_n E dX8_liftsIn_3 0 rfl ?_
  refine J_iload_n E dX8_liftsIn_4 1 rfl ?_
  refine J_iload_n E dX8_liftsIn_5 2 rfl ?_
  refine J_callVI E cal_X8_ageIn wd1179 rfl (S_X8.h S0) [.int x_0, .int x_1] [.int x_0, .int 0, .ref h0] (ct_X8_ageIn l D dA G v w (hOk) h0 S0 x_0 bx_0 x_1 bx_1) rfl rfl (Nat.le_of_ble_eq_true rfl) ⟨rfl, rfl⟩ ⟨Nat.le_of_ble_eq_true rfl, Nat.le_of_ble_eq_true rfl⟩ dX8_liftsIn_6 (fun x4 v1 w2 p3 => ?_)
  rw [p3.1, p3.2.1]
  have b5 : Bd x4 I0 99 := p3.2.2.1
  refine J_callVI E cal_X8_liftsOf wd1105 rfl (S_X8.h S0) [.int 0, .int x_0, .int x4] [] (ct_X8_liftsOf l D dA G v w (hOk) h0 S0 0 ((Bd.lit 0 0 (by decide)).w 0 738 (by decide)) x_0 bx_0 x4) rfl rfl (Nat.le_of_ble_eq_true rfl) ⟨rfl, rfl⟩ ⟨Nat.le_of_ble_eq_true rfl, Nat.le_of_ble_eq_true rfl⟩ dX8_liftsIn_9 (fun x9 v6 w7 p8 => ?_)
  rw [p8.1, p8.2.1]
  exact J_iret E hr dX8_liftsIn_12 ⟨rfl, rfl, trivial, trivial⟩

abbrev rm_X8_weighsIn : Room := { frames := 2, cells := 0, slots := 0, locals := 46 }
set_option maxHeartbeats 4000000 in
set_option maxRecDepth 100000 in
theorem ct_X8_weighsIn (l : Launch) (D : va_G) (dA : Nat → ClassId) (G : Gm) (v : Mv) (w : Mw) (hOk : Ok G v w) (h0 : Nat) (S0 : S_X8 G h0) (x_0 : Int32) (bx_0 : Bd x_0 0 6) (x_1 : Int32) (bx_1 : Bd x_1 0 60) : CtI l yX8_weighsIn cX8_weighsIn 3 (some .int) rm_X8_weighsIn D dA G [.ref h0, .int x_0, .int x_1] v w (fun r v1 w1 => v1 = v ∧ w1 = w ∧ True ∧ True) := by
  refine CtI.of RX8 [(0, .ref h0), (1, .int x_0), (2, .int x_1)] (Nat.le_of_ble_eq_true rfl) rfl (by decide) rfl ?_
  intro p e s m args below meth c E hr
  refine J_aload_n E dX8_weighsIn_0 0 rfl ?_
  refine J_iconst E 0 dX8_weighsIn_1 (by decide) ?_
  refine J_iload_n E dX8_weighsIn_2 1 rfl ?_
  refine J_aload_n E dX8_weighsIn_3 0 rfl ?_
  refine J_getR E in_X8 rfl (S_X8.h S0) 1 (by decide) wd936 rfl dX8_weighsIn_4 ?_
  refine J_bipush E 34 dX8_weighsIn_7 (by decide) ?_
  refine J_iald1 E (S_X8.f1 S0) (Bd.in (Bd.lit 34 34 (by decide)) (by decide)) dX8_weighsIn_9 (fun x1 e2 => ?_)
  have e3 : x1 = v (rf G h0 1) 34 := by rw [e2, Bd.ix (Bd.lit 34 34 (by decide)) 34 rfl]
  refine J_iload_n E dX8_weighsIn_10 2 rfl ?_
  refine J_iadd E dX8_weighsIn_11 (fun x4 e5 => ?_)
  refine J_callVI E cal_X8_weighsOf wd1098 rfl (S_X8.h S0) [.int 0, .int x_0, .int x4] [] (ct_X8_weighsOf l D dA G v w (hOk) h0 S0 0 ((Bd.lit 0 0 (by decide)).w 0 738 (by decide)) x_0 bx_0 x4) rfl rfl (Nat.le_of_ble_eq_true rfl) ⟨rfl, rfl⟩ ⟨Nat.le_of_ble_eq_true rfl, Nat.le_of_ble_eq_true rfl⟩ dX8_weighsIn_12 (fun x9 v6 w7 p8 => ?_)
  rw [p8.1, p8.2.1]
  exact J_iret E hr dX8_weighsIn_15 ⟨rfl, rfl, trivial, trivial⟩

abbrev rm_X8_lifts : Room := { frames := 4, cells := 0, slots := 0, locals := 87 }
set_option maxHeartbeats 4000000 in
set_option maxRecDepth 100000 in
theorem ct_X8_lifts (l : Launch) (D : va_G) (dA : Nat → ClassId) (G : Gm) (v : Mv) (w : Mw) (hOk : Ok G v w) (h0 : Nat) (S0 : S_X8 G h0) (x_0 : Int32) (x_1 : Int32) : CtI l yX8_lifts cX8_lifts 3 (some .int) rm_X8_lifts D dA G [.ref h0, .int x_0, .int x_1] v w (fun r v1 w1 => Ok G v1 w1 ∧ Kp G v v1 ∧ True ∧ Fr G [103] v v1) := by
  refine CtI.of RX8 [(0, .ref h0), (1, .int x_0), (2, .int x_1)] (Nat.le_of_ble_eq_true rfl) rfl (by decide) rfl ?_
  intro p e s m args below meth c E hr
  have J27 :  J p l e rm_X8_lifts s m args below meth c 0 0 (MQ below (QcI D dA G (fun r v1 w1 => Ok G v1 w1 ∧ Kp G v v1 ∧ True ∧ Fr G [103] v v1)) args s 0 0 (dm G)) D dA G (dm G) s.heap 3 v w [(0, .ref h0)] 27 [] := by
    refine J_aload_n E dX8_lifts_27 0 rfl ?_
    refine J_callVI E cal_X8_bad wd999 rfl (S_X8.h S0) [] [] (ct_X8_bad l D dA G v w (hOk) h0 S0) rfl rfl (Nat.le_of_ble_eq_true rfl) ⟨rfl, rfl⟩ ⟨Nat.le_of_ble_eq_true rfl, Nat.le_of_ble_eq_true rfl⟩ dX8_lifts_28 (fun x4 v1 w2 p3 => ?_)
    have ew9 : w = w2 := p3.2.2.2.1.1.symm
    subst ew9
    have o5 := p3.1
    have k6 : Kp G v v1 := (Kp.rf).tr p3.2.1
    have f7 : Fr G [103] v v1 := Fr.tr Fr.rf (p3.2.2.2.2) (by decide)
    have b8 : Bd x4 (-2) (-2) := p3.2.2.1
    exact J_iret E hr dX8_lifts_31 ⟨o5, k6, trivial, f7⟩
  refine J_aload_n E dX8_lifts_0 0 rfl ?_
  refine J_iload_n E dX8_lifts_1 1 rfl ?_
  refine J_callVI E cal_X8_isOne wd1120 rfl (S_X8.h S0) [.int x_0] [] (ct_X8_isOne l D dA G v w (hOk) h0 S0 x_0) rfl rfl (Nat.le_of_ble_eq_true rfl) ⟨rfl, rfl⟩ ⟨Nat.le_of_ble_eq_true rfl, Nat.le_of_ble_eq_true rfl⟩ dX8_lifts_2 (fun x12 v9 w10 p11 => ?_)
  rw [p11.1, p11.2.1]
  have b13 : Bd x12 0 1 := p11.2.2.1
  refine J_if_eq E 27 dX8_lifts_5 (by decide) (fun c14 => ?_) (fun c14 => ?_)
  · have b15 : Bd x12 0 0 := Bd.eq_l c14 b13 (Bd.lit 0 0 (by decide)) 0 0 (by decide)
    exact J.sub [0] rfl (J27)
  · have b16 : Bd x12 1 1 := (Bd.ne_lo c14 b13 (Bd.lit 0 0 (by decide))).w _ _ (by decide)
    have b17 : Bd x_0 0 6 := (p11.2.2.2.1).resolve_left c14
    refine J_iload_n E dX8_lifts_8 2 rfl ?_
    refine J_iconst E 0 dX8_lifts_9 (by decide) ?_
    refine J_bipush E 60 dX8_lifts_10 (by decide) ?_
    refine J_callSI E cal_X8_in wd996 [.int x_1, .int 0, .int 60] [] (ct_X8_in l D dA G v w (hOk) x_1 0 60) rfl rfl (Nat.le_of_ble_eq_true rfl) ⟨rfl, rfl⟩ ⟨Nat.le_of_ble_eq_true rfl, Nat.le_of_ble_eq_true rfl⟩ dX8_lifts_12 (fun x21 v18 w19 p20 => ?_)
    rw [p20.1, p20.2.1]
    have b22 : Bd x21 0 1 := p20.2.2.1
    refine J_if_eq E 27 dX8_lifts_15 (by decide) (fun c23 => ?_) (fun c23 => ?_)
    · have b24 : Bd x21 0 0 := Bd.eq_l c23 b22 (Bd.lit 0 0 (by decide)) 0 0 (by decide)
      have g25 : ¬ (0 ≤ x_1 ∧ x_1 ≤ 60) := (p20.2.2.2.2.1).resolve_left (fun h9 => h9 c23)
      exact J.sub [0] rfl (J27)
    · have b26 : Bd x21 1 1 := (Bd.ne_lo c23 b22 (Bd.lit 0 0 (by decide))).w _ _ (by decide)
      have g27 := (p20.2.2.2.1).resolve_left c23
      have b28 : Bd x_1 0 I1 := Bd.le_r g27.1 (Bd.lit 0 0 (by decide)) (Bd.any x_1) 0 (by decide)
      have b29 : Bd x_1 0 60 := Bd.le_l g27.2 b28 (Bd.lit 60 60 (by decide)) 60 (by decide)
      refine J_aload_n E dX8_lifts_18 0 rfl ?_
      refine J_iload_n E dX8_lifts_19 1 rfl ?_
      refine J_iload_n E dX8_lifts_20 2 rfl ?_
      refine J_callVI E cal_X8_liftsIn wd1175 rfl (S_X8.h S0) [.int x_0, .int x_1] [] (ct_X8_liftsIn l D dA G v w (hOk) h0 S0 x_0 b17 x_1 b29) rfl rfl (Nat.le_of_ble_eq_true rfl) ⟨rfl, rfl⟩ ⟨Nat.le_of_ble_eq_true rfl, Nat.le_of_ble_eq_true rfl⟩ dX8_lifts_21 (fun x33 v30 w31 p32 => ?_)
      rw [p32.1, p32.2.1]
      refine J_goto E 31 dX8_lifts_24 (by decide) ?_
      exact J_iret E hr dX8_lifts_31 ⟨hOk, Kp.rf, trivial, Fr.rf⟩

abbrev rm_X8_weighs : Room := { frames := 3, cells := 0, slots := 0, locals := 68 }
set_option maxHeartbeats 4000000 in
set_option maxRecDepth 100000 in
theorem ct_X8_weighs (l : Launch) (D : va_G) (dA : Nat → ClassId) (G : Gm) (v : Mv) (w : Mw) (hOk : Ok G v w) (h0 : Nat) (S0 : S_X8 G h0) (x_0 : Int32) (x_1 : Int32) : CtI l yX8_weighs cX8_weighs 3 (some .int) rm_X8_weighs D dA G [.ref h0, .int x_0, .int x_1] v w (fun r v1 w1 => Ok G v1 w1 ∧ Kp G v v1 ∧ True ∧ Fr G [103] v v1) := by
  refine CtI.of RX8 [(0, .ref h0), (1, .int x_0), (2, .int x_1)] (Nat.le_of_ble_eq_true rfl) rfl (by decide) rfl ?_
  intro p e s m args below meth c E hr
  have J27 :  J p l e rm_X8_weighs s m args below meth c 0 0 (MQ below (QcI D dA G (fun r v1 w1 => Ok G v1 w1 ∧ Kp G v v1 ∧ True ∧ Fr G [103] v v1)) args s 0 0 (dm G)) D dA G (dm G) s.heap 3 v w [(0, .ref h0)] 27 [] := by
    refine J_aload_n E dX8_weighs_27 0 rfl ?_
    refine J_callVI E cal_X8_bad wd999 rfl (S_X8.h S0) [] [] (ct_X8_bad l D dA G v w (hOk) h0 S0) rfl rfl (Nat.le_of_ble_eq_true rfl) ⟨rfl, rfl⟩ ⟨Nat.le_of_ble_eq_true rfl, Nat.le_of_ble_eq_true rfl⟩ dX8_weighs_28 (fun x4 v1 w2 p3 => ?_)
    have ew9 : w = w2 := p3.2.2.2.1.1.symm
    subst ew9
    have o5 := p3.1
    have k6 : Kp G v v1 := (Kp.rf).tr p3.2.1
    have f7 : Fr G [103] v v1 := Fr.tr Fr.rf (p3.2.2.2.2) (by decide)
    have b8 : Bd x4 (-2) (-2) := p3.2.2.1
    exact J_iret E hr dX8_weighs_31 ⟨o5, k6, trivial, f7⟩
  refine J_aload_n E dX8_weighs_0 0 rfl ?_
  refine J_iload_n E dX8_weighs_1 1 rfl ?_
  refine J_callVI E cal_X8_isThing wd1124 rfl (S_X8.h S0) [.int x_0] [] (ct_X8_isThing l D dA G v w (hOk) h0 S0 x_0) rfl rfl (Nat.le_of_ble_eq_true rfl) ⟨rfl, rfl⟩ ⟨Nat.le_of_ble_eq_true rfl, Nat.le_of_ble_eq_true rfl⟩ dX8_weighs_2 (fun x12 v9 w10 p11 => ?_)
  rw [p11.1, p11.2.1]
  have b13 : Bd x12 0 1 := p11.2.2.1
  refine J_if_eq E 27 dX8_weighs_5 (by decide) (fun c14 => ?_) (fun c14 => ?_)
  · have b15 : Bd x12 0 0 := Bd.eq_l c14 b13 (Bd.lit 0 0 (by decide)) 0 0 (by decide)
    exact J.sub [0] rfl (J27)
  · have b16 : Bd x12 1 1 := (Bd.ne_lo c14 b13 (Bd.lit 0 0 (by decide))).w _ _ (by decide)
    have b17 : Bd x_0 0 6 := (p11.2.2.2.1).resolve_left c14
    refine J_iload_n E dX8_weighs_8 2 rfl ?_
    refine J_iconst E 0 dX8_weighs_9 (by decide) ?_
    refine J_bipush E 60 dX8_weighs_10 (by decide) ?_
    refine J_callSI E cal_X8_in wd996 [.int x_1, .int 0, .int 60] [] (ct_X8_in l D dA G v w (hOk) x_1 0 60) rfl rfl (Nat.le_of_ble_eq_true rfl) ⟨rfl, rfl⟩ ⟨Nat.le_of_ble_eq_true rfl, Nat.le_of_ble_eq_true rfl⟩ dX8_weighs_12 (fun x21 v18 w19 p20 => ?_)
    rw [p20.1, p20.2.1]
    have b22 : Bd x21 0 1 := p20.2.2.1
    refine J_if_eq E 27 dX8_weighs_15 (by decide) (fun c23 => ?_) (fun c23 => ?_)
    · have b24 : Bd x21 0 0 := Bd.eq_l c23 b22 (Bd.lit 0 0 (by decide)) 0 0 (by decide)
      have g25 : ¬ (0 ≤ x_1 ∧ x_1 ≤ 60) := (p20.2.2.2.2.1).resolve_left (fun h9 => h9 c23)
      exact J.sub [0] rfl (J27)
    · have b26 : Bd x21 1 1 := (Bd.ne_lo c23 b22 (Bd.lit 0 0 (by decide))).w _ _ (by decide)
      have g27 := (p20.2.2.2.1).resolve_left c23
      have b28 : Bd x_1 0 I1 := Bd.le_r g27.1 (Bd.lit 0 0 (by decide)) (Bd.any x_1) 0 (by decide)
      have b29 : Bd x_1 0 60 := Bd.le_l g27.2 b28 (Bd.lit 60 60 (by decide)) 60 (by decide)
      refine J_aload_n E dX8_weighs_18 0 rfl ?_
      refine J_iload_n E dX8_weighs_19 1 rfl ?_
      refine J_iload_n E dX8_weighs_20 2 rfl ?_
      refine J_callVI E cal_X8_weighsIn wd1187 rfl (S_X8.h S0) [.int x_0, .int x_1] [] (ct_X8_weighsIn l D dA G v w (hOk) h0 S0 x_0 b17 x_1 b29) rfl rfl (Nat.le_of_ble_eq_true rfl) ⟨rfl, rfl⟩ ⟨Nat.le_of_ble_eq_true rfl, Nat.le_of_ble_eq_true rfl⟩ dX8_weighs_21 (fun x33 v30 w31 p32 => ?_)
      rw [p32.1, p32.2.1]
      refine J_goto E 31 dX8_weighs_24 (by decide) ?_
      exact J_iret E hr dX8_weighs_31 ⟨hOk, Kp.rf, trivial, Fr.rf⟩

abbrev rm_X8_held : Room := { frames := 3, cells := 0, slots := 0, locals := 72 }
set_option maxHeartbeats 4000000 in
set_option maxRecDepth 100000 in
theorem ct_X8_held (l : Launch) (D : va_G) (dA : Nat → ClassId) (G : Gm) (v : Mv) (w : Mw) (hOk : Ok G v w) (h0 : Nat) (S0 : S_X8 G h0) : CtI l yX8_held cX8_held 3 (some .int) rm_X8_held D dA G [.ref h0] v w (fun r v1 w1 => v1 = v ∧ w1 = w ∧ Bd r 0 127 ∧ True) := by
  refine CtI.of RX8 [(0, .ref h0)] (Nat.le_of_ble_eq_true rfl) rfl (by decide) rfl ?_
  intro p e s m args below meth c E hr
  have J4 : ∀ n4 : Nat, ∀ x1 : Int32, Bd x1 0 127 → ∀ x3 : Int32, Bd x3 0 7 → Mu x3 7 n4 → J p l e rm_X8_held s m args below meth c 0 0 (MQ below (QcI D dA G (fun r v1 w1 => v1 = v ∧ w1 = w ∧ Bd r 0 127 ∧ True)) args s 0 0 (dm G)) D dA G (dm G) s.heap 3 v w [(0, .ref h0), (1, .int x1), (2, .int x3)] 4 [] := by
    intro n4
    induction n4 with
    | zero => intro x1 b2 x3 b4 hm; exact hm.zero b4 (by decide)
    | succ n4 ih4 =>
      intro x1 b2 x3 b4 hmu4
      have J45 : Bd x3 0 6 → ∀ x6 : Int32, Bd x6 0 64 → ∀ x8 : Int32, Bd x8 0 127 → J p l e rm_X8_held s m args below meth c 0 0 (MQ below (QcI D dA G (fun r v1 w1 => v1 = v ∧ w1 = w ∧ Bd r 0 127 ∧ True)) args s 0 0 (dm G)) D dA G (dm G) s.heap 3 v w [(0, .ref h0), (2, .int x3)] 45 [.int x6, .int x8] := by
        intro b5 x6 b7 x8 b9
        refine J_ior E dX8_held_45 (fun x10 e11 => ?_)
        have b12 : Bd x10 0 127 := Bd.or e11 b9 b7 7 (by decide)
        refine J_istore_n E [(1, .int x10), (0, .ref h0), (2, .int x3)] dX8_held_46 rfl (by decide) rfl ?_
        refine J_iinc E 2 1 (fun z => [(2, .int z), (1, .int x10), (0, .ref h0)]) dX8_held_47 rfl (by decide) (by decide) (fun _ => rfl) (fun x13 e14 => ?_)
        have b15 : Bd x13 1 7 := (Bd.add e14 b5 (Bd.lit 1 1 (by decide)) (by decide)).w _ _ (by decide)
        refine J_goto E 4 dX8_held_50 (by decide) ?_
        exact J.sub [2, 1, 0] rfl (ih4 x10 b12 x13 (b15.w 0 7 (by decide)) (Mu.step hmu4 e14 b5 (Bd.lit 1 1 (by decide)) (by decide)))
      have J44 : Bd x3 0 6 → ∀ x17 : Int32, Bd x17 0 127 → J p l e rm_X8_held s m args below meth c 0 0 (MQ below (QcI D dA G (fun r v1 w1 => v1 = v ∧ w1 = w ∧ Bd r 0 127 ∧ True)) args s 0 0 (dm G)) D dA G (dm G) s.heap 3 v w [(0, .ref h0), (2, .int x3)] 44 [.int x17] := by
        intro b16 x17 b18
        refine J_iconst E 0 dX8_held_44 (by decide) ?_
        exact J.sub [0, 1] rfl (J45 b16 0 ((Bd.lit 0 0 (by decide)).w 0 64 (by decide)) x17 b18)
      refine J_iload_n E dX8_held_4 2 rfl ?_
      refine J_aload_n E dX8_held_5 0 rfl ?_
      refine J_getR E in_X8 rfl (S_X8.h S0) 1 (by decide) wd936 rfl dX8_held_6 ?_
      refine J_iconst E 1 dX8_held_9 (by decide) ?_
      refine J_iald1 E (S_X8.f1 S0) (Bd.in (Bd.lit 1 1 (by decide)) (by decide)) dX8_held_10 (fun x19 e20 => ?_)
      have b21 : Bd x19 0 7 := Bd.e (Ok.ld hOk (S_X8.f1 S0) (Bd.lit 1 1 (by decide)) 1 1 0 7 (by decide) (by decide +kernel)) e20
      have e22 : x19 = v (rf G h0 1) 1 := by rw [e20, Bd.ix (Bd.lit 1 1 (by decide)) 1 rfl]
      refine J_icmp_ge E 53 dX8_held_11 (by decide) (fun c23 => ?_) (fun c23 => ?_)
      · refine J_iload_n E dX8_held_53 1 rfl ?_
        exact J_iret E hr dX8_held_54 ⟨rfl, rfl, b2, trivial⟩
      · have b24 : Bd x3 0 6 := Bd.lt_l (nle c23) b4 b21 6 (by decide)
        have b25 : Bd x19 1 7 := Bd.lt_r (nle c23) b4 b21 1 (by decide)
        refine J_iload_n E dX8_held_14 1 rfl ?_
        refine J_aload_n E dX8_held_15 0 rfl ?_
        refine J_iload_n E dX8_held_16 2 rfl ?_
        refine J_callVI E cal_X8_isLost wd1128 rfl (S_X8.h S0) [.int x3] [.int x1] (ct_X8_isLost l D dA G v w (hOk) h0 S0 x3 b24) rfl rfl (Nat.le_of_ble_eq_true rfl) ⟨rfl, rfl⟩ ⟨Nat.le_of_ble_eq_true rfl, Nat.le_of_ble_eq_true rfl⟩ dX8_held_17 (fun x29 v26 w27 p28 => ?_)
        rw [p28.1, p28.2.1]
        have b30 : Bd x29 0 1 := p28.2.2.1
        refine J_if_ne E 44 dX8_held_20 (by decide) (fun c31 => ?_) (fun c31 => ?_)
        · have b32 : Bd x29 1 1 := (Bd.ne_lo c31 b30 (Bd.lit 0 0 (by decide))).w _ _ (by decide)
          exact J.sub [0, 2] rfl (J44 b24 x1 b2)
        · have b33 : Bd x29 0 0 := Bd.eq_l c31 b30 (Bd.lit 0 0 (by decide)) 0 0 (by decide)
          refine J_aload_n E dX8_held_23 0 rfl ?_
          refine J_iconst E 0 dX8_held_24 (by decide) ?_
          refine J_aload_n E dX8_held_25 0 rfl ?_
          refine J_getR E in_X8 rfl (S_X8.h S0) 1 (by decide) wd936 rfl dX8_held_26 ?_
          refine J_bipush E 34 dX8_held_29 (by decide) ?_
          refine J_iload_n E dX8_held_31 2 rfl ?_
          refine J_callVI E cal_X8_isHeld wd1094 rfl (S_X8.h S0) [.int 0, .ref (rf G h0 1), .int 34, .int x3] [.int x1] (ct_X8_isHeld_0_A_34 l D dA G v w (hOk) h0 S0 x3 b24) rfl rfl (Nat.le_of_ble_eq_true rfl) ⟨rfl, rfl⟩ ⟨Nat.le_of_ble_eq_true rfl, Nat.le_of_ble_eq_true rfl⟩ dX8_held_32 (fun x37 v34 w35 p36 => ?_)
          rw [p36.1, p36.2.1]
          have b38 : Bd x37 0 1 := p36.2.2.1
          refine J_if_eq E 44 dX8_held_35 (by decide) (fun c39 => ?_) (fun c39 => ?_)
          · have b40 : Bd x37 0 0 := Bd.eq_l c39 b38 (Bd.lit 0 0 (by decide)) 0 0 (by decide)
            exact J.sub [0, 2] rfl (J44 b24 x1 b2)
          · have b41 : Bd x37 1 1 := (Bd.ne_lo c39 b38 (Bd.lit 0 0 (by decide))).w _ _ (by decide)
            refine J_iconst E 1 dX8_held_38 (by decide) ?_
            refine J_iload_n E dX8_held_39 2 rfl ?_
            refine J_ishl E dX8_held_40 (fun x42 e43 => ?_)
            have b44 : Bd x42 1 64 := Bd.shl1 e43 b24 6 (by decide)
            refine J_goto E 45 dX8_held_41 (by decide) ?_
            exact J.sub [0, 2] rfl (J45 b24 x42 (b44.w 0 64 (by decide)) x1 b2)
  refine J_iconst E 0 dX8_held_0 (by decide) ?_
  refine J_istore_n E [(1, .int 0), (0, .ref h0)] dX8_held_1 rfl (by decide) rfl ?_
  refine J_iconst E 0 dX8_held_2 (by decide) ?_
  refine J_istore_n E [(2, .int 0), (1, .int 0), (0, .ref h0)] dX8_held_3 rfl (by decide) rfl ?_
  exact J.sub [2, 1, 0] rfl (J4 8 0 ((Bd.lit 0 0 (by decide)).w 0 127 (by decide)) 0 ((Bd.lit 0 0 (by decide)).w 0 7 (by decide)) (Mu.start _ (Bd.lit 0 0 (by decide)) (by decide)))

abbrev rm_X8_left : Room := { frames := 4, cells := 0, slots := 0, locals := 97 }
set_option maxHeartbeats 4000000 in
set_option maxRecDepth 100000 in
theorem ct_X8_left (l : Launch) (D : va_G) (dA : Nat → ClassId) (G : Gm) (v : Mv) (w : Mw) (hOk : Ok G v w) (h0 : Nat) (S0 : S_X8 G h0) (x_0 : Int32) : CtI l yX8_left cX8_left 3 (some .int) rm_X8_left D dA G [.ref h0, .int x_0] v w (fun r v1 w1 => Ok G v1 w1 ∧ Kp G v v1 ∧ True ∧ Fr G [103, 116, 1084] v v1) := by
  refine CtI.of RX8 [(0, .ref h0), (1, .int x_0)] (Nat.le_of_ble_eq_true rfl) rfl (by decide) rfl ?_
  intro p e s m args below meth c E hr
  have J21 : ∀ n21 : Nat, ∀ (v1 : Mv) (w2 : Mw), Ok G v1 w2 → Kp G v v1 → Fr G [103, 116, 1084] v v1 → Bd x_0 0 60 → ∀ x7 : Int32, Bd x7 0 60 → Mu x7 60 n21 → J p l e rm_X8_left s m args below meth c 0 0 (MQ below (QcI D dA G (fun r v1 w1 => Ok G v1 w1 ∧ Kp G v v1 ∧ True ∧ Fr G [103, 116, 1084] v v1)) args s 0 0 (dm G)) D dA G (dm G) s.heap 3 v1 w2 [(0, .ref h0), (1, .int x_0), (2, .int x7)] 21 [] := by
    intro n21
    induction n21 with
    | zero => intro v1 w2 o3 k4 f5 b6 x7 b8 hm; exact hm.zero b8 (by decide)
    | succ n21 ih21 =>
      intro v1 w2 o3 k4 f5 b6 x7 b8 hmu21
      refine J_iload_n E dX8_left_21 2 rfl ?_
      refine J_iload_n E dX8_left_22 1 rfl ?_
      refine J_icmp_ge E 42 dX8_left_23 (by decide) (fun c9 => ?_) (fun c9 => ?_)
      · refine J_aload_n E dX8_left_42 0 rfl ?_
        refine J_aload_n E dX8_left_43 0 rfl ?_
        refine J_getR E in_X8 rfl (S_X8.h S0) 3 (by decide) wd938 rfl dX8_left_44 ?_
        refine J_iconst E 0 dX8_left_47 (by decide) ?_
        refine J_callVI E cal_X8_hereOf wd1148 rfl (S_X8.h S0) [.ref (rf G h0 3), .int 0] [] (ct_X8_hereOf_T_0 l D dA G v1 w2 (o3) h0 S0) rfl rfl (Nat.le_of_ble_eq_true rfl) ⟨rfl, rfl⟩ ⟨Nat.le_of_ble_eq_true rfl, Nat.le_of_ble_eq_true rfl⟩ dX8_left_48 (fun x13 v10 w11 p12 => ?_)
        rw [p12.1, p12.2.1]
        have b14 : Bd x13 0 127 := p12.2.2.1
        exact J_iret E hr dX8_left_51 ⟨o3, k4, trivial, f5⟩
      · have b15 : Bd x7 0 59 := Bd.lt_l (nle c9) b8 b6 59 (by decide)
        have b16 : Bd x_0 1 60 := Bd.lt_r (nle c9) b8 b6 1 (by decide)
        refine J_aload_n E dX8_left_26 0 rfl ?_
        refine J_iconst E 0 dX8_left_27 (by decide) ?_
        refine J_aload_n E dX8_left_28 0 rfl ?_
        refine J_getR E in_X8 rfl (S_X8.h S0) 3 (by decide) wd938 rfl dX8_left_29 ?_
        refine J_iconst E 0 dX8_left_32 (by decide) ?_
        refine J_callVV E cal_X8_passOn wd1090 rfl (S_X8.h S0) [.int 0, .ref (rf G h0 3), .int 0] [] (ct_X8_passOn_0_T_0 l D dA G v1 w2 (o3) h0 S0) rfl rfl (Nat.le_of_ble_eq_true rfl) ⟨rfl, rfl⟩ ⟨Nat.le_of_ble_eq_true rfl, Nat.le_of_ble_eq_true rfl⟩ dX8_left_33 (fun v17 w18 p19 => ?_)
        have ew9 : w2 = w18 := p19.2.2.1.1.symm
        subst ew9
        have o21 := p19.1
        have k22 : Kp G v v17 := (k4).tr p19.2.1
        have f23 : Fr G [103, 116, 1084] v v17 := Fr.tr f5 (p19.2.2.2) (by decide)
        refine J_iinc E 2 1 (fun z => [(2, .int z), (0, .ref h0), (1, .int x_0)]) dX8_left_36 rfl (by decide) (by decide) (fun _ => rfl) (fun x24 e25 => ?_)
        have b26 : Bd x24 1 60 := (Bd.add e25 b15 (Bd.lit 1 1 (by decide)) (by decide)).w _ _ (by decide)
        refine J_goto E 21 dX8_left_39 (by decide) ?_
        exact J.sub [1, 2, 0] rfl (ih21 v17 w2 (o21) (k22) f23 (b16.w 0 60 (by decide)) x24 (b26.w 0 60 (by decide)) (Mu.step hmu21 e25 b15 (Bd.lit 1 1 (by decide)) (by decide)))
  refine J_iload_n E dX8_left_0 1 rfl ?_
  refine J_iconst E 0 dX8_left_1 (by decide) ?_
  refine J_bipush E 60 dX8_left_2 (by decide) ?_
  refine J_callSI E cal_X8_in wd996 [.int x_0, .int 0, .int 60] [] (ct_X8_in l D dA G v w (hOk) x_0 0 60) rfl rfl (Nat.le_of_ble_eq_true rfl) ⟨rfl, rfl⟩ ⟨Nat.le_of_ble_eq_true rfl, Nat.le_of_ble_eq_true rfl⟩ dX8_left_4 (fun x30 v27 w28 p29 => ?_)
  rw [p29.1, p29.2.1]
  have b31 : Bd x30 0 1 := p29.2.2.1
  refine J_if_ne E 15 dX8_left_7 (by decide) (fun c32 => ?_) (fun c32 => ?_)
  · have b33 : Bd x30 1 1 := (Bd.ne_lo c32 b31 (Bd.lit 0 0 (by decide))).w _ _ (by decide)
    have g34 := (p29.2.2.2.1).resolve_left c32
    have b35 : Bd x_0 0 I1 := Bd.le_r g34.1 (Bd.lit 0 0 (by decide)) (Bd.any x_0) 0 (by decide)
    have b36 : Bd x_0 0 60 := Bd.le_l g34.2 b35 (Bd.lit 60 60 (by decide)) 60 (by decide)
    refine J_aload_n E dX8_left_15 0 rfl ?_
    refine J_callVV E cal_X8_take wd1199 rfl (S_X8.h S0) [] [] (ct_X8_take l D dA G v w (hOk) h0 S0) rfl rfl (Nat.le_of_ble_eq_true rfl) ⟨rfl, rfl⟩ ⟨Nat.le_of_ble_eq_true rfl, Nat.le_of_ble_eq_true rfl⟩ dX8_left_16 (fun v37 w38 p39 => ?_)
    have o41 := p39.1
    have k42 : Kp G v v37 := (Kp.rf).tr p39.2.1
    have f43 : Fr G [103, 116, 1084] v v37 := Fr.tr Fr.rf (p39.2.2) (by decide)
    refine J_iconst E 0 dX8_left_19 (by decide) ?_
    refine J_istore_n E [(2, .int 0), (0, .ref h0), (1, .int x_0)] dX8_left_20 rfl (by decide) rfl ?_
    exact J.sub [1, 2, 0] rfl (J21 61 v37 w38 (o41) (k42) f43 b36 0 ((Bd.lit 0 0 (by decide)).w 0 60 (by decide)) (Mu.start _ (Bd.lit 0 0 (by decide)) (by decide)))
  · have b44 : Bd x30 0 0 := Bd.eq_l c32 b31 (Bd.lit 0 0 (by decide)) 0 0 (by decide)
    have g45 : ¬ (0 ≤ x_0 ∧ x_0 ≤ 60) := (p29.2.2.2.2.1).resolve_left (fun h9 => h9 c32)
    refine J_aload_n E dX8_left_10 0 rfl ?_
    refine J_callVI E cal_X8_bad wd999 rfl (S_X8.h S0) [] [] (ct_X8_bad l D dA G v w (hOk) h0 S0) rfl rfl (Nat.le_of_ble_eq_true rfl) ⟨rfl, rfl⟩ ⟨Nat.le_of_ble_eq_true rfl, Nat.le_of_ble_eq_true rfl⟩ dX8_left_11 (fun x49 v46 w47 p48 => ?_)
    have ew9 : w = w47 := p48.2.2.2.1.1.symm
    subst ew9
    have o50 := p48.1
    have k51 : Kp G v v46 := (Kp.rf).tr p48.2.1
    have f52 : Fr G [103, 116, 1084] v v46 := Fr.tr Fr.rf (p48.2.2.2.2) (by decide)
    have b53 : Bd x49 (-2) (-2) := p48.2.2.1
    exact J_iret E hr dX8_left_14 ⟨o50, k51, trivial, f52⟩

abbrev rm_X8_when : Room := { frames := 4, cells := 0, slots := 0, locals := 97 }
set_option maxHeartbeats 4000000 in
set_option maxRecDepth 100000 in
theorem ct_X8_when (l : Launch) (D : va_G) (dA : Nat → ClassId) (G : Gm) (v : Mv) (w : Mw) (hOk : Ok G v w) (h0 : Nat) (S0 : S_X8 G h0) (x_0 : Int32) : CtI l yX8_when cX8_when 3 (some .int) rm_X8_when D dA G [.ref h0, .int x_0] v w (fun r v1 w1 => Ok G v1 w1 ∧ Kp G v v1 ∧ True ∧ Fr G [103, 116, 1084] v v1) := by
  refine CtI.of RX8 [(0, .ref h0), (1, .int x_0)] (Nat.le_of_ble_eq_true rfl) rfl (by decide) rfl ?_
  intro p e s m args below meth c E hr
  have J19 : ∀ n19 : Nat, ∀ (v1 : Mv) (w2 : Mw), Ok G v1 w2 → Kp G v v1 → Fr G [103, 116, 1084] v v1 → Bd x_0 0 6 → ∀ x7 : Int32, Bd x7 1 61 → Mu x7 61 n19 → J p l e rm_X8_when s m args below meth c 0 0 (MQ below (QcI D dA G (fun r v1 w1 => Ok G v1 w1 ∧ Kp G v v1 ∧ True ∧ Fr G [103, 116, 1084] v v1)) args s 0 0 (dm G)) D dA G (dm G) s.heap 3 v1 w2 [(0, .ref h0), (1, .int x_0), (2, .int x7)] 19 [] := by
    intro n19
    induction n19 with
    | zero => intro v1 w2 o3 k4 f5 b6 x7 b8 hm; exact hm.zero b8 (by decide)
    | succ n19 ih19 =>
      intro v1 w2 o3 k4 f5 b6 x7 b8 hmu19
      refine J_iload_n E dX8_when_19 2 rfl ?_
      refine J_bipush E 60 dX8_when_20 (by decide) ?_
      refine J_icmp_gt E 64 dX8_when_22 (by decide) (fun c9 => ?_) (fun c9 => ?_)
      · have b10 : Bd x7 61 61 := Bd.lt_r c9 (Bd.lit 60 60 (by decide)) b8 61 (by decide)
        refine J_iconst E (-1) dX8_when_64 (by decide) ?_
        exact J_iret E hr dX8_when_65 ⟨o3, k4, trivial, f5⟩
      · have b11 : Bd x7 1 60 := Bd.le_l (nlt c9) b8 (Bd.lit 60 60 (by decide)) 60 (by decide)
        refine J_aload_n E dX8_when_25 0 rfl ?_
        refine J_iload_n E dX8_when_26 1 rfl ?_
        refine J_callVI E cal_X8_isLost wd1128 rfl (S_X8.h S0) [.int x_0] [] (ct_X8_isLost l D dA G v1 w2 (o3) h0 S0 x_0 b6) rfl rfl (Nat.le_of_ble_eq_true rfl) ⟨rfl, rfl⟩ ⟨Nat.le_of_ble_eq_true rfl, Nat.le_of_ble_eq_true rfl⟩ dX8_when_27 (fun x15 v12 w13 p14 => ?_)
        rw [p14.1, p14.2.1]
        have b16 : Bd x15 0 1 := p14.2.2.1
        refine J_if_ne E 64 dX8_when_30 (by decide) (fun c17 => ?_) (fun c17 => ?_)
        · have b18 : Bd x15 1 1 := (Bd.ne_lo c17 b16 (Bd.lit 0 0 (by decide))).w _ _ (by decide)
          refine J_iconst E (-1) dX8_when_64 (by decide) ?_
          exact J_iret E hr dX8_when_65 ⟨o3, k4, trivial, f5⟩
        · have b19 : Bd x15 0 0 := Bd.eq_l c17 b16 (Bd.lit 0 0 (by decide)) 0 0 (by decide)
          refine J_aload_n E dX8_when_33 0 rfl ?_
          refine J_iconst E 0 dX8_when_34 (by decide) ?_
          refine J_aload_n E dX8_when_35 0 rfl ?_
          refine J_getR E in_X8 rfl (S_X8.h S0) 3 (by decide) wd938 rfl dX8_when_36 ?_
          refine J_iconst E 0 dX8_when_39 (by decide) ?_
          refine J_callVV E cal_X8_passOn wd1090 rfl (S_X8.h S0) [.int 0, .ref (rf G h0 3), .int 0] [] (ct_X8_passOn_0_T_0 l D dA G v1 w2 (o3) h0 S0) rfl rfl (Nat.le_of_ble_eq_true rfl) ⟨rfl, rfl⟩ ⟨Nat.le_of_ble_eq_true rfl, Nat.le_of_ble_eq_true rfl⟩ dX8_when_40 (fun v20 w21 p22 => ?_)
          have ew9 : w2 = w21 := p22.2.2.1.1.symm
          subst ew9
          have o24 := p22.1
          have k25 : Kp G v v20 := (k4).tr p22.2.1
          have f26 : Fr G [103, 116, 1084] v v20 := Fr.tr f5 (p22.2.2.2) (by decide)
          refine J_aload_n E dX8_when_43 0 rfl ?_
          refine J_getR E in_X8 rfl (S_X8.h S0) 3 (by decide) wd938 rfl dX8_when_44 ?_
          refine J_iconst E 1 dX8_when_47 (by decide) ?_
          refine J_iald1 E (S_X8.f3 S0) (Bd.in (Bd.lit 1 1 (by decide)) (by decide)) dX8_when_48 (fun x27 e28 => ?_)
          have e29 : x27 = v20 (rf G h0 3) 1 := by rw [e28, Bd.ix (Bd.lit 1 1 (by decide)) 1 rfl]
          refine J_iload_n E dX8_when_49 1 rfl ?_
          refine J_callSI E cal_X8_has wd1075 [.int x27, .int x_0] [] (ct_X8_has l D dA G v20 w2 (o24) x27 x_0 (b6.w 0 9 (by decide))) rfl rfl (Nat.le_of_ble_eq_true rfl) ⟨rfl, rfl⟩ ⟨Nat.le_of_ble_eq_true rfl, Nat.le_of_ble_eq_true rfl⟩ dX8_when_50 (fun x33 v30 w31 p32 => ?_)
          rw [p32.1, p32.2.1]
          have b34 : Bd x33 0 1 := p32.2.2.1
          refine J_if_eq E 58 dX8_when_53 (by decide) (fun c35 => ?_) (fun c35 => ?_)
          · have b36 : Bd x33 0 0 := Bd.eq_l c35 b34 (Bd.lit 0 0 (by decide)) 0 0 (by decide)
            refine J_iinc E 2 1 (fun z => [(2, .int z), (0, .ref h0), (1, .int x_0)]) dX8_when_58 rfl (by decide) (by decide) (fun _ => rfl) (fun x37 e38 => ?_)
            have b39 : Bd x37 2 61 := (Bd.add e38 b11 (Bd.lit 1 1 (by decide)) (by decide)).w _ _ (by decide)
            refine J_goto E 19 dX8_when_61 (by decide) ?_
            exact J.sub [1, 2, 0] rfl (ih19 v20 w2 (o24) (k25) f26 b6 x37 (b39.w 1 61 (by decide)) (Mu.step hmu19 e38 b11 (Bd.lit 1 1 (by decide)) (by decide)))
          · have b40 : Bd x33 1 1 := (Bd.ne_lo c35 b34 (Bd.lit 0 0 (by decide))).w _ _ (by decide)
            refine J_iload_n E dX8_when_56 2 rfl ?_
            exact J_iret E hr dX8_when_57 ⟨o24, k25, trivial, f26⟩
  refine J_aload_n E dX8_when_0 0 rfl ?_
  refine J_iload_n E dX8_when_1 1 rfl ?_
  refine J_callVI E cal_X8_isOne wd1120 rfl (S_X8.h S0) [.int x_0] [] (ct_X8_isOne l D dA G v w (hOk) h0 S0 x_0) rfl rfl (Nat.le_of_ble_eq_true rfl) ⟨rfl, rfl⟩ ⟨Nat.le_of_ble_eq_true rfl, Nat.le_of_ble_eq_true rfl⟩ dX8_when_2 (fun x44 v41 w42 p43 => ?_)
  rw [p43.1, p43.2.1]
  have b45 : Bd x44 0 1 := p43.2.2.1
  refine J_if_ne E 13 dX8_when_5 (by decide) (fun c46 => ?_) (fun c46 => ?_)
  · have b47 : Bd x44 1 1 := (Bd.ne_lo c46 b45 (Bd.lit 0 0 (by decide))).w _ _ (by decide)
    have b48 : Bd x_0 0 6 := (p43.2.2.2.1).resolve_left c46
    refine J_aload_n E dX8_when_13 0 rfl ?_
    refine J_callVV E cal_X8_take wd1199 rfl (S_X8.h S0) [] [] (ct_X8_take l D dA G v w (hOk) h0 S0) rfl rfl (Nat.le_of_ble_eq_true rfl) ⟨rfl, rfl⟩ ⟨Nat.le_of_ble_eq_true rfl, Nat.le_of_ble_eq_true rfl⟩ dX8_when_14 (fun v49 w50 p51 => ?_)
    have o53 := p51.1
    have k54 : Kp G v v49 := (Kp.rf).tr p51.2.1
    have f55 : Fr G [103, 116, 1084] v v49 := Fr.tr Fr.rf (p51.2.2) (by decide)
    refine J_iconst E 1 dX8_when_17 (by decide) ?_
    refine J_istore_n E [(2, .int 1), (0, .ref h0), (1, .int x_0)] dX8_when_18 rfl (by decide) rfl ?_
    exact J.sub [1, 2, 0] rfl (J19 61 v49 w50 (o53) (k54) f55 b48 1 ((Bd.lit 1 1 (by decide)).w 1 61 (by decide)) (Mu.start _ (Bd.lit 1 1 (by decide)) (by decide)))
  · have b56 : Bd x44 0 0 := Bd.eq_l c46 b45 (Bd.lit 0 0 (by decide)) 0 0 (by decide)
    refine J_aload_n E dX8_when_8 0 rfl ?_
    refine J_callVI E cal_X8_bad wd999 rfl (S_X8.h S0) [] [] (ct_X8_bad l D dA G v w (hOk) h0 S0) rfl rfl (Nat.le_of_ble_eq_true rfl) ⟨rfl, rfl⟩ ⟨Nat.le_of_ble_eq_true rfl, Nat.le_of_ble_eq_true rfl⟩ dX8_when_9 (fun x60 v57 w58 p59 => ?_)
    have ew9 : w = w58 := p59.2.2.2.1.1.symm
    subst ew9
    have o61 := p59.1
    have k62 : Kp G v v57 := (Kp.rf).tr p59.2.1
    have f63 : Fr G [103, 116, 1084] v v57 := Fr.tr Fr.rf (p59.2.2.2.2) (by decide)
    have b64 : Bd x60 (-2) (-2) := p59.2.2.1
    exact J_iret E hr dX8_when_12 ⟨o61, k62, trivial, f63⟩

abbrev rm_X8_longOf : Room := { frames := 4, cells := 0, slots := 0, locals := 87 }
set_option maxHeartbeats 4000000 in
set_option maxRecDepth 100000 in
theorem ct_X8_longOf (l : Launch) (D : va_G) (dA : Nat → ClassId) (G : Gm) (v : Mv) (w : Mw) (hOk : Ok G v w) (h0 : Nat) (S0 : S_X8 G h0) (x_0 : Int32) (bx_0 : Bd x_0 0 6) (x_1 : Int32) (bx_1 : Bd x_1 0 6) : CtI l yX8_longOf cX8_longOf 4 (some .int) rm_X8_longOf D dA G [.ref h0, .int x_0, .int x_1] v w (fun r v1 w1 => v1 = v ∧ w1 = w ∧ Bd r 0 60 ∧ True) := by
  refine CtI.of RX8 [(0, .ref h0), (1, .int x_0), (2, .int x_1)] (Nat.le_of_ble_eq_true rfl) rfl (by decide) rfl ?_
  intro p e s m args below meth c E hr
  have J2 : ∀ n2 : Nat, Bd x_0 0 6 → Bd x_1 0 6 → ∀ x3 : Int32, Bd x3 0 60 → Mu x3 60 n2 → J p l e rm_X8_longOf s m args below meth c 0 0 (MQ below (QcI D dA G (fun r v1 w1 => v1 = v ∧ w1 = w ∧ Bd r 0 60 ∧ True)) args s 0 0 (dm G)) D dA G (dm G) s.heap 4 v w [(0, .ref h0), (1, .int x_0), (2, .int x_1), (3, .int x3)] 2 [] := by
    intro n2
    induction n2 with
    | zero => intro b1 b2 x3 b4 hm; exact hm.zero b4 (by decide)
    | succ n2 ih2 =>
      intro b1 b2 x3 b4 hmu2
      refine J_iload_n E dX8_longOf_2 3 rfl ?_
      refine J_bipush E 60 dX8_longOf_3 (by decide) ?_
      refine J_icmp_ge E 29 dX8_longOf_5 (by decide) (fun c5 => ?_) (fun c5 => ?_)
      · have b6 : Bd x3 60 60 := Bd.le_r c5 (Bd.lit 60 60 (by decide)) b4 60 (by decide)
        refine J_iload_n E dX8_longOf_29 3 rfl ?_
        exact J_iret E hr dX8_longOf_30 ⟨rfl, rfl, (b6.w 0 60 (by decide)), trivial⟩
      · have b7 : Bd x3 0 59 := Bd.lt_l (nle c5) b4 (Bd.lit 60 60 (by decide)) 59 (by decide)
        refine J_aload_n E dX8_longOf_8 0 rfl ?_
        refine J_iload_n E dX8_longOf_9 2 rfl ?_
        refine J_iload_n E dX8_longOf_10 3 rfl ?_
        refine J_callVI E cal_X8_weighsIn wd1187 rfl (S_X8.h S0) [.int x_1, .int x3] [] (ct_X8_weighsIn l D dA G v w (hOk) h0 S0 x_1 b2 x3 (b7.w 0 60 (by decide))) rfl rfl (Nat.le_of_ble_eq_true rfl) ⟨rfl, rfl⟩ ⟨Nat.le_of_ble_eq_true rfl, Nat.le_of_ble_eq_true rfl⟩ dX8_longOf_11 (fun x11 v8 w9 p10 => ?_)
        rw [p10.1, p10.2.1]
        refine J_aload_n E dX8_longOf_14 0 rfl ?_
        refine J_iload_n E dX8_longOf_15 1 rfl ?_
        refine J_iload_n E dX8_longOf_16 3 rfl ?_
        refine J_callVI E cal_X8_liftsIn wd1175 rfl (S_X8.h S0) [.int x_0, .int x3] [.int x11] (ct_X8_liftsIn l D dA G v w (hOk) h0 S0 x_0 b1 x3 (b7.w 0 60 (by decide))) rfl rfl (Nat.le_of_ble_eq_true rfl) ⟨rfl, rfl⟩ ⟨Nat.le_of_ble_eq_true rfl, Nat.le_of_ble_eq_true rfl⟩ dX8_longOf_17 (fun x15 v12 w13 p14 => ?_)
        rw [p14.1, p14.2.1]
        refine J_icmp_le E 29 dX8_longOf_20 (by decide) (fun c16 => ?_) (fun c16 => ?_)
        · refine J_iload_n E dX8_longOf_29 3 rfl ?_
          exact J_iret E hr dX8_longOf_30 ⟨rfl, rfl, (b7.w 0 60 (by decide)), trivial⟩
        · refine J_iinc E 3 1 (fun z => [(3, .int z), (0, .ref h0), (1, .int x_0), (2, .int x_1)]) dX8_longOf_23 rfl (by decide) (by decide) (fun _ => rfl) (fun x17 e18 => ?_)
          have b19 : Bd x17 1 60 := (Bd.add e18 b7 (Bd.lit 1 1 (by decide)) (by decide)).w _ _ (by decide)
          refine J_goto E 2 dX8_longOf_26 (by decide) ?_
          exact J.sub [1, 2, 3, 0] rfl (ih2 b1 b2 x17 (b19.w 0 60 (by decide)) (Mu.step hmu2 e18 b7 (Bd.lit 1 1 (by decide)) (by decide)))
  refine J_iconst E 0 dX8_longOf_0 (by decide) ?_
  refine J_istore_n E [(3, .int 0), (0, .ref h0), (1, .int x_0), (2, .int x_1)] dX8_longOf_1 rfl (by decide) rfl ?_
  exact J.sub [1, 2, 3, 0] rfl (J2 61 bx_0 bx_1 0 ((Bd.lit 0 0 (by decide)).w 0 60 (by decide)) (Mu.start _ (Bd.lit 0 0 (by decide)) (by decide)))

abbrev rm_X8_lasts : Room := { frames := 5, cells := 0, slots := 0, locals := 110 }
set_option maxHeartbeats 4000000 in
set_option maxRecDepth 100000 in
theorem ct_X8_lasts (l : Launch) (D : va_G) (dA : Nat → ClassId) (G : Gm) (v : Mv) (w : Mw) (hOk : Ok G v w) (h0 : Nat) (S0 : S_X8 G h0) (x_0 : Int32) (x_1 : Int32) : CtI l yX8_lasts cX8_lasts 3 (some .int) rm_X8_lasts D dA G [.ref h0, .int x_0, .int x_1] v w (fun r v1 w1 => Ok G v1 w1 ∧ Kp G v v1 ∧ True ∧ Fr G [103] v v1) := by
  refine CtI.of RX8 [(0, .ref h0), (1, .int x_0), (2, .int x_1)] (Nat.le_of_ble_eq_true rfl) rfl (by decide) rfl ?_
  intro p e s m args below meth c E hr
  have J16 :  J p l e rm_X8_lasts s m args below meth c 0 0 (MQ below (QcI D dA G (fun r v1 w1 => Ok G v1 w1 ∧ Kp G v v1 ∧ True ∧ Fr G [103] v v1)) args s 0 0 (dm G)) D dA G (dm G) s.heap 3 v w [(0, .ref h0)] 16 [] := by
    refine J_aload_n E dX8_lasts_16 0 rfl ?_
    refine J_callVI E cal_X8_bad wd999 rfl (S_X8.h S0) [] [] (ct_X8_bad l D dA G v w (hOk) h0 S0) rfl rfl (Nat.le_of_ble_eq_true rfl) ⟨rfl, rfl⟩ ⟨Nat.le_of_ble_eq_true rfl, Nat.le_of_ble_eq_true rfl⟩ dX8_lasts_17 (fun x4 v1 w2 p3 => ?_)
    have ew9 : w = w2 := p3.2.2.2.1.1.symm
    subst ew9
    have o5 := p3.1
    have k6 : Kp G v v1 := (Kp.rf).tr p3.2.1
    have f7 : Fr G [103] v v1 := Fr.tr Fr.rf (p3.2.2.2.2) (by decide)
    have b8 : Bd x4 (-2) (-2) := p3.2.2.1
    exact J_iret E hr dX8_lasts_20 ⟨o5, k6, trivial, f7⟩
  refine J_aload_n E dX8_lasts_0 0 rfl ?_
  refine J_iload_n E dX8_lasts_1 1 rfl ?_
  refine J_callVI E cal_X8_isOne wd1120 rfl (S_X8.h S0) [.int x_0] [] (ct_X8_isOne l D dA G v w (hOk) h0 S0 x_0) rfl rfl (Nat.le_of_ble_eq_true rfl) ⟨rfl, rfl⟩ ⟨Nat.le_of_ble_eq_true rfl, Nat.le_of_ble_eq_true rfl⟩ dX8_lasts_2 (fun x12 v9 w10 p11 => ?_)
  rw [p11.1, p11.2.1]
  have b13 : Bd x12 0 1 := p11.2.2.1
  refine J_if_eq E 16 dX8_lasts_5 (by decide) (fun c14 => ?_) (fun c14 => ?_)
  · have b15 : Bd x12 0 0 := Bd.eq_l c14 b13 (Bd.lit 0 0 (by decide)) 0 0 (by decide)
    exact J.sub [0] rfl (J16)
  · have b16 : Bd x12 1 1 := (Bd.ne_lo c14 b13 (Bd.lit 0 0 (by decide))).w _ _ (by decide)
    have b17 : Bd x_0 0 6 := (p11.2.2.2.1).resolve_left c14
    refine J_aload_n E dX8_lasts_8 0 rfl ?_
    refine J_iload_n E dX8_lasts_9 2 rfl ?_
    refine J_callVI E cal_X8_isThing wd1124 rfl (S_X8.h S0) [.int x_1] [] (ct_X8_isThing l D dA G v w (hOk) h0 S0 x_1) rfl rfl (Nat.le_of_ble_eq_true rfl) ⟨rfl, rfl⟩ ⟨Nat.le_of_ble_eq_true rfl, Nat.le_of_ble_eq_true rfl⟩ dX8_lasts_10 (fun x21 v18 w19 p20 => ?_)
    rw [p20.1, p20.2.1]
    have b22 : Bd x21 0 1 := p20.2.2.1
    refine J_if_ne E 21 dX8_lasts_13 (by decide) (fun c23 => ?_) (fun c23 => ?_)
    · have b24 : Bd x21 1 1 := (Bd.ne_lo c23 b22 (Bd.lit 0 0 (by decide))).w _ _ (by decide)
      have b25 : Bd x_1 0 6 := (p20.2.2.2.1).resolve_left c23
      refine J_aload_n E dX8_lasts_21 0 rfl ?_
      refine J_iload_n E dX8_lasts_22 1 rfl ?_
      refine J_callVI E cal_X8_isLost wd1128 rfl (S_X8.h S0) [.int x_0] [] (ct_X8_isLost l D dA G v w (hOk) h0 S0 x_0 b17) rfl rfl (Nat.le_of_ble_eq_true rfl) ⟨rfl, rfl⟩ ⟨Nat.le_of_ble_eq_true rfl, Nat.le_of_ble_eq_true rfl⟩ dX8_lasts_23 (fun x29 v26 w27 p28 => ?_)
      rw [p28.1, p28.2.1]
      have b30 : Bd x29 0 1 := p28.2.2.1
      refine J_if_eq E 36 dX8_lasts_26 (by decide) (fun c31 => ?_) (fun c31 => ?_)
      · have b32 : Bd x29 0 0 := Bd.eq_l c31 b30 (Bd.lit 0 0 (by decide)) 0 0 (by decide)
        refine J_aload_n E dX8_lasts_36 0 rfl ?_
        refine J_iload_n E dX8_lasts_37 1 rfl ?_
        refine J_iload_n E dX8_lasts_38 2 rfl ?_
        refine J_callVI E cal_X8_longOf wd1211 rfl (S_X8.h S0) [.int x_0, .int x_1] [] (ct_X8_longOf l D dA G v w (hOk) h0 S0 x_0 b17 x_1 b25) rfl rfl (Nat.le_of_ble_eq_true rfl) ⟨rfl, rfl⟩ ⟨Nat.le_of_ble_eq_true rfl, Nat.le_of_ble_eq_true rfl⟩ dX8_lasts_39 (fun x36 v33 w34 p35 => ?_)
        rw [p35.1, p35.2.1]
        have b37 : Bd x36 0 60 := p35.2.2.1
        exact J_iret E hr dX8_lasts_42 ⟨hOk, Kp.rf, trivial, Fr.rf⟩
      · have b38 : Bd x29 1 1 := (Bd.ne_lo c31 b30 (Bd.lit 0 0 (by decide))).w _ _ (by decide)
        refine J_aload_n E dX8_lasts_29 0 rfl ?_
        refine J_callVI E cal_X8_no wd1132 rfl (S_X8.h S0) [] [] (ct_X8_no l D dA G v w (hOk) h0 S0) rfl rfl (Nat.le_of_ble_eq_true rfl) ⟨rfl, rfl⟩ ⟨Nat.le_of_ble_eq_true rfl, Nat.le_of_ble_eq_true rfl⟩ dX8_lasts_30 (fun x42 v39 w40 p41 => ?_)
        have ew9 : w = w40 := p41.2.2.2.1.1.symm
        subst ew9
        have o43 := p41.1
        have k44 : Kp G v v39 := (Kp.rf).tr p41.2.1
        have f45 : Fr G [103] v v39 := Fr.tr Fr.rf (p41.2.2.2.2) (by decide)
        have b46 : Bd x42 (-3) (-3) := p41.2.2.1
        refine J_goto E 42 dX8_lasts_33 (by decide) ?_
        exact J_iret E hr dX8_lasts_42 ⟨o43, k44, trivial, f45⟩
    · have b47 : Bd x21 0 0 := Bd.eq_l c23 b22 (Bd.lit 0 0 (by decide)) 0 0 (by decide)
      exact J.sub [0] rfl (J16)

abbrev rm_X8_tellMost : Room := { frames := 5, cells := 0, slots := 0, locals := 110 }
set_option maxHeartbeats 4000000 in
set_option maxRecDepth 100000 in
theorem ct_X8_tellMost (l : Launch) (D : va_G) (dA : Nat → ClassId) (G : Gm) (v : Mv) (w : Mw) (hOk : Ok G v w) (h0 : Nat) (S0 : S_X8 G h0) (x_0 : Int32) (bx_0 : Bd x_0 1 60) : CtV l yX8_tellMost cX8_tellMost 9 none rm_X8_tellMost D dA G [.ref h0, .int x_0] v w (fun v1 w1 => Ok G v1 w1 ∧ Kp G v v1 ∧ Fr G [107, 1124] v v1) := by
  refine CtV.of RX8 [(0, .ref h0), (1, .int x_0)] (Nat.le_of_ble_eq_true rfl) rfl (by decide) rfl ?_
  intro p e s m args below meth c E hr
  have J148 : ∀ n148 : Nat, ∀ (v1 : Mv) (w2 : Mw), Ok G v1 w2 → Kp G v v1 → Fr G [107, 1124] v v1 → ∀ x6 : Int32, Bd x6 1 128 → ∀ x8 : Int32, Bd x8 (-1) 6 → Md x8 (-1) n148 → J p l e rm_X8_tellMost s m args below meth c 0 0 (MQ below (QcV D dA G (fun v1 w1 => Ok G v1 w1 ∧ Kp G v v1 ∧ Fr G [107, 1124] v v1)) args s 0 0 (dm G)) D dA G (dm G) s.heap 9 v1 w2 [(0, .ref h0), (2, .int x6), (3, .int x8)] 148 [] := by
    intro n148
    induction n148 with
    | zero => intro v1 w2 o3 k4 f5 x6 b7 x8 b9 hm; exact hm.zero b9 (by decide)
    | succ n148 ih148 =>
      intro v1 w2 o3 k4 f5 x6 b7 x8 b9 hmu148
      have J155 : ∀ n155 : Nat, ∀ (v10 : Mv) (w11 : Mw), Ok G v10 w11 → Kp G v v10 → Fr G [107, 1124] v v10 → Bd x6 1 128 → Bd x8 0 6 → ∀ x17 : Int32, Bd x17 0 128 → Mu x17 128 n155 → J p l e rm_X8_tellMost s m args below meth c 0 0 (MQ below (QcV D dA G (fun v1 w1 => Ok G v1 w1 ∧ Kp G v v1 ∧ Fr G [107, 1124] v v1)) args s 0 0 (dm G)) D dA G (dm G) s.heap 9 v10 w11 [(0, .ref h0), (2, .int x6), (3, .int x8), (4, .int x17)] 155 [] := by
        intro n155
        induction n155 with
        | zero => intro v10 w11 o12 k13 f14 b15 b16 x17 b18 hm; exact hm.zero b18 (by decide)
        | succ n155 ih155 =>
          intro v10 w11 o12 k13 f14 b15 b16 x17 b18 hmu155
          have J388 : ∀ (v19 : Mv) (w20 : Mw), Ok G v19 w20 → Kp G v v19 → Fr G [107, 1124] v v19 → Bd x6 1 128 → Bd x8 0 6 → Bd x17 0 127 → ∀ x27 : Int32, Bd x27 I0 100000 → ∀ x29 : Int32, Bd x29 0 895 → J p l e rm_X8_tellMost s m args below meth c 0 0 (MQ below (QcV D dA G (fun v1 w1 => Ok G v1 w1 ∧ Kp G v v1 ∧ Fr G [107, 1124] v v1)) args s 0 0 (dm G)) D dA G (dm G) s.heap 9 v19 w20 [(0, .ref h0), (2, .int x6), (3, .int x8), (4, .int x17)] 388 [.int x27, .int x29, .ref (rf G h0 13)] := by
            intro v19 w20 o21 k22 f23 b24 b25 b26 x27 b28 x29 b30
            refine J_iast1 E (S_X8.f13 S0) (Bd.in b30 (by decide)) dX8_tellMost_388 (fun v31 e32 => ?_)
            have o33 : Ok G v31 w20 := by rw [e32]; exact Ok.sv o21 (S_X8.f13 S0) b30 b28 0 896 (by decide) (by decide +kernel)
            have k34 : Kp G v v31 := by rw [e32]; exact Kp.sv k22 (S_X8.f13 S0) b30 0 896 I0 100000 (by decide) (by decide +kernel)
            have f35 : Fr G [107, 1124] v v31 := Fr.st f23 e32 (S_X8.f13 S0) rfl
            refine J_iinc E 3 1 (fun z => [(4, .int z), (0, .ref h0), (2, .int x6), (3, .int x8)]) dX8_tellMost_389 rfl (by decide) (by decide) (fun _ => rfl) (fun x36 e37 => ?_)
            have b38 : Bd x36 1 128 := (Bd.add e37 b26 (Bd.lit 1 1 (by decide)) (by decide)).w _ _ (by decide)
            refine J_goto E 155 dX8_tellMost_392 (by decide) ?_
            exact J.sub [1, 2, 3, 0] rfl (ih155 v31 w20 (o33) (k34) f35 b24 b25 x36 (b38.w 0 128 (by decide)) (Mu.step hmu155 e37 b26 (Bd.lit 1 1 (by decide)) (by decide)))
          have J211 : ∀ n211 : Nat, Bd x6 1 128 → Bd x8 0 6 → Bd x17 0 127 → ∀ x42 : Int32, ∀ x43 : Int32, ∀ x44 : Int32, Bd x44 0 7 → Mu x44 7 n211 → J p l e rm_X8_tellMost s m args below meth c 0 0 (MQ below (QcV D dA G (fun v1 w1 => Ok G v1 w1 ∧ Kp G v v1 ∧ Fr G [107, 1124] v v1)) args s 0 0 (dm G)) D dA G (dm G) s.heap 9 v10 w11 [(0, .ref h0), (2, .int x6), (3, .int x8), (4, .int x17), (5, .int x42), (6, .int x43), (7, .int x44)] 211 [] := by
            intro n211
            induction n211 with
            | zero => intro b39 b40 b41 x42 x43 x44 b45 hm; exact hm.zero b45 (by decide)
            | succ n211 ih211 =>
              intro b39 b40 b41 x42 x43 x44 b45 hmu211
              have J341 : Bd x6 1 128 → Bd x8 0 6 → Bd x17 0 127 → ∀ x49 : Int32, ∀ x50 : Int32, Bd x44 0 6 → J p l e rm_X8_tellMost s m args below meth c 0 0 (MQ below (QcV D dA G (fun v1 w1 => Ok G v1 w1 ∧ Kp G v v1 ∧ Fr G [107, 1124] v v1)) args s 0 0 (dm G)) D dA G (dm G) s.heap 9 v10 w11 [(0, .ref h0), (2, .int x6), (3, .int x8), (4, .int x17), (5, .int x49), (6, .int x50), (7, .int x44)] 341 [] := by
                intro b46 b47 b48 x49 x50 b51
                refine J_iinc E 6 1 (fun z => [(7, .int z), (0, .ref h0), (2, .int x6), (3, .int x8), (4, .int x17), (5, .int x49), (6, .int x50)]) dX8_tellMost_341 rfl (by decide) (by decide) (fun _ => rfl) (fun x52 e53 => ?_)
                have b54 : Bd x52 1 7 := (Bd.add e53 b51 (Bd.lit 1 1 (by decide)) (by decide)).w _ _ (by decide)
                refine J_goto E 211 dX8_tellMost_344 (by decide) ?_
                exact J.sub [1, 2, 3, 4, 5, 6, 0] rfl (ih211 b46 b47 b48 x49 x50 x52 (b54.w 0 7 (by decide)) (Mu.step hmu211 e53 b51 (Bd.lit 1 1 (by decide)) (by decide)))
              have J339 : Bd x6 1 128 → Bd x8 0 6 → Bd x17 0 127 → ∀ x58 : Int32, Bd x44 0 6 → ∀ x60 : Int32, J p l e rm_X8_tellMost s m args below meth c 0 0 (MQ below (QcV D dA G (fun v1 w1 => Ok G v1 w1 ∧ Kp G v v1 ∧ Fr G [107, 1124] v v1)) args s 0 0 (dm G)) D dA G (dm G) s.heap 9 v10 w11 [(0, .ref h0), (2, .int x6), (3, .int x8), (4, .int x17), (5, .int x58), (7, .int x44)] 339 [.int x60] := by
                intro b55 b56 b57 x58 b59 x60
                refine J_istore E [(6, .int x60), (0, .ref h0), (2, .int x6), (3, .int x8), (4, .int x17), (5, .int x58), (7, .int x44)] dX8_tellMost_339 (by decide) rfl ?_
                exact J.sub [1, 2, 3, 4, 5, 0, 6] rfl (J341 b55 b56 b57 x58 x60 b59)
              have J291 : Bd x6 1 128 → Bd x8 0 6 → Bd x17 0 127 → Bd x44 0 6 → ∀ x65 : Int32, Bd x65 128 1023 → ∀ x67 : Int32, J p l e rm_X8_tellMost s m args below meth c 0 0 (MQ below (QcV D dA G (fun v1 w1 => Ok G v1 w1 ∧ Kp G v v1 ∧ Fr G [107, 1124] v v1)) args s 0 0 (dm G)) D dA G (dm G) s.heap 9 v10 w11 [(0, .ref h0), (2, .int x6), (3, .int x8), (4, .int x17), (6, .int x43), (7, .int x44), (8, .int x65)] 291 [.int x67] := by
                intro b61 b62 b63 b64 x65 b66 x67
                refine J_istore E [(5, .int x67), (0, .ref h0), (2, .int x6), (3, .int x8), (4, .int x17), (6, .int x43), (7, .int x44), (8, .int x65)] dX8_tellMost_291 (by decide) rfl ?_
                refine J_aload_n E dX8_tellMost_293 1 rfl ?_
                refine J_getR E in_X8 rfl (S_X8.h S0) 1 (by decide) wd936 rfl dX8_tellMost_294 ?_
                refine J_bipush E 13 dX8_tellMost_297 (by decide) ?_
                refine J_iload E dX8_tellMost_299 6 rfl ?_
                refine J_iadd E dX8_tellMost_301 (fun x68 e69 => ?_)
                have b70 : Bd x68 13 19 := (Bd.add e69 (Bd.lit 13 13 (by decide)) b64 (by decide)).w _ _ (by decide)
                refine J_iald1 E (S_X8.f1 S0) (Bd.in b70 (by decide)) dX8_tellMost_302 (fun x71 e72 => ?_)
                refine J_aload_n E dX8_tellMost_303 1 rfl ?_
                refine J_getR E in_X8 rfl (S_X8.h S0) 13 (by decide) wd948 rfl dX8_tellMost_304 ?_
                refine J_iload E dX8_tellMost_307 7 rfl ?_
                refine J_iald1 E (S_X8.f13 S0) (Bd.in b66 (by decide)) dX8_tellMost_309 (fun x73 e74 => ?_)
                refine J_iadd E dX8_tellMost_310 (fun x75 e76 => ?_)
                refine J_iload E dX8_tellMost_311 5 rfl ?_
                refine J_icmp_ge E 337 dX8_tellMost_313 (by decide) (fun c77 => ?_) (fun c77 => ?_)
                · refine J_iload E dX8_tellMost_337 5 rfl ?_
                  exact J.sub [1, 2, 3, 4, 0, 6] rfl (J339 b61 b62 b63 x67 b64 x43)
                · refine J_aload_n E dX8_tellMost_316 1 rfl ?_
                  refine J_getR E in_X8 rfl (S_X8.h S0) 1 (by decide) wd936 rfl dX8_tellMost_317 ?_
                  refine J_bipush E 13 dX8_tellMost_320 (by decide) ?_
                  refine J_iload E dX8_tellMost_322 6 rfl ?_
                  refine J_iadd E dX8_tellMost_324 (fun x78 e79 => ?_)
                  have b80 : Bd x78 13 19 := (Bd.add e79 (Bd.lit 13 13 (by decide)) b64 (by decide)).w _ _ (by decide)
                  refine J_iald1 E (S_X8.f1 S0) (Bd.in b80 (by decide)) dX8_tellMost_325 (fun x81 e82 => ?_)
                  refine J_aload_n E dX8_tellMost_326 1 rfl ?_
                  refine J_getR E in_X8 rfl (S_X8.h S0) 13 (by decide) wd948 rfl dX8_tellMost_327 ?_
                  refine J_iload E dX8_tellMost_330 7 rfl ?_
                  refine J_iald1 E (S_X8.f13 S0) (Bd.in b66 (by decide)) dX8_tellMost_332 (fun x83 e84 => ?_)
                  refine J_iadd E dX8_tellMost_333 (fun x85 e86 => ?_)
                  refine J_goto E 339 dX8_tellMost_334 (by decide) ?_
                  exact J.sub [1, 2, 3, 4, 0, 6] rfl (J339 b61 b62 b63 x67 b64 x85)
              refine J_iload E dX8_tellMost_211 6 rfl ?_
              refine J_aload_n E dX8_tellMost_213 0 rfl ?_
              refine J_getR E in_X8 rfl (S_X8.h S0) 1 (by decide) wd936 rfl dX8_tellMost_214 ?_
              refine J_iconst E 0 dX8_tellMost_217 (by decide) ?_
              refine J_iald1 E (S_X8.f1 S0) (Bd.in (Bd.lit 0 0 (by decide)) (by decide)) dX8_tellMost_218 (fun x87 e88 => ?_)
              have b89 : Bd x87 0 7 := Bd.e (Ok.ld o12 (S_X8.f1 S0) (Bd.lit 0 0 (by decide)) 0 1 0 7 (by decide) (by decide +kernel)) e88
              have e90 : x87 = v10 (rf G h0 1) 0 := by rw [e88, Bd.ix (Bd.lit 0 0 (by decide)) 0 rfl]
              refine J_icmp_ge E 347 dX8_tellMost_219 (by decide) (fun c91 => ?_) (fun c91 => ?_)
              · refine J_aload_n E dX8_tellMost_347 0 rfl ?_
                refine J_getR E in_X8 rfl (S_X8.h S0) 12 (by decide) wd947 rfl dX8_tellMost_348 ?_
                refine J_sipush E 128 dX8_tellMost_351 (by decide) ?_
                refine J_iload_n E dX8_tellMost_354 2 rfl ?_
                refine J_imul E dX8_tellMost_355 (fun x92 e93 => ?_)
                have b94 : Bd x92 0 768 := Bd.mul e93 (Bd.lit 128 128 (by decide)) b40 (by decide)
                refine J_iload E dX8_tellMost_356 3 rfl ?_
                refine J_iadd E dX8_tellMost_358 (fun x95 e96 => ?_)
                have b97 : Bd x95 0 895 := (Bd.add e96 b94 b41 (by decide)).w _ _ (by decide)
                refine J_iload E dX8_tellMost_359 4 rfl ?_
                refine J_iast1 E (S_X8.f12 S0) (Bd.in b97 (by decide)) dX8_tellMost_361 (fun v98 e99 => ?_)
                have o100 : Ok G v98 w11 := by rw [e99]; exact Ok.sv o12 (S_X8.f12 S0) b97 (Bd.any x42) 0 896 (by decide) (by decide +kernel)
                have k101 : Kp G v v98 := by rw [e99]; exact Kp.sv k13 (S_X8.f12 S0) b97 0 896 I0 I1 (by decide) (by decide +kernel)
                have f102 : Fr G [107, 1124] v v98 := Fr.st f14 e99 (S_X8.f12 S0) rfl
                have e103 : x87 = v98 (rf G h0 1) 0 := by rw [e99, stv_a (tg_ne ((S_X8.f1 S0)) ((S_X8.f12 S0)) rfl)]; exact e90
                refine J_aload_n E dX8_tellMost_362 0 rfl ?_
                refine J_getR E in_X8 rfl (S_X8.h S0) 13 (by decide) wd948 rfl dX8_tellMost_363 ?_
                refine J_sipush E 128 dX8_tellMost_366 (by decide) ?_
                refine J_iload_n E dX8_tellMost_369 2 rfl ?_
                refine J_imul E dX8_tellMost_370 (fun x104 e105 => ?_)
                have b106 : Bd x104 0 768 := Bd.mul e105 (Bd.lit 128 128 (by decide)) b40 (by decide)
                refine J_iload E dX8_tellMost_371 3 rfl ?_
                refine J_iadd E dX8_tellMost_373 (fun x107 e108 => ?_)
                have b109 : Bd x107 0 895 := (Bd.add e108 b106 b41 (by decide)).w _ _ (by decide)
                refine J_iload E dX8_tellMost_374 5 rfl ?_
                refine J_ldc E wd1223 dX8_tellMost_376 ?_
                refine J_icmp_le E 386 dX8_tellMost_378 (by decide) (fun c110 => ?_) (fun c110 => ?_)
                · have b111 : Bd x43 I0 100000 := Bd.le_l c110 (Bd.any x43) (Bd.lit 100000 100000 (by decide)) 100000 (by decide)
                  refine J_iload E dX8_tellMost_386 5 rfl ?_
                  exact J.sub [0, 1, 2, 3] rfl (J388 v98 w11 (o100) (k101) f102 b39 b40 b41 x43 b111 x107 b109)
                · have b112 : Bd x43 100001 I1 := Bd.lt_r (nle c110) (Bd.lit 100000 100000 (by decide)) (Bd.any x43) 100001 (by decide)
                  refine J_ldc E wd1223 dX8_tellMost_381 ?_
                  refine J_goto E 388 dX8_tellMost_383 (by decide) ?_
                  exact J.sub [0, 1, 2, 3] rfl (J388 v98 w11 (o100) (k101) f102 b39 b40 b41 100000 ((Bd.lit 100000 100000 (by decide)).w I0 100000 (by decide)) x107 b109)
              · have b113 : Bd x44 0 6 := Bd.lt_l (nle c91) b45 b89 6 (by decide)
                have b114 : Bd x87 1 7 := Bd.lt_r (nle c91) b45 b89 1 (by decide)
                refine J_aload_n E dX8_tellMost_222 0 rfl ?_
                refine J_getR E in_X8 rfl (S_X8.h S0) 14 (by decide) wd949 rfl dX8_tellMost_223 ?_
                refine J_iload_n E dX8_tellMost_226 2 rfl ?_
                refine J_iald1 E (S_X8.f14 S0) (Bd.in b40 (by decide)) dX8_tellMost_227 (fun x115 e116 => ?_)
                refine J_iload E dX8_tellMost_228 6 rfl ?_
                refine J_callSI E cal_X8_has wd1075 [.int x115, .int x44] [] (ct_X8_has l D dA G v10 w11 (o12) x115 x44 (b113.w 0 9 (by decide))) rfl rfl (Nat.le_of_ble_eq_true rfl) ⟨rfl, rfl⟩ ⟨Nat.le_of_ble_eq_true rfl, Nat.le_of_ble_eq_true rfl⟩ dX8_tellMost_230 (fun x120 v117 w118 p119 => ?_)
                rw [p119.1, p119.2.1]
                have b121 : Bd x120 0 1 := p119.2.2.1
                refine J_if_eq E 341 dX8_tellMost_233 (by decide) (fun c122 => ?_) (fun c122 => ?_)
                · have b123 : Bd x120 0 0 := Bd.eq_l c122 b121 (Bd.lit 0 0 (by decide)) 0 0 (by decide)
                  exact J.sub [0, 1, 2, 3, 4, 5, 6] rfl (J341 b39 b40 b41 x42 x43 b113)
                · have b124 : Bd x120 1 1 := (Bd.ne_lo c122 b121 (Bd.lit 0 0 (by decide))).w _ _ (by decide)
                  refine J_iload E dX8_tellMost_236 3 rfl ?_
                  refine J_iload E dX8_tellMost_238 6 rfl ?_
                  refine J_callSI E cal_X8_has wd1075 [.int x17, .int x44] [] (ct_X8_has l D dA G v10 w11 (o12) x17 x44 (b113.w 0 9 (by decide))) rfl rfl (Nat.le_of_ble_eq_true rfl) ⟨rfl, rfl⟩ ⟨Nat.le_of_ble_eq_true rfl, Nat.le_of_ble_eq_true rfl⟩ dX8_tellMost_240 (fun x128 v125 w126 p127 => ?_)
                  rw [p127.1, p127.2.1]
                  have b129 : Bd x128 0 1 := p127.2.2.1
                  refine J_if_ne E 341 dX8_tellMost_243 (by decide) (fun c130 => ?_) (fun c130 => ?_)
                  · have b131 : Bd x128 1 1 := (Bd.ne_lo c130 b129 (Bd.lit 0 0 (by decide))).w _ _ (by decide)
                    exact J.sub [0, 1, 2, 3, 4, 5, 6] rfl (J341 b39 b40 b41 x42 x43 b113)
                  · have b132 : Bd x128 0 0 := Bd.eq_l c130 b129 (Bd.lit 0 0 (by decide)) 0 0 (by decide)
                    refine J_sipush E 128 dX8_tellMost_246 (by decide) ?_
                    refine J_iload_n E dX8_tellMost_249 2 rfl ?_
                    refine J_iconst E 1 dX8_tellMost_250 (by decide) ?_
                    refine J_iadd E dX8_tellMost_251 (fun x133 e134 => ?_)
                    have b135 : Bd x133 1 7 := (Bd.add e134 b40 (Bd.lit 1 1 (by decide)) (by decide)).w _ _ (by decide)
                    refine J_imul E dX8_tellMost_252 (fun x136 e137 => ?_)
                    have b138 : Bd x136 128 896 := Bd.mul e137 (Bd.lit 128 128 (by decide)) b135 (by decide)
                    refine J_iload E dX8_tellMost_253 3 rfl ?_
                    refine J_iconst E 1 dX8_tellMost_255 (by decide) ?_
                    refine J_iload E dX8_tellMost_256 6 rfl ?_
                    refine J_ishl E dX8_tellMost_258 (fun x139 e140 => ?_)
                    have b141 : Bd x139 1 64 := Bd.shl1 e140 b113 6 (by decide)
                    refine J_ior E dX8_tellMost_259 (fun x142 e143 => ?_)
                    have b144 : Bd x142 0 127 := Bd.or e143 b41 b141 7 (by decide)
                    refine J_iadd E dX8_tellMost_260 (fun x145 e146 => ?_)
                    have b147 : Bd x145 128 1023 := (Bd.add e146 b138 b144 (by decide)).w _ _ (by decide)
                    refine J_istore E [(8, .int x145), (0, .ref h0), (2, .int x6), (3, .int x8), (4, .int x17), (5, .int x42), (6, .int x43), (7, .int x44)] dX8_tellMost_261 (by decide) rfl ?_
                    refine J_iconst E 1 dX8_tellMost_263 (by decide) ?_
                    refine J_aload_n E dX8_tellMost_264 1 rfl ?_
                    refine J_getR E in_X8 rfl (S_X8.h S0) 12 (by decide) wd947 rfl dX8_tellMost_265 ?_
                    refine J_iload E dX8_tellMost_268 0 rfl ?_
                    refine J_iald1 E (S_X8.f12 S0) (Bd.in b147 (by decide)) dX8_tellMost_270 (fun x148 e149 => ?_)
                    refine J_iadd E dX8_tellMost_271 (fun x150 e151 => ?_)
                    refine J_iload E dX8_tellMost_272 5 rfl ?_
                    refine J_icmp_le E 289 dX8_tellMost_274 (by decide) (fun c152 => ?_) (fun c152 => ?_)
                    · refine J_iload E dX8_tellMost_289 5 rfl ?_
                      exact J.sub [1, 2, 3, 4, 6, 7, 0] rfl (J291 b39 b40 b41 b113 x145 b147 x42)
                    · refine J_iconst E 1 dX8_tellMost_277 (by decide) ?_
                      refine J_aload_n E dX8_tellMost_278 1 rfl ?_
                      refine J_getR E in_X8 rfl (S_X8.h S0) 12 (by decide) wd947 rfl dX8_tellMost_279 ?_
                      refine J_iload E dX8_tellMost_282 0 rfl ?_
                      refine J_iald1 E (S_X8.f12 S0) (Bd.in b147 (by decide)) dX8_tellMost_284 (fun x153 e154 => ?_)
                      refine J_iadd E dX8_tellMost_285 (fun x155 e156 => ?_)
                      refine J_goto E 291 dX8_tellMost_286 (by decide) ?_
                      exact J.sub [1, 2, 3, 4, 6, 7, 0] rfl (J291 b39 b40 b41 b113 x145 b147 x155)
          have J206 : Bd x6 1 128 → Bd x8 0 6 → Bd x17 0 127 → ∀ x160 : Int32, ∀ x161 : Int32, J p l e rm_X8_tellMost s m args below meth c 0 0 (MQ below (QcV D dA G (fun v1 w1 => Ok G v1 w1 ∧ Kp G v v1 ∧ Fr G [107, 1124] v v1)) args s 0 0 (dm G)) D dA G (dm G) s.heap 9 v10 w11 [(0, .ref h0), (2, .int x6), (3, .int x8), (4, .int x17), (5, .int x160)] 206 [.int x161] := by
            intro b157 b158 b159 x160 x161
            refine J_istore E [(6, .int x161), (0, .ref h0), (2, .int x6), (3, .int x8), (4, .int x17), (5, .int x160)] dX8_tellMost_206 (by decide) rfl ?_
            refine J_iconst E 0 dX8_tellMost_208 (by decide) ?_
            refine J_istore E [(7, .int 0), (6, .int x161), (0, .ref h0), (2, .int x6), (3, .int x8), (4, .int x17), (5, .int x160)] dX8_tellMost_209 (by decide) rfl ?_
            exact J.sub [2, 3, 4, 5, 6, 1, 0] rfl (J211 8 b157 b158 b159 x160 x161 0 ((Bd.lit 0 0 (by decide)).w 0 7 (by decide)) (Mu.start _ (Bd.lit 0 0 (by decide)) (by decide)))
          refine J_iload E dX8_tellMost_155 3 rfl ?_
          refine J_iload_n E dX8_tellMost_157 1 rfl ?_
          refine J_icmp_ge E 395 dX8_tellMost_158 (by decide) (fun c162 => ?_) (fun c162 => ?_)
          · have b163 : Bd x17 1 128 := Bd.le_r c162 b15 b18 1 (by decide)
            refine J_iinc E 2 (-1) (fun z => [(3, .int z), (0, .ref h0), (2, .int x6), (4, .int x17)]) dX8_tellMost_395 rfl (by decide) (by decide) (fun _ => rfl) (fun x164 e165 => ?_)
            have b166 : Bd x164 (-1) 5 := (Bd.add e165 b16 (Bd.lit (-1) (-1) (by decide)) (by decide)).w _ _ (by decide)
            refine J_goto E 148 dX8_tellMost_398 (by decide) ?_
            exact J.sub [1, 2, 0] rfl (ih148 v10 w11 (o12) (k13) f14 x6 b15 x164 (b166.w (-1) 6 (by decide)) (Md.step hmu148 e165 b16 (Bd.lit (-1) (-1) (by decide)) (by decide)))
          · have b167 : Bd x17 0 127 := Bd.lt_l (nle c162) b18 b15 127 (by decide)
            refine J_aload_n E dX8_tellMost_161 0 rfl ?_
            refine J_getR E in_X8 rfl (S_X8.h S0) 12 (by decide) wd947 rfl dX8_tellMost_162 ?_
            refine J_sipush E 128 dX8_tellMost_165 (by decide) ?_
            refine J_iload_n E dX8_tellMost_168 2 rfl ?_
            refine J_iconst E 1 dX8_tellMost_169 (by decide) ?_
            refine J_iadd E dX8_tellMost_170 (fun x168 e169 => ?_)
            have b170 : Bd x168 1 7 := (Bd.add e169 b16 (Bd.lit 1 1 (by decide)) (by decide)).w _ _ (by decide)
            refine J_imul E dX8_tellMost_171 (fun x171 e172 => ?_)
            have b173 : Bd x171 128 896 := Bd.mul e172 (Bd.lit 128 128 (by decide)) b170 (by decide)
            refine J_iload E dX8_tellMost_172 3 rfl ?_
            refine J_iadd E dX8_tellMost_174 (fun x174 e175 => ?_)
            have b176 : Bd x174 128 1023 := (Bd.add e175 b173 b167 (by decide)).w _ _ (by decide)
            refine J_iald1 E (S_X8.f12 S0) (Bd.in b176 (by decide)) dX8_tellMost_175 (fun x177 e178 => ?_)
            refine J_istore E [(5, .int x177), (0, .ref h0), (2, .int x6), (3, .int x8), (4, .int x17)] dX8_tellMost_176 (by decide) rfl ?_
            refine J_aload_n E dX8_tellMost_178 1 rfl ?_
            refine J_iload_n E dX8_tellMost_179 3 rfl ?_
            refine J_callVI E cal_X8_isLost wd1128 rfl (S_X8.h S0) [.int x8] [] (ct_X8_isLost l D dA G v10 w11 (o12) h0 S0 x8 b16) rfl rfl (Nat.le_of_ble_eq_true rfl) ⟨rfl, rfl⟩ ⟨Nat.le_of_ble_eq_true rfl, Nat.le_of_ble_eq_true rfl⟩ dX8_tellMost_180 (fun x182 v179 w180 p181 => ?_)
            rw [p181.1, p181.2.1]
            have b183 : Bd x182 0 1 := p181.2.2.1
            refine J_if_eq E 204 dX8_tellMost_183 (by decide) (fun c184 => ?_) (fun c184 => ?_)
            · have b185 : Bd x182 0 0 := Bd.eq_l c184 b183 (Bd.lit 0 0 (by decide)) 0 0 (by decide)
              refine J_ldc E wd1223 dX8_tellMost_204 ?_
              exact J.sub [1, 2, 3, 4, 0] rfl (J206 b15 b16 b167 x177 100000)
            · have b186 : Bd x182 1 1 := (Bd.ne_lo c184 b183 (Bd.lit 0 0 (by decide))).w _ _ (by decide)
              refine J_aload_n E dX8_tellMost_186 1 rfl ?_
              refine J_getR E in_X8 rfl (S_X8.h S0) 13 (by decide) wd948 rfl dX8_tellMost_187 ?_
              refine J_sipush E 128 dX8_tellMost_190 (by decide) ?_
              refine J_iload_n E dX8_tellMost_193 3 rfl ?_
              refine J_iconst E 1 dX8_tellMost_194 (by decide) ?_
              refine J_iadd E dX8_tellMost_195 (fun x187 e188 => ?_)
              have b189 : Bd x187 1 7 := (Bd.add e188 b16 (Bd.lit 1 1 (by decide)) (by decide)).w _ _ (by decide)
              refine J_imul E dX8_tellMost_196 (fun x190 e191 => ?_)
              have b192 : Bd x190 128 896 := Bd.mul e191 (Bd.lit 128 128 (by decide)) b189 (by decide)
              refine J_iload E dX8_tellMost_197 4 rfl ?_
              refine J_iadd E dX8_tellMost_199 (fun x193 e194 => ?_)
              have b195 : Bd x193 128 1023 := (Bd.add e194 b192 b167 (by decide)).w _ _ (by decide)
              refine J_iald1 E (S_X8.f13 S0) (Bd.in b195 (by decide)) dX8_tellMost_200 (fun x196 e197 => ?_)
              refine J_goto E 206 dX8_tellMost_201 (by decide) ?_
              exact J.sub [1, 2, 3, 4, 0] rfl (J206 b15 b16 b167 x177 x196)
      refine J_iload_n E dX8_tellMost_148 2 rfl ?_
      refine J_if_lt E 401 dX8_tellMost_149 (by decide) (fun c198 => ?_) (fun c198 => ?_)
      · have b199 : Bd x8 (-1) (-1) := Bd.lt_l c198 b9 (Bd.lit 0 0 (by decide)) (-1) (by decide)
        exact J_vret E hr dX8_tellMost_401 ⟨o3, k4, f5⟩
      · have b200 : Bd x8 0 6 := Bd.le_r (nlt c198) (Bd.lit 0 0 (by decide)) b9 0 (by decide)
        refine J_iconst E 0 dX8_tellMost_152 (by decide) ?_
        refine J_istore E [(4, .int 0), (0, .ref h0), (2, .int x6), (3, .int x8)] dX8_tellMost_153 (by decide) rfl ?_
        exact J.sub [1, 2, 3, 0] rfl (J155 129 v1 w2 (o3) (k4) f5 b7 b200 0 ((Bd.lit 0 0 (by decide)).w 0 128 (by decide)) (Mu.start _ (Bd.lit 0 0 (by decide)) (by decide)))
  have J92 : ∀ n92 : Nat, ∀ (v201 : Mv) (w202 : Mw), Ok G v201 w202 → Kp G v v201 → Fr G [107, 1124] v v201 → ∀ x206 : Int32, Bd x206 1 128 → ∀ x208 : Int32, Bd x208 0 128 → Mu x208 128 n92 → J p l e rm_X8_tellMost s m args below meth c 0 0 (MQ below (QcV D dA G (fun v1 w1 => Ok G v1 w1 ∧ Kp G v v1 ∧ Fr G [107, 1124] v v1)) args s 0 0 (dm G)) D dA G (dm G) s.heap 9 v201 w202 [(0, .ref h0), (2, .int x206), (3, .int x208)] 92 [] := by
    intro n92
    induction n92 with
    | zero => intro v201 w202 o203 k204 f205 x206 b207 x208 b209 hm; exact hm.zero b209 (by decide)
    | succ n92 ih92 =>
      intro v201 w202 o203 k204 f205 x206 b207 x208 b209 hmu92
      refine J_iload_n E dX8_tellMost_92 2 rfl ?_
      refine J_iload_n E dX8_tellMost_93 1 rfl ?_
      refine J_icmp_ge E 139 dX8_tellMost_94 (by decide) (fun c210 => ?_) (fun c210 => ?_)
      · have b211 : Bd x208 1 128 := Bd.le_r c210 b207 b209 1 (by decide)
        refine J_aload_n E dX8_tellMost_139 0 rfl ?_
        refine J_getR E in_X8 rfl (S_X8.h S0) 1 (by decide) wd936 rfl dX8_tellMost_140 ?_
        refine J_iconst E 1 dX8_tellMost_143 (by decide) ?_
        refine J_iald1 E (S_X8.f1 S0) (Bd.in (Bd.lit 1 1 (by decide)) (by decide)) dX8_tellMost_144 (fun x212 e213 => ?_)
        have b214 : Bd x212 0 7 := Bd.e (Ok.ld o203 (S_X8.f1 S0) (Bd.lit 1 1 (by decide)) 1 1 0 7 (by decide) (by decide +kernel)) e213
        have e215 : x212 = v201 (rf G h0 1) 1 := by rw [e213, Bd.ix (Bd.lit 1 1 (by decide)) 1 rfl]
        refine J_iconst E 1 dX8_tellMost_145 (by decide) ?_
        refine J_isub E dX8_tellMost_146 (fun x216 e217 => ?_)
        have b218 : Bd x216 (-1) 6 := (Bd.sub e217 b214 (Bd.lit 1 1 (by decide)) (by decide)).w _ _ (by decide)
        refine J_istore_n E [(3, .int x216), (0, .ref h0), (2, .int x206)] dX8_tellMost_147 rfl (by decide) rfl ?_
        exact J.sub [1, 2, 0] rfl (J148 8 v201 w202 (o203) (k204) f205 x206 b207 x216 b218 (Md.start _ b218 (by decide)))
      · have b219 : Bd x208 0 127 := Bd.lt_l (nle c210) b209 b207 127 (by decide)
        refine J_aload_n E dX8_tellMost_97 0 rfl ?_
        refine J_getR E in_X8 rfl (S_X8.h S0) 12 (by decide) wd947 rfl dX8_tellMost_98 ?_
        refine J_sipush E 128 dX8_tellMost_101 (by decide) ?_
        refine J_aload_n E dX8_tellMost_104 0 rfl ?_
        refine J_getR E in_X8 rfl (S_X8.h S0) 1 (by decide) wd936 rfl dX8_tellMost_105 ?_
        refine J_iconst E 1 dX8_tellMost_108 (by decide) ?_
        refine J_iald1 E (S_X8.f1 S0) (Bd.in (Bd.lit 1 1 (by decide)) (by decide)) dX8_tellMost_109 (fun x220 e221 => ?_)
        have b222 : Bd x220 0 7 := Bd.e (Ok.ld o203 (S_X8.f1 S0) (Bd.lit 1 1 (by decide)) 1 1 0 7 (by decide) (by decide +kernel)) e221
        have e223 : x220 = v201 (rf G h0 1) 1 := by rw [e221, Bd.ix (Bd.lit 1 1 (by decide)) 1 rfl]
        refine J_imul E dX8_tellMost_110 (fun x224 e225 => ?_)
        have b226 : Bd x224 0 896 := Bd.mul e225 (Bd.lit 128 128 (by decide)) b222 (by decide)
        refine J_iload_n E dX8_tellMost_111 2 rfl ?_
        refine J_iadd E dX8_tellMost_112 (fun x227 e228 => ?_)
        have b229 : Bd x227 0 1023 := (Bd.add e228 b226 b219 (by decide)).w _ _ (by decide)
        refine J_iconst E 0 dX8_tellMost_113 (by decide) ?_
        refine J_iast1 E (S_X8.f12 S0) (Bd.in b229 (by decide)) dX8_tellMost_114 (fun v230 e231 => ?_)
        have o232 : Ok G v230 w202 := by rw [e231]; exact Ok.sv o203 (S_X8.f12 S0) b229 (Bd.lit 0 0 (by decide)) 0 1024 (by decide) (by decide +kernel)
        have k233 : Kp G v v230 := by rw [e231]; exact Kp.sv k204 (S_X8.f12 S0) b229 0 1024 0 0 (by decide) (by decide +kernel)
        have f234 : Fr G [107, 1124] v v230 := Fr.st f205 e231 (S_X8.f12 S0) rfl
        have e235 : x220 = v230 (rf G h0 1) 1 := by rw [e231, stv_a (tg_ne ((S_X8.f1 S0)) ((S_X8.f12 S0)) rfl)]; exact e223
        refine J_aload_n E dX8_tellMost_115 0 rfl ?_
        refine J_getR E in_X8 rfl (S_X8.h S0) 13 (by decide) wd948 rfl dX8_tellMost_116 ?_
        refine J_sipush E 128 dX8_tellMost_119 (by decide) ?_
        refine J_aload_n E dX8_tellMost_122 0 rfl ?_
        refine J_getR E in_X8 rfl (S_X8.h S0) 1 (by decide) wd936 rfl dX8_tellMost_123 ?_
        refine J_iconst E 1 dX8_tellMost_126 (by decide) ?_
        refine J_iald1 E (S_X8.f1 S0) (Bd.in (Bd.lit 1 1 (by decide)) (by decide)) dX8_tellMost_127 (fun x236 e237 => ?_)
        have b238 : Bd x236 0 7 := Bd.e (Ok.ld o232 (S_X8.f1 S0) (Bd.lit 1 1 (by decide)) 1 1 0 7 (by decide) (by decide +kernel)) e237
        have e237q : x236 = x220 := by rw [e237, Bd.ix (Bd.lit 1 1 (by decide)) 1 rfl]; exact (e235).symm
        rw [e237q]
        refine J_imul E dX8_tellMost_128 (fun x239 e240 => ?_)
        have b241 : Bd x239 0 896 := Bd.mul e240 (Bd.lit 128 128 (by decide)) b222 (by decide)
        refine J_iload_n E dX8_tellMost_129 2 rfl ?_
        refine J_iadd E dX8_tellMost_130 (fun x242 e243 => ?_)
        have b244 : Bd x242 0 1023 := (Bd.add e243 b241 b219 (by decide)).w _ _ (by decide)
        refine J_iconst E 0 dX8_tellMost_131 (by decide) ?_
        refine J_iast1 E (S_X8.f13 S0) (Bd.in b244 (by decide)) dX8_tellMost_132 (fun v245 e246 => ?_)
        have o247 : Ok G v245 w202 := by rw [e246]; exact Ok.sv o232 (S_X8.f13 S0) b244 (Bd.lit 0 0 (by decide)) 0 1024 (by decide) (by decide +kernel)
        have k248 : Kp G v v245 := by rw [e246]; exact Kp.sv k233 (S_X8.f13 S0) b244 0 1024 0 0 (by decide) (by decide +kernel)
        have f249 : Fr G [107, 1124] v v245 := Fr.st f234 e246 (S_X8.f13 S0) rfl
        have e250 : x220 = v245 (rf G h0 1) 1 := by rw [e246, stv_a (tg_ne ((S_X8.f1 S0)) ((S_X8.f13 S0)) rfl)]; exact e235
        refine J_iinc E 2 1 (fun z => [(3, .int z), (0, .ref h0), (2, .int x206)]) dX8_tellMost_133 rfl (by decide) (by decide) (fun _ => rfl) (fun x251 e252 => ?_)
        have b253 : Bd x251 1 128 := (Bd.add e252 b219 (Bd.lit 1 1 (by decide)) (by decide)).w _ _ (by decide)
        refine J_goto E 92 dX8_tellMost_136 (by decide) ?_
        exact J.sub [1, 2, 0] rfl (ih92 v245 w202 (o247) (k248) f249 x206 b207 x251 (b253.w 0 128 (by decide)) (Mu.step hmu92 e252 b219 (Bd.lit 1 1 (by decide)) (by decide)))
  have J11 : ∀ n11 : Nat, ∀ (v254 : Mv) (w255 : Mw), Ok G v254 w255 → Kp G v v254 → Fr G [107, 1124] v v254 → Bd x_0 1 60 → ∀ x260 : Int32, Bd x260 1 128 → ∀ x262 : Int32, Bd x262 0 7 → Mu x262 7 n11 → J p l e rm_X8_tellMost s m args below meth c 0 0 (MQ below (QcV D dA G (fun v1 w1 => Ok G v1 w1 ∧ Kp G v v1 ∧ Fr G [107, 1124] v v1)) args s 0 0 (dm G)) D dA G (dm G) s.heap 9 v254 w255 [(0, .ref h0), (1, .int x_0), (2, .int x260), (3, .int x262)] 11 [] := by
    intro n11
    induction n11 with
    | zero => intro v254 w255 o256 k257 f258 b259 x260 b261 x262 b263 hm; exact hm.zero b263 (by decide)
    | succ n11 ih11 =>
      intro v254 w255 o256 k257 f258 b259 x260 b261 x262 b263 hmu11
      have J31 : ∀ n31 : Nat, ∀ (v264 : Mv) (w265 : Mw), Ok G v264 w265 → Kp G v v264 → Fr G [107, 1124] v v264 → Bd x_0 1 60 → Bd x260 1 128 → Bd x262 0 6 → ∀ x272 : Int32, Bd x272 0 7 → Mu x272 7 n31 → J p l e rm_X8_tellMost s m args below meth c 0 0 (MQ below (QcV D dA G (fun v1 w1 => Ok G v1 w1 ∧ Kp G v v1 ∧ Fr G [107, 1124] v v1)) args s 0 0 (dm G)) D dA G (dm G) s.heap 9 v264 w265 [(0, .ref h0), (1, .int x_0), (2, .int x260), (3, .int x262), (4, .int x272)] 31 [] := by
        intro n31
        induction n31 with
        | zero => intro v264 w265 o266 k267 f268 b269 b270 b271 x272 b273 hm; exact hm.zero b273 (by decide)
        | succ n31 ih31 =>
          intro v264 w265 o266 k267 f268 b269 b270 b271 x272 b273 hmu31
          have J76 : Bd x_0 1 60 → Bd x260 1 128 → Bd x262 0 6 → Bd x272 0 6 → ∀ x278 : Int32, Bd x278 0 64 → ∀ x280 : Int32, J p l e rm_X8_tellMost s m args below meth c 0 0 (MQ below (QcV D dA G (fun v1 w1 => Ok G v1 w1 ∧ Kp G v v1 ∧ Fr G [107, 1124] v v1)) args s 0 0 (dm G)) D dA G (dm G) s.heap 9 v264 w265 [(0, .ref h0), (1, .int x_0), (2, .int x260), (3, .int x262), (4, .int x272)] 76 [.int x278, .int x280, .int x262, .ref (rf G h0 14)] := by
            intro b274 b275 b276 b277 x278 b279 x280
            refine J_ior E dX8_tellMost_76 (fun x281 e282 => ?_)
            refine J_iast1 E (S_X8.f14 S0) (Bd.in b276 (by decide)) dX8_tellMost_77 (fun v283 e284 => ?_)
            have o285 : Ok G v283 w265 := by rw [e284]; exact Ok.sv o266 (S_X8.f14 S0) b276 (Bd.any x281) 0 7 (by decide) (by decide +kernel)
            have k286 : Kp G v v283 := by rw [e284]; exact Kp.sv k267 (S_X8.f14 S0) b276 0 7 I0 I1 (by decide) (by decide +kernel)
            have f287 : Fr G [107, 1124] v v283 := Fr.st f268 e284 (S_X8.f14 S0) rfl
            refine J_iinc E 4 1 (fun z => [(4, .int z), (0, .ref h0), (1, .int x_0), (2, .int x260), (3, .int x262)]) dX8_tellMost_78 rfl (by decide) (by decide) (fun _ => rfl) (fun x288 e289 => ?_)
            have b290 : Bd x288 1 7 := (Bd.add e289 b277 (Bd.lit 1 1 (by decide)) (by decide)).w _ _ (by decide)
            refine J_goto E 31 dX8_tellMost_81 (by decide) ?_
            exact J.sub [1, 2, 3, 4, 0] rfl (ih31 v283 w265 (o285) (k286) f287 b274 b275 b276 x288 (b290.w 0 7 (by decide)) (Mu.step hmu31 e289 b277 (Bd.lit 1 1 (by decide)) (by decide)))
          have J75 : Bd x_0 1 60 → Bd x260 1 128 → Bd x262 0 6 → Bd x272 0 6 → ∀ x295 : Int32, J p l e rm_X8_tellMost s m args below meth c 0 0 (MQ below (QcV D dA G (fun v1 w1 => Ok G v1 w1 ∧ Kp G v v1 ∧ Fr G [107, 1124] v v1)) args s 0 0 (dm G)) D dA G (dm G) s.heap 9 v264 w265 [(0, .ref h0), (1, .int x_0), (2, .int x260), (3, .int x262), (4, .int x272)] 75 [.int x295, .int x262, .ref (rf G h0 14)] := by
            intro b291 b292 b293 b294 x295
            refine J_iconst E 0 dX8_tellMost_75 (by decide) ?_
            exact J.sub [0, 1, 2, 3, 4] rfl (J76 b291 b292 b293 b294 0 ((Bd.lit 0 0 (by decide)).w 0 64 (by decide)) x295)
          refine J_iload E dX8_tellMost_31 4 rfl ?_
          refine J_aload_n E dX8_tellMost_33 0 rfl ?_
          refine J_getR E in_X8 rfl (S_X8.h S0) 1 (by decide) wd936 rfl dX8_tellMost_34 ?_
          refine J_iconst E 0 dX8_tellMost_37 (by decide) ?_
          refine J_iald1 E (S_X8.f1 S0) (Bd.in (Bd.lit 0 0 (by decide)) (by decide)) dX8_tellMost_38 (fun x296 e297 => ?_)
          have b298 : Bd x296 0 7 := Bd.e (Ok.ld o266 (S_X8.f1 S0) (Bd.lit 0 0 (by decide)) 0 1 0 7 (by decide) (by decide +kernel)) e297
          have e299 : x296 = v264 (rf G h0 1) 0 := by rw [e297, Bd.ix (Bd.lit 0 0 (by decide)) 0 rfl]
          refine J_icmp_ge E 84 dX8_tellMost_39 (by decide) (fun c300 => ?_) (fun c300 => ?_)
          · refine J_iinc E 3 1 (fun z => [(3, .int z), (0, .ref h0), (1, .int x_0), (2, .int x260), (4, .int x272)]) dX8_tellMost_84 rfl (by decide) (by decide) (fun _ => rfl) (fun x301 e302 => ?_)
            have b303 : Bd x301 1 7 := (Bd.add e302 b271 (Bd.lit 1 1 (by decide)) (by decide)).w _ _ (by decide)
            refine J_goto E 11 dX8_tellMost_87 (by decide) ?_
            exact J.sub [1, 2, 3, 0] rfl (ih11 v264 w265 (o266) (k267) f268 b269 x260 b270 x301 (b303.w 0 7 (by decide)) (Mu.step hmu11 e302 b271 (Bd.lit 1 1 (by decide)) (by decide)))
          · have b304 : Bd x272 0 6 := Bd.lt_l (nle c300) b273 b298 6 (by decide)
            have b305 : Bd x296 1 7 := Bd.lt_r (nle c300) b273 b298 1 (by decide)
            refine J_aload_n E dX8_tellMost_42 0 rfl ?_
            refine J_getR E in_X8 rfl (S_X8.h S0) 14 (by decide) wd949 rfl dX8_tellMost_43 ?_
            refine J_iload_n E dX8_tellMost_46 3 rfl ?_
            refine J_dup2 E dX8_tellMost_47 rfl rfl ?_
            refine J_iald1 E (S_X8.f14 S0) (Bd.in b271 (by decide)) dX8_tellMost_48 (fun x306 e307 => ?_)
            refine J_aload_n E dX8_tellMost_49 0 rfl ?_
            refine J_iload_n E dX8_tellMost_50 3 rfl ?_
            refine J_callVI E cal_X8_isLost wd1128 rfl (S_X8.h S0) [.int x262] [.int x306, .int x262, .ref (rf G h0 14)] (ct_X8_isLost l D dA G v264 w265 (o266) h0 S0 x262 b271) rfl rfl (Nat.le_of_ble_eq_true rfl) ⟨rfl, rfl⟩ ⟨Nat.le_of_ble_eq_true rfl, Nat.le_of_ble_eq_true rfl⟩ dX8_tellMost_51 (fun x311 v308 w309 p310 => ?_)
            rw [p310.1, p310.2.1]
            have b312 : Bd x311 0 1 := p310.2.2.1
            refine J_if_ne E 75 dX8_tellMost_54 (by decide) (fun c313 => ?_) (fun c313 => ?_)
            · have b314 : Bd x311 1 1 := (Bd.ne_lo c313 b312 (Bd.lit 0 0 (by decide))).w _ _ (by decide)
              exact J.sub [0, 1, 2, 3, 4] rfl (J75 b269 b270 b271 b304 x306)
            · have b315 : Bd x311 0 0 := Bd.eq_l c313 b312 (Bd.lit 0 0 (by decide)) 0 0 (by decide)
              refine J_aload_n E dX8_tellMost_57 0 rfl ?_
              refine J_iload_n E dX8_tellMost_58 3 rfl ?_
              refine J_iload E dX8_tellMost_59 4 rfl ?_
              refine J_callVI E cal_X8_longOf wd1211 rfl (S_X8.h S0) [.int x262, .int x272] [.int x306, .int x262, .ref (rf G h0 14)] (ct_X8_longOf l D dA G v264 w265 (o266) h0 S0 x262 b271 x272 b304) rfl rfl (Nat.le_of_ble_eq_true rfl) ⟨rfl, rfl⟩ ⟨Nat.le_of_ble_eq_true rfl, Nat.le_of_ble_eq_true rfl⟩ dX8_tellMost_61 (fun x319 v316 w317 p318 => ?_)
              rw [p318.1, p318.2.1]
              have b320 : Bd x319 0 60 := p318.2.2.1
              refine J_iload_n E dX8_tellMost_64 1 rfl ?_
              refine J_icmp_lt E 75 dX8_tellMost_65 (by decide) (fun c321 => ?_) (fun c321 => ?_)
              · have b322 : Bd x319 0 59 := Bd.lt_l c321 b320 b269 59 (by decide)
                exact J.sub [0, 1, 2, 3, 4] rfl (J75 b269 b270 b271 b304 x306)
              · have b323 : Bd x319 1 60 := Bd.le_r (nlt c321) b269 b320 1 (by decide)
                refine J_iconst E 1 dX8_tellMost_68 (by decide) ?_
                refine J_iload E dX8_tellMost_69 4 rfl ?_
                refine J_ishl E dX8_tellMost_71 (fun x324 e325 => ?_)
                have b326 : Bd x324 1 64 := Bd.shl1 e325 b304 6 (by decide)
                refine J_goto E 76 dX8_tellMost_72 (by decide) ?_
                exact J.sub [0, 1, 2, 3, 4] rfl (J76 b269 b270 b271 b304 x324 (b326.w 0 64 (by decide)) x306)
      refine J_iload_n E dX8_tellMost_11 3 rfl ?_
      refine J_aload_n E dX8_tellMost_12 0 rfl ?_
      refine J_getR E in_X8 rfl (S_X8.h S0) 1 (by decide) wd936 rfl dX8_tellMost_13 ?_
      refine J_iconst E 1 dX8_tellMost_16 (by decide) ?_
      refine J_iald1 E (S_X8.f1 S0) (Bd.in (Bd.lit 1 1 (by decide)) (by decide)) dX8_tellMost_17 (fun x327 e328 => ?_)
      have b329 : Bd x327 0 7 := Bd.e (Ok.ld o256 (S_X8.f1 S0) (Bd.lit 1 1 (by decide)) 1 1 0 7 (by decide) (by decide +kernel)) e328
      have e330 : x327 = v254 (rf G h0 1) 1 := by rw [e328, Bd.ix (Bd.lit 1 1 (by decide)) 1 rfl]
      refine J_icmp_ge E 90 dX8_tellMost_18 (by decide) (fun c331 => ?_) (fun c331 => ?_)
      · refine J_iconst E 0 dX8_tellMost_90 (by decide) ?_
        refine J_istore_n E [(3, .int 0), (0, .ref h0), (1, .int x_0), (2, .int x260)] dX8_tellMost_91 rfl (by decide) rfl ?_
        exact J.sub [1, 3, 0] rfl (J92 129 v254 w255 (o256) (k257) f258 x260 b261 0 ((Bd.lit 0 0 (by decide)).w 0 128 (by decide)) (Mu.start _ (Bd.lit 0 0 (by decide)) (by decide)))
      · have b332 : Bd x262 0 6 := Bd.lt_l (nle c331) b263 b329 6 (by decide)
        have b333 : Bd x327 1 7 := Bd.lt_r (nle c331) b263 b329 1 (by decide)
        refine J_aload_n E dX8_tellMost_21 0 rfl ?_
        refine J_getR E in_X8 rfl (S_X8.h S0) 14 (by decide) wd949 rfl dX8_tellMost_22 ?_
        refine J_iload_n E dX8_tellMost_25 3 rfl ?_
        refine J_iconst E 0 dX8_tellMost_26 (by decide) ?_
        refine J_iast1 E (S_X8.f14 S0) (Bd.in b332 (by decide)) dX8_tellMost_27 (fun v334 e335 => ?_)
        have o336 : Ok G v334 w255 := by rw [e335]; exact Ok.sv o256 (S_X8.f14 S0) b332 (Bd.lit 0 0 (by decide)) 0 7 (by decide) (by decide +kernel)
        have k337 : Kp G v v334 := by rw [e335]; exact Kp.sv k257 (S_X8.f14 S0) b332 0 7 0 0 (by decide) (by decide +kernel)
        have f338 : Fr G [107, 1124] v v334 := Fr.st f258 e335 (S_X8.f14 S0) rfl
        have e339 : x327 = v334 (rf G h0 1) 1 := by rw [e335, stv_a (tg_ne ((S_X8.f1 S0)) ((S_X8.f14 S0)) rfl)]; exact e330
        refine J_iconst E 0 dX8_tellMost_28 (by decide) ?_
        refine J_istore E [(4, .int 0), (0, .ref h0), (1, .int x_0), (2, .int x260), (3, .int x262)] dX8_tellMost_29 (by decide) rfl ?_
        exact J.sub [1, 2, 3, 4, 0] rfl (J31 8 v334 w255 (o336) (k337) f338 b259 b261 b332 0 ((Bd.lit 0 0 (by decide)).w 0 7 (by decide)) (Mu.start _ (Bd.lit 0 0 (by decide)) (by decide)))
  refine J_iconst E 1 dX8_tellMost_0 (by decide) ?_
  refine J_aload_n E dX8_tellMost_1 0 rfl ?_
  refine J_getR E in_X8 rfl (S_X8.h S0) 1 (by decide) wd936 rfl dX8_tellMost_2 ?_
  refine J_iconst E 0 dX8_tellMost_5 (by decide) ?_
  refine J_iald1 E (S_X8.f1 S0) (Bd.in (Bd.lit 0 0 (by decide)) (by decide)) dX8_tellMost_6 (fun x340 e341 => ?_)
  have b342 : Bd x340 0 7 := Bd.e (Ok.ld hOk (S_X8.f1 S0) (Bd.lit 0 0 (by decide)) 0 1 0 7 (by decide) (by decide +kernel)) e341
  have e343 : x340 = v (rf G h0 1) 0 := by rw [e341, Bd.ix (Bd.lit 0 0 (by decide)) 0 rfl]
  refine J_ishl E dX8_tellMost_7 (fun x344 e345 => ?_)
  have b346 : Bd x344 1 128 := Bd.shl1 e345 b342 7 (by decide)
  refine J_istore_n E [(2, .int x344), (0, .ref h0), (1, .int x_0)] dX8_tellMost_8 rfl (by decide) rfl ?_
  refine J_iconst E 0 dX8_tellMost_9 (by decide) ?_
  refine J_istore_n E [(3, .int 0), (2, .int x344), (0, .ref h0), (1, .int x_0)] dX8_tellMost_10 rfl (by decide) rfl ?_
  exact J.sub [2, 3, 1, 0] rfl (J11 8 v w (hOk) (Kp.rf) Fr.rf bx_0 x344 b346 0 ((Bd.lit 0 0 (by decide)).w 0 7 (by decide)) (Mu.start _ (Bd.lit 0 0 (by decide)) (by decide)))

abbrev rm_X8_match : Room := { frames := 6, cells := 0, slots := 0, locals := 138 }
set_option maxHeartbeats 4000000 in
set_option maxRecDepth 100000 in
theorem ct_X8_match (l : Launch) (D : va_G) (dA : Nat → ClassId) (G : Gm) (v : Mv) (w : Mw) (hOk : Ok G v w) (h0 : Nat) (S0 : S_X8 G h0) (x_0 : Int32) (x_1 : Int32) : CtI l yX8_match cX8_match 9 (some .int) rm_X8_match D dA G [.ref h0, .int x_0, .int x_1] v w (fun r v1 w1 => Ok G v1 w1 ∧ Kp G v v1 ∧ True ∧ Fr G [103, 107, 1124] v v1) := by
  refine CtI.of RX8 [(0, .ref h0), (1, .int x_0), (2, .int x_1)] (Nat.le_of_ble_eq_true rfl) rfl (by decide) rfl ?_
  intro p e s m args below meth c E hr
  have J56 : ∀ n56 : Nat, ∀ (v1 : Mv) (w2 : Mw), Ok G v1 w2 → Kp G v v1 → Fr G [103, 107, 1124] v v1 → Bd x_1 0 6 → ∀ x7 : Int32, Bd x7 0 127 → ∀ x9 : Int32, Bd x9 (-1) 6 → ∀ x11 : Int32, Bd x11 0 7 → Mu x11 7 n56 → J p l e rm_X8_match s m args below meth c 0 0 (MQ below (QcI D dA G (fun r v1 w1 => Ok G v1 w1 ∧ Kp G v v1 ∧ True ∧ Fr G [103, 107, 1124] v v1)) args s 0 0 (dm G)) D dA G (dm G) s.heap 9 v1 w2 [(0, .ref h0), (2, .int x_1), (3, .int x7), (4, .int x9), (5, .int x11)] 56 [] := by
    intro n56
    induction n56 with
    | zero => intro v1 w2 o3 k4 f5 b6 x7 b8 x9 b10 x11 b12 hm; exact hm.zero b12 (by decide)
    | succ n56 ih56 =>
      intro v1 w2 o3 k4 f5 b6 x7 b8 x9 b10 x11 b12 hmu56
      have J216 : Bd x_1 0 6 → ∀ x14 : Int32, Bd x14 (-1) 6 → Bd x11 0 6 → ∀ x17 : Int32, Bd x17 0 64 → ∀ x19 : Int32, Bd x19 0 127 → J p l e rm_X8_match s m args below meth c 0 0 (MQ below (QcI D dA G (fun r v1 w1 => Ok G v1 w1 ∧ Kp G v v1 ∧ True ∧ Fr G [103, 107, 1124] v v1)) args s 0 0 (dm G)) D dA G (dm G) s.heap 9 v1 w2 [(0, .ref h0), (2, .int x_1), (4, .int x14), (5, .int x11)] 216 [.int x17, .int x19] := by
        intro b13 x14 b15 b16 x17 b18 x19 b20
        refine J_ior E dX8_match_216 (fun x21 e22 => ?_)
        have b23 : Bd x21 0 127 := Bd.or e22 b20 b18 7 (by decide)
        refine J_istore_n E [(3, .int x21), (0, .ref h0), (2, .int x_1), (4, .int x14), (5, .int x11)] dX8_match_217 rfl (by decide) rfl ?_
        refine J_iinc E 4 1 (fun z => [(5, .int z), (3, .int x21), (0, .ref h0), (2, .int x_1), (4, .int x14)]) dX8_match_218 rfl (by decide) (by decide) (fun _ => rfl) (fun x24 e25 => ?_)
        have b26 : Bd x24 1 7 := (Bd.add e25 b16 (Bd.lit 1 1 (by decide)) (by decide)).w _ _ (by decide)
        refine J_goto E 56 dX8_match_221 (by decide) ?_
        exact J.sub [2, 3, 1, 4, 0] rfl (ih56 v1 w2 (o3) (k4) f5 b13 x21 b23 x14 b15 x24 (b26.w 0 7 (by decide)) (Mu.step hmu56 e25 b16 (Bd.lit 1 1 (by decide)) (by decide)))
      have J199 : Bd x_1 0 6 → Bd x7 0 127 → Bd x11 0 6 → ∀ x30 : Int32, Bd x30 (-1) 6 → J p l e rm_X8_match s m args below meth c 0 0 (MQ below (QcI D dA G (fun r v1 w1 => Ok G v1 w1 ∧ Kp G v v1 ∧ True ∧ Fr G [103, 107, 1124] v v1)) args s 0 0 (dm G)) D dA G (dm G) s.heap 9 v1 w2 [(0, .ref h0), (2, .int x_1), (3, .int x7), (5, .int x11)] 199 [.int x30] := by
        intro b27 b28 b29 x30 b31
        refine J_istore E [(4, .int x30), (0, .ref h0), (2, .int x_1), (3, .int x7), (5, .int x11)] dX8_match_199 (by decide) rfl ?_
        refine J_iload_n E dX8_match_201 3 rfl ?_
        refine J_iload E dX8_match_202 0 rfl ?_
        refine J_iconst E (-1) dX8_match_204 (by decide) ?_
        refine J_icmp_ne E 212 dX8_match_205 (by decide) (fun c32 => ?_) (fun c32 => ?_)
        · have b33 : Bd x30 0 6 := (Bd.ne_lo c32 b31 (Bd.lit (-1) (-1) (by decide))).w _ _ (by decide)
          refine J_iconst E 1 dX8_match_212 (by decide) ?_
          refine J_iload E dX8_match_213 0 rfl ?_
          refine J_ishl E dX8_match_215 (fun x34 e35 => ?_)
          have b36 : Bd x34 1 64 := Bd.shl1 e35 b33 6 (by decide)
          exact J.sub [1, 2, 0, 4] rfl (J216 b27 x30 (b33.w (-1) 6 (by decide)) b29 x34 (b36.w 0 64 (by decide)) x7 b28)
        · have b37 : Bd x30 (-1) (-1) := Bd.eq_l c32 b31 (Bd.lit (-1) (-1) (by decide)) (-1) (-1) (by decide)
          refine J_iconst E 0 dX8_match_208 (by decide) ?_
          refine J_goto E 216 dX8_match_209 (by decide) ?_
          exact J.sub [1, 2, 0, 4] rfl (J216 b27 x30 (b37.w (-1) 6 (by decide)) b29 0 ((Bd.lit 0 0 (by decide)).w 0 64 (by decide)) x7 b28)
      have J90 : ∀ n90 : Nat, Bd x_1 0 6 → Bd x7 0 127 → ∀ x40 : Int32, Bd x40 (-1) 6 → Bd x11 0 6 → ∀ x43 : Int32, ∀ x44 : Int32, Bd x44 (-1) 6 → Md x44 (-1) n90 → J p l e rm_X8_match s m args below meth c 0 0 (MQ below (QcI D dA G (fun r v1 w1 => Ok G v1 w1 ∧ Kp G v v1 ∧ True ∧ Fr G [103, 107, 1124] v v1)) args s 0 0 (dm G)) D dA G (dm G) s.heap 9 v1 w2 [(0, .ref h0), (2, .int x_1), (3, .int x7), (4, .int x40), (5, .int x11), (6, .int x43), (7, .int x44)] 90 [] := by
        intro n90
        induction n90 with
        | zero => intro b38 b39 x40 b41 b42 x43 x44 b45 hm; exact hm.zero b45 (by decide)
        | succ n90 ih90 =>
          intro b38 b39 x40 b41 b42 x43 x44 b45 hmu90
          have J165 : Bd x_1 0 6 → Bd x7 0 127 → Bd x11 0 6 → Bd x44 0 6 → ∀ x50 : Int32, Bd x50 (-1) 6 → J p l e rm_X8_match s m args below meth c 0 0 (MQ below (QcI D dA G (fun r v1 w1 => Ok G v1 w1 ∧ Kp G v v1 ∧ True ∧ Fr G [103, 107, 1124] v v1)) args s 0 0 (dm G)) D dA G (dm G) s.heap 9 v1 w2 [(0, .ref h0), (2, .int x_1), (3, .int x7), (5, .int x11), (6, .int x43), (7, .int x44)] 165 [.int x50] := by
            intro b46 b47 b48 b49 x50 b51
            refine J_istore E [(4, .int x50), (0, .ref h0), (2, .int x_1), (3, .int x7), (5, .int x11), (6, .int x43), (7, .int x44)] dX8_match_165 (by decide) rfl ?_
            refine J_iinc E 6 (-1) (fun z => [(7, .int z), (4, .int x50), (0, .ref h0), (2, .int x_1), (3, .int x7), (5, .int x11), (6, .int x43)]) dX8_match_167 rfl (by decide) (by decide) (fun _ => rfl) (fun x52 e53 => ?_)
            have b54 : Bd x52 (-1) 5 := (Bd.add e53 b49 (Bd.lit (-1) (-1) (by decide)) (by decide)).w _ _ (by decide)
            refine J_goto E 90 dX8_match_170 (by decide) ?_
            exact J.sub [2, 3, 4, 1, 5, 6, 0] rfl (ih90 b46 b47 x50 b51 b48 x43 x52 (b54.w (-1) 6 (by decide)) (Md.step hmu90 e53 b49 (Bd.lit (-1) (-1) (by decide)) (by decide)))
          have J163 : Bd x_1 0 6 → Bd x7 0 127 → Bd x40 (-1) 6 → Bd x11 0 6 → Bd x44 0 6 → J p l e rm_X8_match s m args below meth c 0 0 (MQ below (QcI D dA G (fun r v1 w1 => Ok G v1 w1 ∧ Kp G v v1 ∧ True ∧ Fr G [103, 107, 1124] v v1)) args s 0 0 (dm G)) D dA G (dm G) s.heap 9 v1 w2 [(0, .ref h0), (2, .int x_1), (3, .int x7), (4, .int x40), (5, .int x11), (6, .int x43), (7, .int x44)] 163 [] := by
            intro b55 b56 b57 b58 b59
            refine J_iload E dX8_match_163 3 rfl ?_
            exact J.sub [0, 1, 2, 4, 5, 6] rfl (J165 b55 b56 b58 b59 x40 b57)
          have J124 : Bd x_1 0 6 → Bd x7 0 127 → Bd x40 (-1) 6 → Bd x11 0 6 → Bd x44 0 6 → ∀ x65 : Int32, Bd x65 0 1 → J p l e rm_X8_match s m args below meth c 0 0 (MQ below (QcI D dA G (fun r v1 w1 => Ok G v1 w1 ∧ Kp G v v1 ∧ True ∧ Fr G [103, 107, 1124] v v1)) args s 0 0 (dm G)) D dA G (dm G) s.heap 9 v1 w2 [(0, .ref h0), (2, .int x_1), (3, .int x7), (4, .int x40), (5, .int x11), (6, .int x43), (7, .int x44)] 124 [.int x65] := by
            intro b60 b61 b62 b63 b64 x65 b66
            refine J_istore E [(8, .int x65), (0, .ref h0), (2, .int x_1), (3, .int x7), (4, .int x40), (5, .int x11), (6, .int x43), (7, .int x44)] dX8_match_124 (by decide) rfl ?_
            refine J_iload E dX8_match_126 0 rfl ?_
            refine J_if_eq E 163 dX8_match_128 (by decide) (fun c67 => ?_) (fun c67 => ?_)
            · have b68 : Bd x65 0 0 := Bd.eq_l c67 b66 (Bd.lit 0 0 (by decide)) 0 0 (by decide)
              exact J.sub [1, 2, 3, 4, 5, 6, 7] rfl (J163 b60 b61 b62 b63 b64)
            · have b69 : Bd x65 1 1 := (Bd.ne_lo c67 b66 (Bd.lit 0 0 (by decide))).w _ _ (by decide)
              refine J_iconst E 1 dX8_match_131 (by decide) ?_
              refine J_aload_n E dX8_match_132 1 rfl ?_
              refine J_getR E in_X8 rfl (S_X8.h S0) 12 (by decide) wd947 rfl dX8_match_133 ?_
              refine J_sipush E 128 dX8_match_136 (by decide) ?_
              refine J_iload E dX8_match_139 5 rfl ?_
              refine J_iconst E 1 dX8_match_141 (by decide) ?_
              refine J_iadd E dX8_match_142 (fun x70 e71 => ?_)
              have b72 : Bd x70 1 7 := (Bd.add e71 b63 (Bd.lit 1 1 (by decide)) (by decide)).w _ _ (by decide)
              refine J_imul E dX8_match_143 (fun x73 e74 => ?_)
              have b75 : Bd x73 128 896 := Bd.mul e74 (Bd.lit 128 128 (by decide)) b72 (by decide)
              refine J_iload_n E dX8_match_144 3 rfl ?_
              refine J_iconst E 1 dX8_match_145 (by decide) ?_
              refine J_iload E dX8_match_146 7 rfl ?_
              refine J_ishl E dX8_match_148 (fun x76 e77 => ?_)
              have b78 : Bd x76 1 64 := Bd.shl1 e77 b64 6 (by decide)
              refine J_ior E dX8_match_149 (fun x79 e80 => ?_)
              have b81 : Bd x79 0 127 := Bd.or e80 b61 b78 7 (by decide)
              refine J_iadd E dX8_match_150 (fun x82 e83 => ?_)
              have b84 : Bd x82 128 1023 := (Bd.add e83 b75 b81 (by decide)).w _ _ (by decide)
              refine J_iald1 E (S_X8.f12 S0) (Bd.in b84 (by decide)) dX8_match_151 (fun x85 e86 => ?_)
              refine J_iadd E dX8_match_152 (fun x87 e88 => ?_)
              refine J_iload E dX8_match_153 6 rfl ?_
              refine J_icmp_ne E 163 dX8_match_155 (by decide) (fun c89 => ?_) (fun c89 => ?_)
              · exact J.sub [1, 2, 3, 4, 5, 6, 7] rfl (J163 b60 b61 b62 b63 b64)
              · refine J_iload E dX8_match_158 7 rfl ?_
                refine J_goto E 165 dX8_match_160 (by decide) ?_
                exact J.sub [1, 2, 3, 5, 6, 7] rfl (J165 b60 b61 b63 b64 x44 (b64.w (-1) 6 (by decide)))
          have J123 : Bd x_1 0 6 → Bd x7 0 127 → Bd x40 (-1) 6 → Bd x11 0 6 → Bd x44 0 6 → J p l e rm_X8_match s m args below meth c 0 0 (MQ below (QcI D dA G (fun r v1 w1 => Ok G v1 w1 ∧ Kp G v v1 ∧ True ∧ Fr G [103, 107, 1124] v v1)) args s 0 0 (dm G)) D dA G (dm G) s.heap 9 v1 w2 [(0, .ref h0), (2, .int x_1), (3, .int x7), (4, .int x40), (5, .int x11), (6, .int x43), (7, .int x44)] 123 [] := by
            intro b90 b91 b92 b93 b94
            refine J_iconst E 0 dX8_match_123 (by decide) ?_
            exact J.sub [0, 1, 2, 3, 4, 5, 6] rfl (J124 b90 b91 b92 b93 b94 0 ((Bd.lit 0 0 (by decide)).w 0 1 (by decide)))
          refine J_iload E dX8_match_90 6 rfl ?_
          refine J_if_lt E 173 dX8_match_92 (by decide) (fun c95 => ?_) (fun c95 => ?_)
          · have b96 : Bd x44 (-1) (-1) := Bd.lt_l c95 b45 (Bd.lit 0 0 (by decide)) (-1) (by decide)
            refine J_aload_n E dX8_match_173 0 rfl ?_
            refine J_getR E in_X8 rfl (S_X8.h S0) 12 (by decide) wd947 rfl dX8_match_174 ?_
            refine J_sipush E 128 dX8_match_177 (by decide) ?_
            refine J_iload E dX8_match_180 4 rfl ?_
            refine J_iconst E 1 dX8_match_182 (by decide) ?_
            refine J_iadd E dX8_match_183 (fun x97 e98 => ?_)
            have b99 : Bd x97 1 7 := (Bd.add e98 b42 (Bd.lit 1 1 (by decide)) (by decide)).w _ _ (by decide)
            refine J_imul E dX8_match_184 (fun x100 e101 => ?_)
            have b102 : Bd x100 128 896 := Bd.mul e101 (Bd.lit 128 128 (by decide)) b99 (by decide)
            refine J_iload_n E dX8_match_185 2 rfl ?_
            refine J_iadd E dX8_match_186 (fun x103 e104 => ?_)
            have b105 : Bd x103 128 1023 := (Bd.add e104 b102 b39 (by decide)).w _ _ (by decide)
            refine J_iald1 E (S_X8.f12 S0) (Bd.in b105 (by decide)) dX8_match_187 (fun x106 e107 => ?_)
            refine J_iload E dX8_match_188 5 rfl ?_
            refine J_icmp_ne E 197 dX8_match_190 (by decide) (fun c108 => ?_) (fun c108 => ?_)
            · refine J_iload E dX8_match_197 3 rfl ?_
              exact J.sub [0, 1, 2, 4] rfl (J199 b38 b39 b42 x40 b41)
            · refine J_iconst E (-1) dX8_match_193 (by decide) ?_
              refine J_goto E 199 dX8_match_194 (by decide) ?_
              exact J.sub [0, 1, 2, 4] rfl (J199 b38 b39 b42 (-1) ((Bd.lit (-1) (-1) (by decide)).w (-1) 6 (by decide)))
          · have b109 : Bd x44 0 6 := Bd.le_r (nlt c95) (Bd.lit 0 0 (by decide)) b45 0 (by decide)
            refine J_aload_n E dX8_match_95 0 rfl ?_
            refine J_getR E in_X8 rfl (S_X8.h S0) 14 (by decide) wd949 rfl dX8_match_96 ?_
            refine J_iload E dX8_match_99 4 rfl ?_
            refine J_iald1 E (S_X8.f14 S0) (Bd.in b42 (by decide)) dX8_match_101 (fun x110 e111 => ?_)
            refine J_iload E dX8_match_102 6 rfl ?_
            refine J_callSI E cal_X8_has wd1075 [.int x110, .int x44] [] (ct_X8_has l D dA G v1 w2 (o3) x110 x44 (b109.w 0 9 (by decide))) rfl rfl (Nat.le_of_ble_eq_true rfl) ⟨rfl, rfl⟩ ⟨Nat.le_of_ble_eq_true rfl, Nat.le_of_ble_eq_true rfl⟩ dX8_match_104 (fun x115 v112 w113 p114 => ?_)
            rw [p114.1, p114.2.1]
            have b116 : Bd x115 0 1 := p114.2.2.1
            refine J_if_eq E 123 dX8_match_107 (by decide) (fun c117 => ?_) (fun c117 => ?_)
            · have b118 : Bd x115 0 0 := Bd.eq_l c117 b116 (Bd.lit 0 0 (by decide)) 0 0 (by decide)
              exact J.sub [0, 1, 2, 3, 4, 5, 6] rfl (J123 b38 b39 b41 b42 b109)
            · have b119 : Bd x115 1 1 := (Bd.ne_lo c117 b116 (Bd.lit 0 0 (by decide))).w _ _ (by decide)
              refine J_iload_n E dX8_match_110 2 rfl ?_
              refine J_iload E dX8_match_111 6 rfl ?_
              refine J_callSI E cal_X8_has wd1075 [.int x7, .int x44] [] (ct_X8_has l D dA G v1 w2 (o3) x7 x44 (b109.w 0 9 (by decide))) rfl rfl (Nat.le_of_ble_eq_true rfl) ⟨rfl, rfl⟩ ⟨Nat.le_of_ble_eq_true rfl, Nat.le_of_ble_eq_true rfl⟩ dX8_match_113 (fun x123 v120 w121 p122 => ?_)
              rw [p122.1, p122.2.1]
              have b124 : Bd x123 0 1 := p122.2.2.1
              refine J_if_ne E 123 dX8_match_116 (by decide) (fun c125 => ?_) (fun c125 => ?_)
              · have b126 : Bd x123 1 1 := (Bd.ne_lo c125 b124 (Bd.lit 0 0 (by decide))).w _ _ (by decide)
                exact J.sub [0, 1, 2, 3, 4, 5, 6] rfl (J123 b38 b39 b41 b42 b109)
              · have b127 : Bd x123 0 0 := Bd.eq_l c125 b124 (Bd.lit 0 0 (by decide)) 0 0 (by decide)
                refine J_iconst E 1 dX8_match_119 (by decide) ?_
                refine J_goto E 124 dX8_match_120 (by decide) ?_
                exact J.sub [0, 1, 2, 3, 4, 5, 6] rfl (J124 b38 b39 b41 b42 b109 1 ((Bd.lit 1 1 (by decide)).w 0 1 (by decide)))
      refine J_iload E dX8_match_56 4 rfl ?_
      refine J_iload_n E dX8_match_58 1 rfl ?_
      refine J_icmp_gt E 224 dX8_match_59 (by decide) (fun c128 => ?_) (fun c128 => ?_)
      · have b129 : Bd x11 1 7 := Bd.lt_r c128 b6 b12 1 (by decide)
        refine J_iload E dX8_match_224 3 rfl ?_
        exact J_iret E hr dX8_match_226 ⟨o3, k4, trivial, f5⟩
      · have b130 : Bd x11 0 6 := Bd.le_l (nlt c128) b12 b6 6 (by decide)
        refine J_iconst E (-1) dX8_match_62 (by decide) ?_
        refine J_istore E [(4, .int (-1)), (0, .ref h0), (2, .int x_1), (3, .int x7), (5, .int x11)] dX8_match_63 (by decide) rfl ?_
        refine J_aload_n E dX8_match_65 1 rfl ?_
        refine J_getR E in_X8 rfl (S_X8.h S0) 12 (by decide) wd947 rfl dX8_match_66 ?_
        refine J_sipush E 128 dX8_match_69 (by decide) ?_
        refine J_iload E dX8_match_72 4 rfl ?_
        refine J_imul E dX8_match_74 (fun x131 e132 => ?_)
        have b133 : Bd x131 0 768 := Bd.mul e132 (Bd.lit 128 128 (by decide)) b130 (by decide)
        refine J_iload_n E dX8_match_75 3 rfl ?_
        refine J_iadd E dX8_match_76 (fun x134 e135 => ?_)
        have b136 : Bd x134 0 895 := (Bd.add e135 b133 b8 (by decide)).w _ _ (by decide)
        refine J_iald1 E (S_X8.f12 S0) (Bd.in b136 (by decide)) dX8_match_77 (fun x137 e138 => ?_)
        refine J_istore E [(6, .int x137), (4, .int (-1)), (0, .ref h0), (2, .int x_1), (3, .int x7), (5, .int x11)] dX8_match_78 (by decide) rfl ?_
        refine J_aload_n E dX8_match_80 2 rfl ?_
        refine J_getR E in_X8 rfl (S_X8.h S0) 1 (by decide) wd936 rfl dX8_match_81 ?_
        refine J_iconst E 0 dX8_match_84 (by decide) ?_
        refine J_iald1 E (S_X8.f1 S0) (Bd.in (Bd.lit 0 0 (by decide)) (by decide)) dX8_match_85 (fun x139 e140 => ?_)
        have b141 : Bd x139 0 7 := Bd.e (Ok.ld o3 (S_X8.f1 S0) (Bd.lit 0 0 (by decide)) 0 1 0 7 (by decide) (by decide +kernel)) e140
        have e142 : x139 = v1 (rf G h0 1) 0 := by rw [e140, Bd.ix (Bd.lit 0 0 (by decide)) 0 rfl]
        refine J_iconst E 1 dX8_match_86 (by decide) ?_
        refine J_isub E dX8_match_87 (fun x143 e144 => ?_)
        have b145 : Bd x143 (-1) 6 := (Bd.sub e144 b141 (Bd.lit 1 1 (by decide)) (by decide)).w _ _ (by decide)
        refine J_istore E [(7, .int x143), (6, .int x137), (4, .int (-1)), (0, .ref h0), (2, .int x_1), (3, .int x7), (5, .int x11)] dX8_match_88 (by decide) rfl ?_
        exact J.sub [3, 4, 5, 2, 6, 1, 0] rfl (J90 8 b6 b8 (-1) ((Bd.lit (-1) (-1) (by decide)).w (-1) 6 (by decide)) b130 x137 x143 b145 (Md.start _ b145 (by decide)))
  have J31 : Bd x_0 1 60 → Bd x_1 (-1) 6 → J p l e rm_X8_match s m args below meth c 0 0 (MQ below (QcI D dA G (fun r v1 w1 => Ok G v1 w1 ∧ Kp G v v1 ∧ True ∧ Fr G [103, 107, 1124] v v1)) args s 0 0 (dm G)) D dA G (dm G) s.heap 9 v w [(0, .ref h0), (1, .int x_0), (2, .int x_1)] 31 [] := by
    intro b146 b147
    refine J_aload_n E dX8_match_31 0 rfl ?_
    refine J_iload_n E dX8_match_32 1 rfl ?_
    refine J_callVV E cal_X8_tellMost wd1219 rfl (S_X8.h S0) [.int x_0] [] (ct_X8_tellMost l D dA G v w (hOk) h0 S0 x_0 b146) rfl rfl (Nat.le_of_ble_eq_true rfl) ⟨rfl, rfl⟩ ⟨Nat.le_of_ble_eq_true rfl, Nat.le_of_ble_eq_true rfl⟩ dX8_match_33 (fun v148 w149 p150 => ?_)
    have o152 := p150.1
    have k153 : Kp G v v148 := (Kp.rf).tr p150.2.1
    have f154 : Fr G [103, 107, 1124] v v148 := Fr.tr Fr.rf (p150.2.2) (by decide)
    refine J_iload_n E dX8_match_36 2 rfl ?_
    refine J_iconst E (-1) dX8_match_37 (by decide) ?_
    refine J_icmp_ne E 48 dX8_match_38 (by decide) (fun c155 => ?_) (fun c155 => ?_)
    · have b156 : Bd x_1 0 6 := (Bd.ne_lo c155 b147 (Bd.lit (-1) (-1) (by decide))).w _ _ (by decide)
      refine J_iconst E 0 dX8_match_48 (by decide) ?_
      refine J_istore_n E [(3, .int 0), (0, .ref h0), (1, .int x_0), (2, .int x_1)] dX8_match_49 rfl (by decide) rfl ?_
      refine J_iconst E (-1) dX8_match_50 (by decide) ?_
      refine J_istore E [(4, .int (-1)), (3, .int 0), (0, .ref h0), (1, .int x_0), (2, .int x_1)] dX8_match_51 (by decide) rfl ?_
      refine J_iconst E 0 dX8_match_53 (by decide) ?_
      refine J_istore E [(5, .int 0), (4, .int (-1)), (3, .int 0), (0, .ref h0), (1, .int x_0), (2, .int x_1)] dX8_match_54 (by decide) rfl ?_
      exact J.sub [3, 5, 2, 1, 0] rfl (J56 8 v148 w149 (o152) (k153) f154 b156 0 ((Bd.lit 0 0 (by decide)).w 0 127 (by decide)) (-1) ((Bd.lit (-1) (-1) (by decide)).w (-1) 6 (by decide)) 0 ((Bd.lit 0 0 (by decide)).w 0 7 (by decide)) (Mu.start _ (Bd.lit 0 0 (by decide)) (by decide)))
    · have b157 : Bd x_1 (-1) (-1) := Bd.eq_l c155 b147 (Bd.lit (-1) (-1) (by decide)) (-1) (-1) (by decide)
      refine J_aload_n E dX8_match_41 0 rfl ?_
      refine J_getR E in_X8 rfl (S_X8.h S0) 12 (by decide) wd947 rfl dX8_match_42 ?_
      refine J_iconst E 0 dX8_match_45 (by decide) ?_
      refine J_iald1 E (S_X8.f12 S0) (Bd.in (Bd.lit 0 0 (by decide)) (by decide)) dX8_match_46 (fun x158 e159 => ?_)
      have e160 : x158 = v148 (rf G h0 12) 0 := by rw [e159, Bd.ix (Bd.lit 0 0 (by decide)) 0 rfl]
      exact J_iret E hr dX8_match_47 ⟨o152, k153, trivial, f154⟩
  have J23 :  J p l e rm_X8_match s m args below meth c 0 0 (MQ below (QcI D dA G (fun r v1 w1 => Ok G v1 w1 ∧ Kp G v v1 ∧ True ∧ Fr G [103, 107, 1124] v v1)) args s 0 0 (dm G)) D dA G (dm G) s.heap 9 v w [(0, .ref h0)] 23 [] := by
    refine J_aload_n E dX8_match_23 0 rfl ?_
    refine J_callVI E cal_X8_bad wd999 rfl (S_X8.h S0) [] [] (ct_X8_bad l D dA G v w (hOk) h0 S0) rfl rfl (Nat.le_of_ble_eq_true rfl) ⟨rfl, rfl⟩ ⟨Nat.le_of_ble_eq_true rfl, Nat.le_of_ble_eq_true rfl⟩ dX8_match_24 (fun x164 v161 w162 p163 => ?_)
    have ew9 : w = w162 := p163.2.2.2.1.1.symm
    subst ew9
    have o165 := p163.1
    have k166 : Kp G v v161 := (Kp.rf).tr p163.2.1
    have f167 : Fr G [103, 107, 1124] v v161 := Fr.tr Fr.rf (p163.2.2.2.2) (by decide)
    have b168 : Bd x164 (-2) (-2) := p163.2.2.1
    refine J_pop E dX8_match_27 rfl ?_
    refine J_bipush E (-10) dX8_match_28 (by decide) ?_
    exact J_iret E hr dX8_match_30 ⟨o165, k166, trivial, f167⟩
  refine J_iload_n E dX8_match_0 1 rfl ?_
  refine J_iconst E 1 dX8_match_1 (by decide) ?_
  refine J_bipush E 60 dX8_match_2 (by decide) ?_
  refine J_callSI E cal_X8_in wd996 [.int x_0, .int 1, .int 60] [] (ct_X8_in l D dA G v w (hOk) x_0 1 60) rfl rfl (Nat.le_of_ble_eq_true rfl) ⟨rfl, rfl⟩ ⟨Nat.le_of_ble_eq_true rfl, Nat.le_of_ble_eq_true rfl⟩ dX8_match_4 (fun x172 v169 w170 p171 => ?_)
  rw [p171.1, p171.2.1]
  have b173 : Bd x172 0 1 := p171.2.2.1
  refine J_if_eq E 23 dX8_match_7 (by decide) (fun c174 => ?_) (fun c174 => ?_)
  · have b175 : Bd x172 0 0 := Bd.eq_l c174 b173 (Bd.lit 0 0 (by decide)) 0 0 (by decide)
    have g176 : ¬ (1 ≤ x_0 ∧ x_0 ≤ 60) := (p171.2.2.2.2.1).resolve_left (fun h9 => h9 c174)
    exact J.sub [0] rfl (J23)
  · have b177 : Bd x172 1 1 := (Bd.ne_lo c174 b173 (Bd.lit 0 0 (by decide))).w _ _ (by decide)
    have g178 := (p171.2.2.2.1).resolve_left c174
    have b179 : Bd x_0 1 I1 := Bd.le_r g178.1 (Bd.lit 1 1 (by decide)) (Bd.any x_0) 1 (by decide)
    have b180 : Bd x_0 1 60 := Bd.le_l g178.2 b179 (Bd.lit 60 60 (by decide)) 60 (by decide)
    refine J_iload_n E dX8_match_10 2 rfl ?_
    refine J_iconst E (-1) dX8_match_11 (by decide) ?_
    refine J_icmp_eq E 31 dX8_match_12 (by decide) (fun c181 => ?_) (fun c181 => ?_)
    · have b182 : Bd x_1 (-1) (-1) := Bd.eq_l c181 (Bd.any x_1) (Bd.lit (-1) (-1) (by decide)) (-1) (-1) (by decide)
      exact J.sub [0, 1, 2] rfl (J31 b180 (b182.w (-1) 6 (by decide)))
    · refine J_aload_n E dX8_match_15 0 rfl ?_
      refine J_iload_n E dX8_match_16 2 rfl ?_
      refine J_callVI E cal_X8_isOne wd1120 rfl (S_X8.h S0) [.int x_1] [] (ct_X8_isOne l D dA G v w (hOk) h0 S0 x_1) rfl rfl (Nat.le_of_ble_eq_true rfl) ⟨rfl, rfl⟩ ⟨Nat.le_of_ble_eq_true rfl, Nat.le_of_ble_eq_true rfl⟩ dX8_match_17 (fun x186 v183 w184 p185 => ?_)
      rw [p185.1, p185.2.1]
      have b187 : Bd x186 0 1 := p185.2.2.1
      refine J_if_ne E 31 dX8_match_20 (by decide) (fun c188 => ?_) (fun c188 => ?_)
      · have b189 : Bd x186 1 1 := (Bd.ne_lo c188 b187 (Bd.lit 0 0 (by decide))).w _ _ (by decide)
        have b190 : Bd x_1 0 6 := (p185.2.2.2.1).resolve_left c188
        exact J.sub [0, 1, 2] rfl (J31 b180 (b190.w (-1) 6 (by decide)))
      · have b191 : Bd x186 0 0 := Bd.eq_l c188 b187 (Bd.lit 0 0 (by decide)) 0 0 (by decide)
        exact J.sub [0] rfl (J23)

abbrev rm_X8_light : Room := { frames := 6, cells := 0, slots := 0, locals := 138 }
set_option maxHeartbeats 4000000 in
set_option maxRecDepth 100000 in
theorem ct_X8_light (l : Launch) (D : va_G) (dA : Nat → ClassId) (G : Gm) (v : Mv) (w : Mw) (hOk : Ok G v w) (h0 : Nat) (S0 : S_X8 G h0) (x_0 : Int32) : CtI l yX8_light cX8_light 2 (some .int) rm_X8_light D dA G [.ref h0, .int x_0] v w (fun r v1 w1 => Ok G v1 w1 ∧ Kp G v v1 ∧ True ∧ Fr G [103, 107, 1124] v v1) := by
  refine CtI.of RX8 [(0, .ref h0), (1, .int x_0)] (Nat.le_of_ble_eq_true rfl) rfl (by decide) rfl ?_
  intro p e s m args below meth c E hr
  refine J_iload_n E dX8_light_0 1 rfl ?_
  refine J_iconst E 1 dX8_light_1 (by decide) ?_
  refine J_bipush E 60 dX8_light_2 (by decide) ?_
  refine J_callSI E cal_X8_in wd996 [.int x_0, .int 1, .int 60] [] (ct_X8_in l D dA G v w (hOk) x_0 1 60) rfl rfl (Nat.le_of_ble_eq_true rfl) ⟨rfl, rfl⟩ ⟨Nat.le_of_ble_eq_true rfl, Nat.le_of_ble_eq_true rfl⟩ dX8_light_4 (fun x4 v1 w2 p3 => ?_)
  rw [p3.1, p3.2.1]
  have b5 : Bd x4 0 1 := p3.2.2.1
  refine J_if_ne E 15 dX8_light_7 (by decide) (fun c6 => ?_) (fun c6 => ?_)
  · have b7 : Bd x4 1 1 := (Bd.ne_lo c6 b5 (Bd.lit 0 0 (by decide))).w _ _ (by decide)
    have g8 := (p3.2.2.2.1).resolve_left c6
    have b9 : Bd x_0 1 I1 := Bd.le_r g8.1 (Bd.lit 1 1 (by decide)) (Bd.any x_0) 1 (by decide)
    have b10 : Bd x_0 1 60 := Bd.le_l g8.2 b9 (Bd.lit 60 60 (by decide)) 60 (by decide)
    refine J_aload_n E dX8_light_15 0 rfl ?_
    refine J_iload_n E dX8_light_16 1 rfl ?_
    refine J_callVV E cal_X8_tellMost wd1219 rfl (S_X8.h S0) [.int x_0] [] (ct_X8_tellMost l D dA G v w (hOk) h0 S0 x_0 b10) rfl rfl (Nat.le_of_ble_eq_true rfl) ⟨rfl, rfl⟩ ⟨Nat.le_of_ble_eq_true rfl, Nat.le_of_ble_eq_true rfl⟩ dX8_light_17 (fun v11 w12 p13 => ?_)
    have o15 := p13.1
    have k16 : Kp G v v11 := (Kp.rf).tr p13.2.1
    have f17 : Fr G [103, 107, 1124] v v11 := Fr.tr Fr.rf (p13.2.2) (by decide)
    refine J_aload_n E dX8_light_20 0 rfl ?_
    refine J_getR E in_X8 rfl (S_X8.h S0) 13 (by decide) wd948 rfl dX8_light_21 ?_
    refine J_iconst E 0 dX8_light_24 (by decide) ?_
    refine J_iald1 E (S_X8.f13 S0) (Bd.in (Bd.lit 0 0 (by decide)) (by decide)) dX8_light_25 (fun x18 e19 => ?_)
    have e20 : x18 = v11 (rf G h0 13) 0 := by rw [e19, Bd.ix (Bd.lit 0 0 (by decide)) 0 rfl]
    refine J_ldc E wd1223 dX8_light_26 ?_
    refine J_icmp_lt E 35 dX8_light_28 (by decide) (fun c21 => ?_) (fun c21 => ?_)
    · have b22 : Bd x18 I0 99999 := Bd.lt_l c21 (Bd.any x18) (Bd.lit 100000 100000 (by decide)) 99999 (by decide)
      refine J_aload_n E dX8_light_35 0 rfl ?_
      refine J_getR E in_X8 rfl (S_X8.h S0) 13 (by decide) wd948 rfl dX8_light_36 ?_
      refine J_iconst E 0 dX8_light_39 (by decide) ?_
      refine J_iald1 E (S_X8.f13 S0) (Bd.in (Bd.lit 0 0 (by decide)) (by decide)) dX8_light_40 (fun x23 e24 => ?_)
      have e24q : x23 = x18 := by rw [e24, Bd.ix (Bd.lit 0 0 (by decide)) 0 rfl]; exact (e20).symm
      rw [e24q]
      exact J_iret E hr dX8_light_41 ⟨o15, k16, trivial, f17⟩
    · have b25 : Bd x18 100000 I1 := Bd.le_r (nlt c21) (Bd.lit 100000 100000 (by decide)) (Bd.any x18) 100000 (by decide)
      refine J_iconst E (-1) dX8_light_31 (by decide) ?_
      refine J_goto E 41 dX8_light_32 (by decide) ?_
      exact J_iret E hr dX8_light_41 ⟨o15, k16, trivial, f17⟩
  · have b26 : Bd x4 0 0 := Bd.eq_l c6 b5 (Bd.lit 0 0 (by decide)) 0 0 (by decide)
    have g27 : ¬ (1 ≤ x_0 ∧ x_0 ≤ 60) := (p3.2.2.2.2.1).resolve_left (fun h9 => h9 c6)
    refine J_aload_n E dX8_light_10 0 rfl ?_
    refine J_callVI E cal_X8_bad wd999 rfl (S_X8.h S0) [] [] (ct_X8_bad l D dA G v w (hOk) h0 S0) rfl rfl (Nat.le_of_ble_eq_true rfl) ⟨rfl, rfl⟩ ⟨Nat.le_of_ble_eq_true rfl, Nat.le_of_ble_eq_true rfl⟩ dX8_light_11 (fun x31 v28 w29 p30 => ?_)
    have ew9 : w = w29 := p30.2.2.2.1.1.symm
    subst ew9
    have o32 := p30.1
    have k33 : Kp G v v28 := (Kp.rf).tr p30.2.1
    have f34 : Fr G [103, 107, 1124] v v28 := Fr.tr Fr.rf (p30.2.2.2.2) (by decide)
    have b35 : Bd x31 (-2) (-2) := p30.2.2.1
    exact J_iret E hr dX8_light_14 ⟨o32, k33, trivial, f34⟩

abbrev rm_X8_doTwo : Room := { frames := 4, cells := 0, slots := 0, locals := 87 }
set_option maxHeartbeats 4000000 in
set_option maxRecDepth 100000 in
theorem ct_X8_doTwo (l : Launch) (D : va_G) (dA : Nat → ClassId) (G : Gm) (v : Mv) (w : Mw) (hOk : Ok G v w) (h0 : Nat) (S0 : S_X8 G h0) (x_0 : Int32) (bx_0 : Bd x_0 0 6) (x_1 : Int32) (bx_1 : Bd x_1 0 6) (x_2 : Int32) (bx_2 : Bd x_2 1 6) : CtI l yX8_doTwo cX8_doTwo 7 (some .boolean) rm_X8_doTwo D dA G [.ref h0, .int x_0, .int x_1, .int x_2] v w (fun r v1 w1 => v1 = v ∧ w1 = w ∧ Bd r 0 1 ∧ True) := by
  refine CtI.of RX8 [(0, .ref h0), (1, .int x_0), (2, .int x_1), (3, .int x_2)] (Nat.le_of_ble_eq_true rfl) rfl (by decide) rfl ?_
  intro p e s m args below meth c E hr
  refine J_aload_n E dX8_doTwo_0 0 rfl ?_
  refine J_iload_n E dX8_doTwo_1 1 rfl ?_
  refine J_iconst E 0 dX8_doTwo_2 (by decide) ?_
  refine J_callVI E cal_X8_weighsIn wd1187 rfl (S_X8.h S0) [.int x_0, .int 0] [] (ct_X8_weighsIn l D dA G v w (hOk) h0 S0 x_0 bx_0 0 ((Bd.lit 0 0 (by decide)).w 0 60 (by decide))) rfl rfl (Nat.le_of_ble_eq_true rfl) ⟨rfl, rfl⟩ ⟨Nat.le_of_ble_eq_true rfl, Nat.le_of_ble_eq_true rfl⟩ dX8_doTwo_3 (fun x4 v1 w2 p3 => ?_)
  rw [p3.1, p3.2.1]
  refine J_istore E [(4, .int x4), (0, .ref h0), (1, .int x_0), (2, .int x_1), (3, .int x_2)] dX8_doTwo_6 (by decide) rfl ?_
  refine J_aload_n E dX8_doTwo_8 1 rfl ?_
  refine J_iload_n E dX8_doTwo_9 3 rfl ?_
  refine J_iconst E 0 dX8_doTwo_10 (by decide) ?_
  refine J_callVI E cal_X8_liftsIn wd1175 rfl (S_X8.h S0) [.int x_1, .int 0] [] (ct_X8_liftsIn l D dA G v w (hOk) h0 S0 x_1 bx_1 0 ((Bd.lit 0 0 (by decide)).w 0 60 (by decide))) rfl rfl (Nat.le_of_ble_eq_true rfl) ⟨rfl, rfl⟩ ⟨Nat.le_of_ble_eq_true rfl, Nat.le_of_ble_eq_true rfl⟩ dX8_doTwo_11 (fun x8 v5 w6 p7 => ?_)
  rw [p7.1, p7.2.1]
  refine J_istore E [(5, .int x8), (4, .int x4), (0, .ref h0), (1, .int x_0), (2, .int x_1), (3, .int x_2)] dX8_doTwo_14 (by decide) rfl ?_
  refine J_aload_n E dX8_doTwo_16 2 rfl ?_
  refine J_iload_n E dX8_doTwo_17 5 rfl ?_
  refine J_iconst E 0 dX8_doTwo_18 (by decide) ?_
  refine J_callVI E cal_X8_liftsIn wd1175 rfl (S_X8.h S0) [.int x_2, .int 0] [] (ct_X8_liftsIn l D dA G v w (hOk) h0 S0 x_2 (bx_2.w 0 6 (by decide)) 0 ((Bd.lit 0 0 (by decide)).w 0 60 (by decide))) rfl rfl (Nat.le_of_ble_eq_true rfl) ⟨rfl, rfl⟩ ⟨Nat.le_of_ble_eq_true rfl, Nat.le_of_ble_eq_true rfl⟩ dX8_doTwo_19 (fun x12 v9 w10 p11 => ?_)
  rw [p11.1, p11.2.1]
  refine J_istore E [(6, .int x12), (5, .int x8), (4, .int x4), (0, .ref h0), (1, .int x_0), (2, .int x_1), (3, .int x_2)] dX8_doTwo_22 (by decide) rfl ?_
  refine J_aload_n E dX8_doTwo_24 3 rfl ?_
  refine J_iload_n E dX8_doTwo_25 5 rfl ?_
  refine J_callVI E cal_X8_isLost wd1128 rfl (S_X8.h S0) [.int x_1] [] (ct_X8_isLost l D dA G v w (hOk) h0 S0 x_1 bx_1) rfl rfl (Nat.le_of_ble_eq_true rfl) ⟨rfl, rfl⟩ ⟨Nat.le_of_ble_eq_true rfl, Nat.le_of_ble_eq_true rfl⟩ dX8_doTwo_26 (fun x16 v13 w14 p15 => ?_)
  rw [p15.1, p15.2.1]
  have b17 : Bd x16 0 1 := p15.2.2.1
  refine J_if_ne E 68 dX8_doTwo_29 (by decide) (fun c18 => ?_) (fun c18 => ?_)
  · have b19 : Bd x16 1 1 := (Bd.ne_lo c18 b17 (Bd.lit 0 0 (by decide))).w _ _ (by decide)
    refine J_iconst E 0 dX8_doTwo_68 (by decide) ?_
    exact J_zret E hr (Bd.z (Bd.lit 0 0 (by decide)) (by decide)) dX8_doTwo_69 ⟨rfl, rfl, ((Bd.lit 0 0 (by decide)).w 0 1 (by decide)), trivial⟩
  · have b20 : Bd x16 0 0 := Bd.eq_l c18 b17 (Bd.lit 0 0 (by decide)) 0 0 (by decide)
    refine J_aload_n E dX8_doTwo_32 3 rfl ?_
    refine J_iload_n E dX8_doTwo_33 6 rfl ?_
    refine J_callVI E cal_X8_isLost wd1128 rfl (S_X8.h S0) [.int x_2] [] (ct_X8_isLost l D dA G v w (hOk) h0 S0 x_2 (bx_2.w 0 6 (by decide))) rfl rfl (Nat.le_of_ble_eq_true rfl) ⟨rfl, rfl⟩ ⟨Nat.le_of_ble_eq_true rfl, Nat.le_of_ble_eq_true rfl⟩ dX8_doTwo_34 (fun x24 v21 w22 p23 => ?_)
    rw [p23.1, p23.2.1]
    have b25 : Bd x24 0 1 := p23.2.2.1
    refine J_if_ne E 68 dX8_doTwo_37 (by decide) (fun c26 => ?_) (fun c26 => ?_)
    · have b27 : Bd x24 1 1 := (Bd.ne_lo c26 b25 (Bd.lit 0 0 (by decide))).w _ _ (by decide)
      refine J_iconst E 0 dX8_doTwo_68 (by decide) ?_
      exact J_zret E hr (Bd.z (Bd.lit 0 0 (by decide)) (by decide)) dX8_doTwo_69 ⟨rfl, rfl, ((Bd.lit 0 0 (by decide)).w 0 1 (by decide)), trivial⟩
    · have b28 : Bd x24 0 0 := Bd.eq_l c26 b25 (Bd.lit 0 0 (by decide)) 0 0 (by decide)
      refine J_iload E dX8_doTwo_40 1 rfl ?_
      refine J_iload E dX8_doTwo_42 2 rfl ?_
      refine J_icmp_ge E 68 dX8_doTwo_44 (by decide) (fun c29 => ?_) (fun c29 => ?_)
      · refine J_iconst E 0 dX8_doTwo_68 (by decide) ?_
        exact J_zret E hr (Bd.z (Bd.lit 0 0 (by decide)) (by decide)) dX8_doTwo_69 ⟨rfl, rfl, ((Bd.lit 0 0 (by decide)).w 0 1 (by decide)), trivial⟩
      · refine J_iload E dX8_doTwo_47 0 rfl ?_
        refine J_iload E dX8_doTwo_49 2 rfl ?_
        refine J_icmp_ge E 68 dX8_doTwo_51 (by decide) (fun c30 => ?_) (fun c30 => ?_)
        · refine J_iconst E 0 dX8_doTwo_68 (by decide) ?_
          exact J_zret E hr (Bd.z (Bd.lit 0 0 (by decide)) (by decide)) dX8_doTwo_69 ⟨rfl, rfl, ((Bd.lit 0 0 (by decide)).w 0 1 (by decide)), trivial⟩
        · refine J_iload E dX8_doTwo_54 1 rfl ?_
          refine J_iload E dX8_doTwo_56 0 rfl ?_
          refine J_iadd E dX8_doTwo_58 (fun x31 e32 => ?_)
          refine J_iload E dX8_doTwo_59 2 rfl ?_
          refine J_icmp_lt E 68 dX8_doTwo_61 (by decide) (fun c33 => ?_) (fun c33 => ?_)
          · refine J_iconst E 0 dX8_doTwo_68 (by decide) ?_
            exact J_zret E hr (Bd.z (Bd.lit 0 0 (by decide)) (by decide)) dX8_doTwo_69 ⟨rfl, rfl, ((Bd.lit 0 0 (by decide)).w 0 1 (by decide)), trivial⟩
          · refine J_iconst E 1 dX8_doTwo_64 (by decide) ?_
            refine J_goto E 69 dX8_doTwo_65 (by decide) ?_
            exact J_zret E hr (Bd.z (Bd.lit 1 1 (by decide)) (by decide)) dX8_doTwo_69 ⟨rfl, rfl, ((Bd.lit 1 1 (by decide)).w 0 1 (by decide)), trivial⟩

abbrev rm_X8_two : Room := { frames := 5, cells := 0, slots := 0, locals := 113 }
set_option maxHeartbeats 4000000 in
set_option maxRecDepth 100000 in
theorem ct_X8_two (l : Launch) (D : va_G) (dA : Nat → ClassId) (G : Gm) (v : Mv) (w : Mw) (hOk : Ok G v w) (h0 : Nat) (S0 : S_X8 G h0) (x_0 : Int32) (x_1 : Int32) : CtI l yX8_two cX8_two 6 (some .int) rm_X8_two D dA G [.ref h0, .int x_0, .int x_1] v w (fun r v1 w1 => Ok G v1 w1 ∧ Kp G v v1 ∧ True ∧ Fr G [103] v v1) := by
  refine CtI.of RX8 [(0, .ref h0), (1, .int x_0), (2, .int x_1)] (Nat.le_of_ble_eq_true rfl) rfl (by decide) rfl ?_
  intro p e s m args below meth c E hr
  have J26 : ∀ n26 : Nat, Bd x_0 0 6 → Bd x_1 (-1) I1 → ∀ x3 : Int32, ∀ x4 : Int32, Bd x4 0 7 → Mu x4 7 n26 → J p l e rm_X8_two s m args below meth c 0 0 (MQ below (QcI D dA G (fun r v1 w1 => Ok G v1 w1 ∧ Kp G v v1 ∧ True ∧ Fr G [103] v v1)) args s 0 0 (dm G)) D dA G (dm G) s.heap 6 v w [(0, .ref h0), (1, .int x_0), (2, .int x_1), (3, .int x3), (4, .int x4)] 26 [] := by
    intro n26
    induction n26 with
    | zero => intro b1 b2 x3 x4 b5 hm; exact hm.zero b5 (by decide)
    | succ n26 ih26 =>
      intro b1 b2 x3 x4 b5 hmu26
      have J43 : ∀ n43 : Nat, Bd x_0 0 6 → Bd x_1 (-1) I1 → ∀ x8 : Int32, Bd x4 0 6 → ∀ x10 : Int32, Bd x10 1 7 → Mu x10 7 n43 → J p l e rm_X8_two s m args below meth c 0 0 (MQ below (QcI D dA G (fun r v1 w1 => Ok G v1 w1 ∧ Kp G v v1 ∧ True ∧ Fr G [103] v v1)) args s 0 0 (dm G)) D dA G (dm G) s.heap 6 v w [(0, .ref h0), (1, .int x_0), (2, .int x_1), (3, .int x8), (4, .int x4), (5, .int x10)] 43 [] := by
        intro n43
        induction n43 with
        | zero => intro b6 b7 x8 b9 x10 b11 hm; exact hm.zero b11 (by decide)
        | succ n43 ih43 =>
          intro b6 b7 x8 b9 x10 b11 hmu43
          have J83 : Bd x_0 0 6 → Bd x_1 (-1) I1 → ∀ x14 : Int32, Bd x4 0 6 → Bd x10 1 6 → J p l e rm_X8_two s m args below meth c 0 0 (MQ below (QcI D dA G (fun r v1 w1 => Ok G v1 w1 ∧ Kp G v v1 ∧ True ∧ Fr G [103] v v1)) args s 0 0 (dm G)) D dA G (dm G) s.heap 6 v w [(0, .ref h0), (1, .int x_0), (2, .int x_1), (3, .int x14), (4, .int x4), (5, .int x10)] 83 [] := by
            intro b12 b13 x14 b15 b16
            refine J_iinc E 5 1 (fun z => [(5, .int z), (0, .ref h0), (1, .int x_0), (2, .int x_1), (3, .int x14), (4, .int x4)]) dX8_two_83 rfl (by decide) (by decide) (fun _ => rfl) (fun x17 e18 => ?_)
            have b19 : Bd x17 2 7 := (Bd.add e18 b16 (Bd.lit 1 1 (by decide)) (by decide)).w _ _ (by decide)
            refine J_goto E 43 dX8_two_86 (by decide) ?_
            exact J.sub [1, 2, 3, 4, 5, 0] rfl (ih43 b12 b13 x14 b15 x17 (b19.w 1 7 (by decide)) (Mu.step hmu43 e18 b16 (Bd.lit 1 1 (by decide)) (by decide)))
          refine J_iload E dX8_two_43 5 rfl ?_
          refine J_aload_n E dX8_two_45 0 rfl ?_
          refine J_getR E in_X8 rfl (S_X8.h S0) 1 (by decide) wd936 rfl dX8_two_46 ?_
          refine J_iconst E 1 dX8_two_49 (by decide) ?_
          refine J_iald1 E (S_X8.f1 S0) (Bd.in (Bd.lit 1 1 (by decide)) (by decide)) dX8_two_50 (fun x20 e21 => ?_)
          have b22 : Bd x20 0 7 := Bd.e (Ok.ld hOk (S_X8.f1 S0) (Bd.lit 1 1 (by decide)) 1 1 0 7 (by decide) (by decide +kernel)) e21
          have e23 : x20 = v (rf G h0 1) 1 := by rw [e21, Bd.ix (Bd.lit 1 1 (by decide)) 1 rfl]
          refine J_icmp_ge E 89 dX8_two_51 (by decide) (fun c24 => ?_) (fun c24 => ?_)
          · refine J_iinc E 4 1 (fun z => [(4, .int z), (0, .ref h0), (1, .int x_0), (2, .int x_1), (3, .int x8), (5, .int x10)]) dX8_two_89 rfl (by decide) (by decide) (fun _ => rfl) (fun x25 e26 => ?_)
            have b27 : Bd x25 1 7 := (Bd.add e26 b9 (Bd.lit 1 1 (by decide)) (by decide)).w _ _ (by decide)
            refine J_goto E 26 dX8_two_92 (by decide) ?_
            exact J.sub [1, 2, 3, 4, 0] rfl (ih26 b6 b7 x8 x25 (b27.w 0 7 (by decide)) (Mu.step hmu26 e26 b9 (Bd.lit 1 1 (by decide)) (by decide)))
          · have b28 : Bd x10 1 6 := Bd.lt_l (nle c24) b11 b22 6 (by decide)
            have b29 : Bd x20 2 7 := Bd.lt_r (nle c24) b11 b22 2 (by decide)
            refine J_aload_n E dX8_two_54 0 rfl ?_
            refine J_iload_n E dX8_two_55 1 rfl ?_
            refine J_iload E dX8_two_56 4 rfl ?_
            refine J_iload E dX8_two_58 5 rfl ?_
            refine J_callVI E cal_X8_doTwo wd1232 rfl (S_X8.h S0) [.int x_0, .int x4, .int x10] [] (ct_X8_doTwo l D dA G v w (hOk) h0 S0 x_0 b6 x4 b9 x10 b28) rfl rfl (Nat.le_of_ble_eq_true rfl) ⟨rfl, rfl⟩ ⟨Nat.le_of_ble_eq_true rfl, Nat.le_of_ble_eq_true rfl⟩ dX8_two_60 (fun x33 v30 w31 p32 => ?_)
            rw [p32.1, p32.2.1]
            have b34 : Bd x33 0 1 := p32.2.2.1
            refine J_if_eq E 83 dX8_two_63 (by decide) (fun c35 => ?_) (fun c35 => ?_)
            · have b36 : Bd x33 0 0 := Bd.eq_l c35 b34 (Bd.lit 0 0 (by decide)) 0 0 (by decide)
              exact J.sub [0, 1, 2, 3, 4, 5] rfl (J83 b6 b7 x8 b9 b28)
            · have b37 : Bd x33 1 1 := (Bd.ne_lo c35 b34 (Bd.lit 0 0 (by decide))).w _ _ (by decide)
              refine J_iload_n E dX8_two_66 3 rfl ?_
              refine J_iload_n E dX8_two_67 2 rfl ?_
              refine J_icmp_ne E 80 dX8_two_68 (by decide) (fun c38 => ?_) (fun c38 => ?_)
              · refine J_iinc E 3 1 (fun z => [(3, .int z), (0, .ref h0), (1, .int x_0), (2, .int x_1), (4, .int x4), (5, .int x10)]) dX8_two_80 rfl (by decide) (by decide) (fun _ => rfl) (fun x39 e40 => ?_)
                exact J.sub [1, 2, 3, 0, 4, 5] rfl (J83 b6 b7 x39 b9 b28)
              · have b41 : Bd x8 (-1) I1 := Bd.eq_l c38 (Bd.any x8) b7 (-1) 2147483647 (by decide)
                refine J_bipush E 10 dX8_two_71 (by decide) ?_
                refine J_iload E dX8_two_73 4 rfl ?_
                refine J_imul E dX8_two_75 (fun x42 e43 => ?_)
                have b44 : Bd x42 0 60 := Bd.mul e43 (Bd.lit 10 10 (by decide)) b9 (by decide)
                refine J_iload E dX8_two_76 5 rfl ?_
                refine J_iadd E dX8_two_78 (fun x45 e46 => ?_)
                have b47 : Bd x45 1 66 := (Bd.add e46 b44 b28 (by decide)).w _ _ (by decide)
                exact J_iret E hr dX8_two_79 ⟨hOk, Kp.rf, trivial, Fr.rf⟩
      refine J_iload E dX8_two_26 4 rfl ?_
      refine J_aload_n E dX8_two_28 0 rfl ?_
      refine J_getR E in_X8 rfl (S_X8.h S0) 1 (by decide) wd936 rfl dX8_two_29 ?_
      refine J_iconst E 1 dX8_two_32 (by decide) ?_
      refine J_iald1 E (S_X8.f1 S0) (Bd.in (Bd.lit 1 1 (by decide)) (by decide)) dX8_two_33 (fun x48 e49 => ?_)
      have b50 : Bd x48 0 7 := Bd.e (Ok.ld hOk (S_X8.f1 S0) (Bd.lit 1 1 (by decide)) 1 1 0 7 (by decide) (by decide +kernel)) e49
      have e51 : x48 = v (rf G h0 1) 1 := by rw [e49, Bd.ix (Bd.lit 1 1 (by decide)) 1 rfl]
      refine J_icmp_ge E 95 dX8_two_34 (by decide) (fun c52 => ?_) (fun c52 => ?_)
      · refine J_iload_n E dX8_two_95 2 rfl ?_
        refine J_iconst E (-1) dX8_two_96 (by decide) ?_
        refine J_icmp_ne E 104 dX8_two_97 (by decide) (fun c53 => ?_) (fun c53 => ?_)
        · have b54 : Bd x_1 0 I1 := (Bd.ne_lo c53 b2 (Bd.lit (-1) (-1) (by decide))).w _ _ (by decide)
          refine J_bipush E (-5) dX8_two_104 (by decide) ?_
          exact J_iret E hr dX8_two_106 ⟨hOk, Kp.rf, trivial, Fr.rf⟩
        · have b55 : Bd x_1 (-1) (-1) := Bd.eq_l c53 b2 (Bd.lit (-1) (-1) (by decide)) (-1) (-1) (by decide)
          refine J_iload_n E dX8_two_100 3 rfl ?_
          refine J_goto E 106 dX8_two_101 (by decide) ?_
          exact J_iret E hr dX8_two_106 ⟨hOk, Kp.rf, trivial, Fr.rf⟩
      · have b56 : Bd x4 0 6 := Bd.lt_l (nle c52) b5 b50 6 (by decide)
        have b57 : Bd x48 1 7 := Bd.lt_r (nle c52) b5 b50 1 (by decide)
        refine J_iload E dX8_two_37 4 rfl ?_
        refine J_iconst E 1 dX8_two_39 (by decide) ?_
        refine J_iadd E dX8_two_40 (fun x58 e59 => ?_)
        have b60 : Bd x58 1 7 := (Bd.add e59 b56 (Bd.lit 1 1 (by decide)) (by decide)).w _ _ (by decide)
        refine J_istore E [(5, .int x58), (0, .ref h0), (1, .int x_0), (2, .int x_1), (3, .int x3), (4, .int x4)] dX8_two_41 (by decide) rfl ?_
        exact J.sub [1, 2, 3, 4, 5, 0] rfl (J43 7 b1 b2 x3 b56 x58 b60 (Mu.start _ b60 (by decide)))
  have J13 :  J p l e rm_X8_two s m args below meth c 0 0 (MQ below (QcI D dA G (fun r v1 w1 => Ok G v1 w1 ∧ Kp G v v1 ∧ True ∧ Fr G [103] v v1)) args s 0 0 (dm G)) D dA G (dm G) s.heap 6 v w [(0, .ref h0)] 13 [] := by
    refine J_aload_n E dX8_two_13 0 rfl ?_
    refine J_callVI E cal_X8_bad wd999 rfl (S_X8.h S0) [] [] (ct_X8_bad l D dA G v w (hOk) h0 S0) rfl rfl (Nat.le_of_ble_eq_true rfl) ⟨rfl, rfl⟩ ⟨Nat.le_of_ble_eq_true rfl, Nat.le_of_ble_eq_true rfl⟩ dX8_two_14 (fun x64 v61 w62 p63 => ?_)
    have ew9 : w = w62 := p63.2.2.2.1.1.symm
    subst ew9
    have o65 := p63.1
    have k66 : Kp G v v61 := (Kp.rf).tr p63.2.1
    have f67 : Fr G [103] v v61 := Fr.tr Fr.rf (p63.2.2.2.2) (by decide)
    have b68 : Bd x64 (-2) (-2) := p63.2.2.1
    refine J_pop E dX8_two_17 rfl ?_
    refine J_bipush E (-10) dX8_two_18 (by decide) ?_
    exact J_iret E hr dX8_two_20 ⟨o65, k66, trivial, f67⟩
  refine J_aload_n E dX8_two_0 0 rfl ?_
  refine J_iload_n E dX8_two_1 1 rfl ?_
  refine J_callVI E cal_X8_isThing wd1124 rfl (S_X8.h S0) [.int x_0] [] (ct_X8_isThing l D dA G v w (hOk) h0 S0 x_0) rfl rfl (Nat.le_of_ble_eq_true rfl) ⟨rfl, rfl⟩ ⟨Nat.le_of_ble_eq_true rfl, Nat.le_of_ble_eq_true rfl⟩ dX8_two_2 (fun x72 v69 w70 p71 => ?_)
  rw [p71.1, p71.2.1]
  have b73 : Bd x72 0 1 := p71.2.2.1
  refine J_if_eq E 13 dX8_two_5 (by decide) (fun c74 => ?_) (fun c74 => ?_)
  · have b75 : Bd x72 0 0 := Bd.eq_l c74 b73 (Bd.lit 0 0 (by decide)) 0 0 (by decide)
    exact J.sub [0] rfl (J13)
  · have b76 : Bd x72 1 1 := (Bd.ne_lo c74 b73 (Bd.lit 0 0 (by decide))).w _ _ (by decide)
    have b77 : Bd x_0 0 6 := (p71.2.2.2.1).resolve_left c74
    refine J_iload_n E dX8_two_8 2 rfl ?_
    refine J_iconst E (-1) dX8_two_9 (by decide) ?_
    refine J_icmp_ge E 21 dX8_two_10 (by decide) (fun c78 => ?_) (fun c78 => ?_)
    · have b79 : Bd x_1 (-1) I1 := Bd.le_r c78 (Bd.lit (-1) (-1) (by decide)) (Bd.any x_1) (-1) (by decide)
      refine J_iconst E 0 dX8_two_21 (by decide) ?_
      refine J_istore_n E [(3, .int 0), (0, .ref h0), (1, .int x_0), (2, .int x_1)] dX8_two_22 rfl (by decide) rfl ?_
      refine J_iconst E 0 dX8_two_23 (by decide) ?_
      refine J_istore E [(4, .int 0), (3, .int 0), (0, .ref h0), (1, .int x_0), (2, .int x_1)] dX8_two_24 (by decide) rfl ?_
      exact J.sub [2, 3, 4, 1, 0] rfl (J26 8 b77 b79 0 0 ((Bd.lit 0 0 (by decide)).w 0 7 (by decide)) (Mu.start _ (Bd.lit 0 0 (by decide)) (by decide)))
    · have b80 : Bd x_1 I0 (-2) := Bd.lt_l (nle c78) (Bd.any x_1) (Bd.lit (-1) (-1) (by decide)) (-2) (by decide)
      exact J.sub [0] rfl (J13)

def K_X8_tell4_50_2_e (G : Gm) (w : Mw) (v : Mv) (h0 : Nat) (x_2 : Int32) (x_3 : Int32) (x_4 : Int32) (x_5 : Int32) : Int32 × Mv :=
  (((v (rf G h0 1) 2) + (1 : Int32)), (stv (stv (stv (stv (stv v (rf G h0 1) (Int32.toNatClampNeg ((50 : Int32) + ((4 : Int32) * (v (rf G h0 1) 2)))) x_2) (rf G h0 1) (Int32.toNatClampNeg (((50 : Int32) + ((4 : Int32) * (v (rf G h0 1) 2))) + (1 : Int32))) x_3) (rf G h0 1) (Int32.toNatClampNeg (((50 : Int32) + ((4 : Int32) * (v (rf G h0 1) 2))) + (2 : Int32))) x_4) (rf G h0 1) (Int32.toNatClampNeg (((50 : Int32) + ((4 : Int32) * (v (rf G h0 1) 2))) + (3 : Int32))) x_5) (rf G h0 1) (Int32.toNatClampNeg (2 : Int32)) ((v (rf G h0 1) 2) + (1 : Int32))))
def F_X8_tell4_50_2 (G : Gm) (w : Mw) (v : Mv) (h0 : Nat) (x_2 : Int32) (x_3 : Int32) (x_4 : Int32) (x_5 : Int32) : Int32 × Mv := K_X8_tell4_50_2_e G w v h0 x_2 x_3 x_4 x_5
set_option maxRecDepth 100000 in
theorem kx_X8_tell4_50_2_1 {G : Gm} {w : Mw} {v : Mv} {h0 : Nat} {x_2 : Int32} {x_3 : Int32} {x_4 : Int32} {x_5 : Int32} {x46 : Int32} {v49 : Mv} {z_0 : Int32} {x4 : Int32} {x7 : Int32} {v10 : Mv} {x16 : Int32} {v19 : Mv} {x25 : Int32} {v28 : Mv} {x34 : Int32} {v37 : Mv} (a0 : z_0 = v (rf G h0 1) 2) (a1 : x4 = (4 : Int32) * z_0) (a2 : x7 = (50 : Int32) + x4) (a3 : v10 = stv v (rf G h0 1) (Int32.toNatClampNeg x7) x_2) (a4 : x16 = x7 + (1 : Int32)) (a5 : v19 = stv v10 (rf G h0 1) (Int32.toNatClampNeg x16) x_3) (a6 : x25 = x7 + (2 : Int32)) (a7 : v28 = stv v19 (rf G h0 1) (Int32.toNatClampNeg x25) x_4) (a8 : x34 = x7 + (3 : Int32)) (a9 : v37 = stv v28 (rf G h0 1) (Int32.toNatClampNeg x34) x_5) (a10 : x46 = z_0 + (1 : Int32)) (a11 : v49 = stv v37 (rf G h0 1) (Int32.toNatClampNeg (2 : Int32)) x46)  : K_X8_tell4_50_2_e G w v h0 x_2 x_3 x_4 x_5 = (x46, v49) := by
  subst a11; subst a10; subst a9; subst a8; subst a7; subst a6; subst a5; subst a4; subst a3; subst a2; subst a1; subst a0; first | rw [K_X8_tell4_50_2_e] | simp only [K_X8_tell4_50_2_e]
abbrev rm_X8_tell4_50_2 : Room := { frames := 0, cells := 0, slots := 0, locals := 0 }
set_option maxHeartbeats 4000000 in
set_option maxRecDepth 100000 in
theorem ct_X8_tell4_50_2 (l : Launch) (D : va_G) (dA : Nat → ClassId) (G : Gm) (v : Mv) (w : Mw) (hOk : Ok G v w) (h0 : Nat) (S0 : S_X8 G h0) (x_2 : Int32) (bx_2 : Bd x_2 0 6) (x_3 : Int32) (bx_3 : Bd x_3 0 99) (x_4 : Int32) (bx_4 : Bd x_4 0 60) (x_5 : Int32) (bx_5 : Bd x_5 0 1) (z_0 : Int32) (ez_0 : z_0 = v (rf G h0 1) 2) (pre0 : Bd z_0 0 4) : CtI l yX8_tell4 cX8_tell4 8 (some .int) rm_X8_tell4_50_2 D dA G [.ref h0, .int 50, .int 2, .int x_2, .int x_3, .int x_4, .int x_5] v w (fun r v1 w1 => Ok G v1 w1 ∧ True ∧ Bd r 1 5 ∧ (w1 = w ∧ (r, v1) = F_X8_tell4_50_2 G w v h0 x_2 x_3 x_4 x_5) ∧ Fr G [1084] v v1) := by
  refine CtI.of RX8 [(0, .ref h0), (1, .int 50), (2, .int 2), (3, .int x_2), (4, .int x_3), (5, .int x_4), (6, .int x_5)] (Nat.le_of_ble_eq_true rfl) rfl (by decide) rfl ?_
  intro p e s m args below meth c E hr
  have hK : K_X8_tell4_50_2_e G w v h0 x_2 x_3 x_4 x_5 = F_X8_tell4_50_2 G w v h0 x_2 x_3 x_4 x_5 := rfl
  refine J_iload_n E dX8_tell4_0 1 rfl ?_
  refine J_iconst E 4 dX8_tell4_1 (by decide) ?_
  refine J_aload_n E dX8_tell4_2 0 rfl ?_
  refine J_getR E in_X8 rfl (S_X8.h S0) 1 (by decide) wd936 rfl dX8_tell4_3 ?_
  refine J_iload_n E dX8_tell4_6 2 rfl ?_
  refine J_iald1 E (S_X8.f1 S0) (Bd.in (Bd.lit 2 2 (by decide)) (by decide)) dX8_tell4_7 (fun x1 e2 => ?_)
  have b3 : Bd x1 0 5 := Bd.e (Ok.ld hOk (S_X8.f1 S0) (Bd.lit 2 2 (by decide)) 2 1 0 5 (by decide) (by decide +kernel)) e2
  have e2q : x1 = z_0 := by rw [e2, Bd.ix (Bd.lit 2 2 (by decide)) 2 rfl]; exact (ez_0).symm
  rw [e2q]
  refine J_imul E dX8_tell4_8 (fun x4 e5 => ?_)
  have b6 : Bd x4 0 16 := Bd.mul e5 (Bd.lit 4 4 (by decide)) pre0 (by decide)
  refine J_iadd E dX8_tell4_9 (fun x7 e8 => ?_)
  have b9 : Bd x7 50 66 := (Bd.add e8 (Bd.lit 50 50 (by decide)) b6 (by decide)).w _ _ (by decide)
  refine J_istore E [(7, .int x7), (0, .ref h0), (1, .int 50), (2, .int 2), (3, .int x_2), (4, .int x_3), (5, .int x_4), (6, .int x_5)] dX8_tell4_10 (by decide) rfl ?_
  refine J_aload_n E dX8_tell4_12 1 rfl ?_
  refine J_getR E in_X8 rfl (S_X8.h S0) 1 (by decide) wd936 rfl dX8_tell4_13 ?_
  refine J_iload E dX8_tell4_16 0 rfl ?_
  refine J_iload_n E dX8_tell4_18 4 rfl ?_
  refine J_iast1 E (S_X8.f1 S0) (Bd.in b9 (by decide)) dX8_tell4_19 (fun v10 e11 => ?_)
  have o12 : Ok G v10 w := by rw [e11]; exact Ok.sw hOk (S_X8.f1 S0) b9 bx_2 50 17 (by decide) (by decide +kernel)
  have k13 : True := trivial
  have f14 : Fr G [1084] v v10 := Fr.st Fr.rf e11 (S_X8.f1 S0) rfl
  have e15 : z_0 = v10 (rf G h0 1) 2 := by rw [e11, stv_k (Bd.nix b9 2 (by decide))]; exact ez_0
  refine J_aload_n E dX8_tell4_20 1 rfl ?_
  refine J_getR E in_X8 rfl (S_X8.h S0) 1 (by decide) wd936 rfl dX8_tell4_21 ?_
  refine J_iload E dX8_tell4_24 0 rfl ?_
  refine J_iconst E 1 dX8_tell4_26 (by decide) ?_
  refine J_iadd E dX8_tell4_27 (fun x16 e17 => ?_)
  have b18 : Bd x16 51 67 := (Bd.add e17 b9 (Bd.lit 1 1 (by decide)) (by decide)).w _ _ (by decide)
  refine J_iload E dX8_tell4_28 5 rfl ?_
  refine J_iast1 E (S_X8.f1 S0) (Bd.in b18 (by decide)) dX8_tell4_30 (fun v19 e20 => ?_)
  have o21 : Ok G v19 w := by rw [e20]; exact Ok.sw o12 (S_X8.f1 S0) b18 bx_3 51 17 (by decide) (by decide +kernel)
  have k22 : True := trivial
  have f23 : Fr G [1084] v v19 := Fr.st f14 e20 (S_X8.f1 S0) rfl
  have e24 : z_0 = v19 (rf G h0 1) 2 := by rw [e20, stv_k (Bd.nix b18 2 (by decide))]; exact e15
  refine J_aload_n E dX8_tell4_31 1 rfl ?_
  refine J_getR E in_X8 rfl (S_X8.h S0) 1 (by decide) wd936 rfl dX8_tell4_32 ?_
  refine J_iload E dX8_tell4_35 0 rfl ?_
  refine J_iconst E 2 dX8_tell4_37 (by decide) ?_
  refine J_iadd E dX8_tell4_38 (fun x25 e26 => ?_)
  have b27 : Bd x25 52 68 := (Bd.add e26 b9 (Bd.lit 2 2 (by decide)) (by decide)).w _ _ (by decide)
  refine J_iload E dX8_tell4_39 6 rfl ?_
  refine J_iast1 E (S_X8.f1 S0) (Bd.in b27 (by decide)) dX8_tell4_41 (fun v28 e29 => ?_)
  have o30 : Ok G v28 w := by rw [e29]; exact Ok.sw o21 (S_X8.f1 S0) b27 bx_4 52 17 (by decide) (by decide +kernel)
  have k31 : True := trivial
  have f32 : Fr G [1084] v v28 := Fr.st f23 e29 (S_X8.f1 S0) rfl
  have e33 : z_0 = v28 (rf G h0 1) 2 := by rw [e29, stv_k (Bd.nix b27 2 (by decide))]; exact e24
  refine J_aload_n E dX8_tell4_42 1 rfl ?_
  refine J_getR E in_X8 rfl (S_X8.h S0) 1 (by decide) wd936 rfl dX8_tell4_43 ?_
  refine J_iload E dX8_tell4_46 0 rfl ?_
  refine J_iconst E 3 dX8_tell4_48 (by decide) ?_
  refine J_iadd E dX8_tell4_49 (fun x34 e35 => ?_)
  have b36 : Bd x34 53 69 := (Bd.add e35 b9 (Bd.lit 3 3 (by decide)) (by decide)).w _ _ (by decide)
  refine J_iload E dX8_tell4_50 7 rfl ?_
  refine J_iast1 E (S_X8.f1 S0) (Bd.in b36 (by decide)) dX8_tell4_52 (fun v37 e38 => ?_)
  have o39 : Ok G v37 w := by rw [e38]; exact Ok.sw o30 (S_X8.f1 S0) b36 bx_5 53 17 (by decide) (by decide +kernel)
  have k40 : True := trivial
  have f41 : Fr G [1084] v v37 := Fr.st f32 e38 (S_X8.f1 S0) rfl
  have e42 : z_0 = v37 (rf G h0 1) 2 := by rw [e38, stv_k (Bd.nix b36 2 (by decide))]; exact e33
  refine J_aload_n E dX8_tell4_53 1 rfl ?_
  refine J_getR E in_X8 rfl (S_X8.h S0) 1 (by decide) wd936 rfl dX8_tell4_54 ?_
  refine J_iload_n E dX8_tell4_57 3 rfl ?_
  refine J_dup2 E dX8_tell4_58 rfl rfl ?_
  refine J_iald1 E (S_X8.f1 S0) (Bd.in (Bd.lit 2 2 (by decide)) (by decide)) dX8_tell4_59 (fun x43 e44 => ?_)
  have b45 : Bd x43 0 5 := Bd.e (Ok.ld o39 (S_X8.f1 S0) (Bd.lit 2 2 (by decide)) 2 1 0 5 (by decide) (by decide +kernel)) e44
  have e44q : x43 = z_0 := by rw [e44, Bd.ix (Bd.lit 2 2 (by decide)) 2 rfl]; exact (e42).symm
  rw [e44q]
  refine J_iconst E 1 dX8_tell4_60 (by decide) ?_
  refine J_iadd E dX8_tell4_61 (fun x46 e47 => ?_)
  have b48 : Bd x46 1 5 := (Bd.add e47 pre0 (Bd.lit 1 1 (by decide)) (by decide)).w _ _ (by decide)
  refine J_iast1 E (S_X8.f1 S0) (Bd.in (Bd.lit 2 2 (by decide)) (by decide)) dX8_tell4_62 (fun v49 e50 => ?_)
  have o51 : Ok G v49 w := by rw [e50]; exact Ok.sw o39 (S_X8.f1 S0) (Bd.lit 2 2 (by decide)) b48 2 1 (by decide) (by decide +kernel)
  have k52 : True := trivial
  have f53 : Fr G [1084] v v49 := Fr.st f41 e50 (S_X8.f1 S0) rfl
  have e54 : (x46 : Int32) = v49 (rf G h0 1) 2 := by rw [e50, Bd.ix (Bd.lit 2 2 (by decide)) 2 rfl, stv_s]
  refine J_aload_n E dX8_tell4_63 1 rfl ?_
  refine J_getR E in_X8 rfl (S_X8.h S0) 1 (by decide) wd936 rfl dX8_tell4_64 ?_
  refine J_iload_n E dX8_tell4_67 3 rfl ?_
  refine J_iald1 E (S_X8.f1 S0) (Bd.in (Bd.lit 2 2 (by decide)) (by decide)) dX8_tell4_68 (fun x55 e56 => ?_)
  have b57 : Bd x55 0 5 := Bd.e (Ok.ld o51 (S_X8.f1 S0) (Bd.lit 2 2 (by decide)) 2 1 0 5 (by decide) (by decide +kernel)) e56
  have e56q : x55 = x46 := by rw [e56, Bd.ix (Bd.lit 2 2 (by decide)) 2 rfl]; exact (e54).symm
  rw [e56q]
  exact J_iret E hr dX8_tell4_69 ⟨o51, k52, b48, ⟨⟨rfl, ((kx_X8_tell4_50_2_1 (ez_0) (e5) (e8) (e11) (e17) (e20) (e26) (e29) (e35) (e38) (e47) (e50)).symm.trans hK)⟩, f53⟩⟩

def K_X8_tell4_70_3_e (G : Gm) (w : Mw) (v : Mv) (h0 : Nat) (x_2 : Int32) (x_3 : Int32) (x_4 : Int32) (x_5 : Int32) : Int32 × Mv :=
  (((v (rf G h0 1) 3) + (1 : Int32)), (stv (stv (stv (stv (stv v (rf G h0 1) (Int32.toNatClampNeg ((70 : Int32) + ((4 : Int32) * (v (rf G h0 1) 3)))) x_2) (rf G h0 1) (Int32.toNatClampNeg (((70 : Int32) + ((4 : Int32) * (v (rf G h0 1) 3))) + (1 : Int32))) x_3) (rf G h0 1) (Int32.toNatClampNeg (((70 : Int32) + ((4 : Int32) * (v (rf G h0 1) 3))) + (2 : Int32))) x_4) (rf G h0 1) (Int32.toNatClampNeg (((70 : Int32) + ((4 : Int32) * (v (rf G h0 1) 3))) + (3 : Int32))) x_5) (rf G h0 1) (Int32.toNatClampNeg (3 : Int32)) ((v (rf G h0 1) 3) + (1 : Int32))))
def F_X8_tell4_70_3 (G : Gm) (w : Mw) (v : Mv) (h0 : Nat) (x_2 : Int32) (x_3 : Int32) (x_4 : Int32) (x_5 : Int32) : Int32 × Mv := K_X8_tell4_70_3_e G w v h0 x_2 x_3 x_4 x_5
set_option maxRecDepth 100000 in
theorem kx_X8_tell4_70_3_1 {G : Gm} {w : Mw} {v : Mv} {h0 : Nat} {x_2 : Int32} {x_3 : Int32} {x_4 : Int32} {x_5 : Int32} {x46 : Int32} {v49 : Mv} {z_0 : Int32} {x4 : Int32} {x7 : Int32} {v10 : Mv} {x16 : Int32} {v19 : Mv} {x25 : Int32} {v28 : Mv} {x34 : Int32} {v37 : Mv} (a0 : z_0 = v (rf G h0 1) 3) (a1 : x4 = (4 : Int32) * z_0) (a2 : x7 = (70 : Int32) + x4) (a3 : v10 = stv v (rf G h0 1) (Int32.toNatClampNeg x7) x_2) (a4 : x16 = x7 + (1 : Int32)) (a5 : v19 = stv v10 (rf G h0 1) (Int32.toNatClampNeg x16) x_3) (a6 : x25 = x7 + (2 : Int32)) (a7 : v28 = stv v19 (rf G h0 1) (Int32.toNatClampNeg x25) x_4) (a8 : x34 = x7 + (3 : Int32)) (a9 : v37 = stv v28 (rf G h0 1) (Int32.toNatClampNeg x34) x_5) (a10 : x46 = z_0 + (1 : Int32)) (a11 : v49 = stv v37 (rf G h0 1) (Int32.toNatClampNeg (3 : Int32)) x46)  : K_X8_tell4_70_3_e G w v h0 x_2 x_3 x_4 x_5 = (x46, v49) := by
  subst a11; subst a10; subst a9; subst a8; subst a7; subst a6; subst a5; subst a4; subst a3; subst a2; subst a1; subst a0; first | rw [K_X8_tell4_70_3_e] | simp only [K_X8_tell4_70_3_e]
abbrev rm_X8_tell4_70_3 : Room := { frames := 0, cells := 0, slots := 0, locals := 0 }
set_option maxHeartbeats 4000000 in
set_option maxRecDepth 100000 in
theorem ct_X8_tell4_70_3 (l : Launch) (D : va_G) (dA : Nat → ClassId) (G : Gm) (v : Mv) (w : Mw) (hOk : Ok G v w) (h0 : Nat) (S0 : S_X8 G h0) (x_2 : Int32) (bx_2 : Bd x_2 0 6) (x_3 : Int32) (bx_3 : Bd x_3 1 30) (x_4 : Int32) (bx_4 : Bd x_4 0 99) (x_5 : Int32) (bx_5 : Bd x_5 0 99) (z_0 : Int32) (ez_0 : z_0 = v (rf G h0 1) 3) (pre0 : Bd z_0 0 5) : CtI l yX8_tell4 cX8_tell4 8 (some .int) rm_X8_tell4_70_3 D dA G [.ref h0, .int 70, .int 3, .int x_2, .int x_3, .int x_4, .int x_5] v w (fun r v1 w1 => Ok G v1 w1 ∧ True ∧ Bd r 1 6 ∧ (w1 = w ∧ (r, v1) = F_X8_tell4_70_3 G w v h0 x_2 x_3 x_4 x_5) ∧ Fr G [1084] v v1) := by
  refine CtI.of RX8 [(0, .ref h0), (1, .int 70), (2, .int 3), (3, .int x_2), (4, .int x_3), (5, .int x_4), (6, .int x_5)] (Nat.le_of_ble_eq_true rfl) rfl (by decide) rfl ?_
  intro p e s m args below meth c E hr
  have hK : K_X8_tell4_70_3_e G w v h0 x_2 x_3 x_4 x_5 = F_X8_tell4_70_3 G w v h0 x_2 x_3 x_4 x_5 := rfl
  refine J_iload_n E dX8_tell4_0 1 rfl ?_
  refine J_iconst E 4 dX8_tell4_1 (by decide) ?_
  refine J_aload_n E dX8_tell4_2 0 rfl ?_
  refine J_getR E in_X8 rfl (S_X8.h S0) 1 (by decide) wd936 rfl dX8_tell4_3 ?_
  refine J_iload_n E dX8_tell4_6 2 rfl ?_
  refine J_iald1 E (S_X8.f1 S0) (Bd.in (Bd.lit 3 3 (by decide)) (by decide)) dX8_tell4_7 (fun x1 e2 => ?_)
  have b3 : Bd x1 0 6 := Bd.e (Ok.ld hOk (S_X8.f1 S0) (Bd.lit 3 3 (by decide)) 3 1 0 6 (by decide) (by decide +kernel)) e2
  have e2q : x1 = z_0 := by rw [e2, Bd.ix (Bd.lit 3 3 (by decide)) 3 rfl]; exact (ez_0).symm
  rw [e2q]
  refine J_imul E dX8_tell4_8 (fun x4 e5 => ?_)
  have b6 : Bd x4 0 20 := Bd.mul e5 (Bd.lit 4 4 (by decide)) pre0 (by decide)
  refine J_iadd E dX8_tell4_9 (fun x7 e8 => ?_)
  have b9 : Bd x7 70 90 := (Bd.add e8 (Bd.lit 70 70 (by decide)) b6 (by decide)).w _ _ (by decide)
  refine J_istore E [(7, .int x7), (0, .ref h0), (1, .int 70), (2, .int 3), (3, .int x_2), (4, .int x_3), (5, .int x_4), (6, .int x_5)] dX8_tell4_10 (by decide) rfl ?_
  refine J_aload_n E dX8_tell4_12 1 rfl ?_
  refine J_getR E in_X8 rfl (S_X8.h S0) 1 (by decide) wd936 rfl dX8_tell4_13 ?_
  refine J_iload E dX8_tell4_16 0 rfl ?_
  refine J_iload_n E dX8_tell4_18 4 rfl ?_
  refine J_iast1 E (S_X8.f1 S0) (Bd.in b9 (by decide)) dX8_tell4_19 (fun v10 e11 => ?_)
  have o12 : Ok G v10 w := by rw [e11]; exact Ok.sw hOk (S_X8.f1 S0) b9 bx_2 70 21 (by decide) (by decide +kernel)
  have k13 : True := trivial
  have f14 : Fr G [1084] v v10 := Fr.st Fr.rf e11 (S_X8.f1 S0) rfl
  have e15 : z_0 = v10 (rf G h0 1) 3 := by rw [e11, stv_k (Bd.nix b9 3 (by decide))]; exact ez_0
  refine J_aload_n E dX8_tell4_20 1 rfl ?_
  refine J_getR E in_X8 rfl (S_X8.h S0) 1 (by decide) wd936 rfl dX8_tell4_21 ?_
  refine J_iload E dX8_tell4_24 0 rfl ?_
  refine J_iconst E 1 dX8_tell4_26 (by decide) ?_
  refine J_iadd E dX8_tell4_27 (fun x16 e17 => ?_)
  have b18 : Bd x16 71 91 := (Bd.add e17 b9 (Bd.lit 1 1 (by decide)) (by decide)).w _ _ (by decide)
  refine J_iload E dX8_tell4_28 5 rfl ?_
  refine J_iast1 E (S_X8.f1 S0) (Bd.in b18 (by decide)) dX8_tell4_30 (fun v19 e20 => ?_)
  have o21 : Ok G v19 w := by rw [e20]; exact Ok.sw o12 (S_X8.f1 S0) b18 bx_3 71 21 (by decide) (by decide +kernel)
  have k22 : True := trivial
  have f23 : Fr G [1084] v v19 := Fr.st f14 e20 (S_X8.f1 S0) rfl
  have e24 : z_0 = v19 (rf G h0 1) 3 := by rw [e20, stv_k (Bd.nix b18 3 (by decide))]; exact e15
  refine J_aload_n E dX8_tell4_31 1 rfl ?_
  refine J_getR E in_X8 rfl (S_X8.h S0) 1 (by decide) wd936 rfl dX8_tell4_32 ?_
  refine J_iload E dX8_tell4_35 0 rfl ?_
  refine J_iconst E 2 dX8_tell4_37 (by decide) ?_
  refine J_iadd E dX8_tell4_38 (fun x25 e26 => ?_)
  have b27 : Bd x25 72 92 := (Bd.add e26 b9 (Bd.lit 2 2 (by decide)) (by decide)).w _ _ (by decide)
  refine J_iload E dX8_tell4_39 6 rfl ?_
  refine J_iast1 E (S_X8.f1 S0) (Bd.in b27 (by decide)) dX8_tell4_41 (fun v28 e29 => ?_)
  have o30 : Ok G v28 w := by rw [e29]; exact Ok.sw o21 (S_X8.f1 S0) b27 bx_4 72 21 (by decide) (by decide +kernel)
  have k31 : True := trivial
  have f32 : Fr G [1084] v v28 := Fr.st f23 e29 (S_X8.f1 S0) rfl
  have e33 : z_0 = v28 (rf G h0 1) 3 := by rw [e29, stv_k (Bd.nix b27 3 (by decide))]; exact e24
  refine J_aload_n E dX8_tell4_42 1 rfl ?_
  refine J_getR E in_X8 rfl (S_X8.h S0) 1 (by decide) wd936 rfl dX8_tell4_43 ?_
  refine J_iload E dX8_tell4_46 0 rfl ?_
  refine J_iconst E 3 dX8_tell4_48 (by decide) ?_
  refine J_iadd E dX8_tell4_49 (fun x34 e35 => ?_)
  have b36 : Bd x34 73 93 := (Bd.add e35 b9 (Bd.lit 3 3 (by decide)) (by decide)).w _ _ (by decide)
  refine J_iload E dX8_tell4_50 7 rfl ?_
  refine J_iast1 E (S_X8.f1 S0) (Bd.in b36 (by decide)) dX8_tell4_52 (fun v37 e38 => ?_)
  have o39 : Ok G v37 w := by rw [e38]; exact Ok.sw o30 (S_X8.f1 S0) b36 bx_5 73 21 (by decide) (by decide +kernel)
  have k40 : True := trivial
  have f41 : Fr G [1084] v v37 := Fr.st f32 e38 (S_X8.f1 S0) rfl
  have e42 : z_0 = v37 (rf G h0 1) 3 := by rw [e38, stv_k (Bd.nix b36 3 (by decide))]; exact e33
  refine J_aload_n E dX8_tell4_53 1 rfl ?_
  refine J_getR E in_X8 rfl (S_X8.h S0) 1 (by decide) wd936 rfl dX8_tell4_54 ?_
  refine J_iload_n E dX8_tell4_57 3 rfl ?_
  refine J_dup2 E dX8_tell4_58 rfl rfl ?_
  refine J_iald1 E (S_X8.f1 S0) (Bd.in (Bd.lit 3 3 (by decide)) (by decide)) dX8_tell4_59 (fun x43 e44 => ?_)
  have b45 : Bd x43 0 6 := Bd.e (Ok.ld o39 (S_X8.f1 S0) (Bd.lit 3 3 (by decide)) 3 1 0 6 (by decide) (by decide +kernel)) e44
  have e44q : x43 = z_0 := by rw [e44, Bd.ix (Bd.lit 3 3 (by decide)) 3 rfl]; exact (e42).symm
  rw [e44q]
  refine J_iconst E 1 dX8_tell4_60 (by decide) ?_
  refine J_iadd E dX8_tell4_61 (fun x46 e47 => ?_)
  have b48 : Bd x46 1 6 := (Bd.add e47 pre0 (Bd.lit 1 1 (by decide)) (by decide)).w _ _ (by decide)
  refine J_iast1 E (S_X8.f1 S0) (Bd.in (Bd.lit 3 3 (by decide)) (by decide)) dX8_tell4_62 (fun v49 e50 => ?_)
  have o51 : Ok G v49 w := by rw [e50]; exact Ok.sw o39 (S_X8.f1 S0) (Bd.lit 3 3 (by decide)) b48 3 1 (by decide) (by decide +kernel)
  have k52 : True := trivial
  have f53 : Fr G [1084] v v49 := Fr.st f41 e50 (S_X8.f1 S0) rfl
  have e54 : (x46 : Int32) = v49 (rf G h0 1) 3 := by rw [e50, Bd.ix (Bd.lit 3 3 (by decide)) 3 rfl, stv_s]
  refine J_aload_n E dX8_tell4_63 1 rfl ?_
  refine J_getR E in_X8 rfl (S_X8.h S0) 1 (by decide) wd936 rfl dX8_tell4_64 ?_
  refine J_iload_n E dX8_tell4_67 3 rfl ?_
  refine J_iald1 E (S_X8.f1 S0) (Bd.in (Bd.lit 3 3 (by decide)) (by decide)) dX8_tell4_68 (fun x55 e56 => ?_)
  have b57 : Bd x55 0 6 := Bd.e (Ok.ld o51 (S_X8.f1 S0) (Bd.lit 3 3 (by decide)) 3 1 0 6 (by decide) (by decide +kernel)) e56
  have e56q : x55 = x46 := by rw [e56, Bd.ix (Bd.lit 3 3 (by decide)) 3 rfl]; exact (e54).symm
  rw [e56q]
  exact J_iret E hr dX8_tell4_69 ⟨o51, k52, b48, ⟨⟨rfl, ((kx_X8_tell4_70_3_1 (ez_0) (e5) (e8) (e11) (e17) (e20) (e26) (e29) (e35) (e38) (e47) (e50)).symm.trans hK)⟩, f53⟩⟩

def K_X8_tell4_94_4_e (G : Gm) (w : Mw) (v : Mv) (h0 : Nat) (x_2 : Int32) (x_3 : Int32) (x_4 : Int32) (x_5 : Int32) : Int32 × Mv :=
  (((v (rf G h0 1) 4) + (1 : Int32)), (stv (stv (stv (stv (stv v (rf G h0 1) (Int32.toNatClampNeg ((94 : Int32) + ((4 : Int32) * (v (rf G h0 1) 4)))) x_2) (rf G h0 1) (Int32.toNatClampNeg (((94 : Int32) + ((4 : Int32) * (v (rf G h0 1) 4))) + (1 : Int32))) x_3) (rf G h0 1) (Int32.toNatClampNeg (((94 : Int32) + ((4 : Int32) * (v (rf G h0 1) 4))) + (2 : Int32))) x_4) (rf G h0 1) (Int32.toNatClampNeg (((94 : Int32) + ((4 : Int32) * (v (rf G h0 1) 4))) + (3 : Int32))) x_5) (rf G h0 1) (Int32.toNatClampNeg (4 : Int32)) ((v (rf G h0 1) 4) + (1 : Int32))))
def F_X8_tell4_94_4 (G : Gm) (w : Mw) (v : Mv) (h0 : Nat) (x_2 : Int32) (x_3 : Int32) (x_4 : Int32) (x_5 : Int32) : Int32 × Mv := K_X8_tell4_94_4_e G w v h0 x_2 x_3 x_4 x_5
set_option maxRecDepth 100000 in
theorem kx_X8_tell4_94_4_1 {G : Gm} {w : Mw} {v : Mv} {h0 : Nat} {x_2 : Int32} {x_3 : Int32} {x_4 : Int32} {x_5 : Int32} {x46 : Int32} {v49 : Mv} {z_0 : Int32} {x4 : Int32} {x7 : Int32} {v10 : Mv} {x16 : Int32} {v19 : Mv} {x25 : Int32} {v28 : Mv} {x34 : Int32} {v37 : Mv} (a0 : z_0 = v (rf G h0 1) 4) (a1 : x4 = (4 : Int32) * z_0) (a2 : x7 = (94 : Int32) + x4) (a3 : v10 = stv v (rf G h0 1) (Int32.toNatClampNeg x7) x_2) (a4 : x16 = x7 + (1 : Int32)) (a5 : v19 = stv v10 (rf G h0 1) (Int32.toNatClampNeg x16) x_3) (a6 : x25 = x7 + (2 : Int32)) (a7 : v28 = stv v19 (rf G h0 1) (Int32.toNatClampNeg x25) x_4) (a8 : x34 = x7 + (3 : Int32)) (a9 : v37 = stv v28 (rf G h0 1) (Int32.toNatClampNeg x34) x_5) (a10 : x46 = z_0 + (1 : Int32)) (a11 : v49 = stv v37 (rf G h0 1) (Int32.toNatClampNeg (4 : Int32)) x46)  : K_X8_tell4_94_4_e G w v h0 x_2 x_3 x_4 x_5 = (x46, v49) := by
  subst a11; subst a10; subst a9; subst a8; subst a7; subst a6; subst a5; subst a4; subst a3; subst a2; subst a1; subst a0; first | rw [K_X8_tell4_94_4_e] | simp only [K_X8_tell4_94_4_e]
abbrev rm_X8_tell4_94_4 : Room := { frames := 0, cells := 0, slots := 0, locals := 0 }
set_option maxHeartbeats 4000000 in
set_option maxRecDepth 100000 in
theorem ct_X8_tell4_94_4 (l : Launch) (D : va_G) (dA : Nat → ClassId) (G : Gm) (v : Mv) (w : Mw) (hOk : Ok G v w) (h0 : Nat) (S0 : S_X8 G h0) (x_2 : Int32) (bx_2 : Bd x_2 0 6) (x_3 : Int32) (bx_3 : Bd x_3 1 9) (x_4 : Int32) (bx_4 : Bd x_4 0 99) (x_5 : Int32) (bx_5 : Bd x_5 0 99) (z_0 : Int32) (ez_0 : z_0 = v (rf G h0 1) 4) (pre0 : Bd z_0 0 5) : CtI l yX8_tell4 cX8_tell4 8 (some .int) rm_X8_tell4_94_4 D dA G [.ref h0, .int 94, .int 4, .int x_2, .int x_3, .int x_4, .int x_5] v w (fun r v1 w1 => Ok G v1 w1 ∧ True ∧ Bd r 1 6 ∧ (w1 = w ∧ (r, v1) = F_X8_tell4_94_4 G w v h0 x_2 x_3 x_4 x_5) ∧ Fr G [1084] v v1) := by
  refine CtI.of RX8 [(0, .ref h0), (1, .int 94), (2, .int 4), (3, .int x_2), (4, .int x_3), (5, .int x_4), (6, .int x_5)] (Nat.le_of_ble_eq_true rfl) rfl (by decide) rfl ?_
  intro p e s m args below meth c E hr
  have hK : K_X8_tell4_94_4_e G w v h0 x_2 x_3 x_4 x_5 = F_X8_tell4_94_4 G w v h0 x_2 x_3 x_4 x_5 := rfl
  refine J_iload_n E dX8_tell4_0 1 rfl ?_
  refine J_iconst E 4 dX8_tell4_1 (by decide) ?_
  refine J_aload_n E dX8_tell4_2 0 rfl ?_
  refine J_getR E in_X8 rfl (S_X8.h S0) 1 (by decide) wd936 rfl dX8_tell4_3 ?_
  refine J_iload_n E dX8_tell4_6 2 rfl ?_
  refine J_iald1 E (S_X8.f1 S0) (Bd.in (Bd.lit 4 4 (by decide)) (by decide)) dX8_tell4_7 (fun x1 e2 => ?_)
  have b3 : Bd x1 0 6 := Bd.e (Ok.ld hOk (S_X8.f1 S0) (Bd.lit 4 4 (by decide)) 4 1 0 6 (by decide) (by decide +kernel)) e2
  have e2q : x1 = z_0 := by rw [e2, Bd.ix (Bd.lit 4 4 (by decide)) 4 rfl]; exact (ez_0).symm
  rw [e2q]
  refine J_imul E dX8_tell4_8 (fun x4 e5 => ?_)
  have b6 : Bd x4 0 20 := Bd.mul e5 (Bd.lit 4 4 (by decide)) pre0 (by decide)
  refine J_iadd E dX8_tell4_9 (fun x7 e8 => ?_)
  have b9 : Bd x7 94 114 := (Bd.add e8 (Bd.lit 94 94 (by decide)) b6 (by decide)).w _ _ (by decide)
  refine J_istore E [(7, .int x7), (0, .ref h0), (1, .int 94), (2, .int 4), (3, .int x_2), (4, .int x_3), (5, .int x_4), (6, .int x_5)] dX8_tell4_10 (by decide) rfl ?_
  refine J_aload_n E dX8_tell4_12 1 rfl ?_
  refine J_getR E in_X8 rfl (S_X8.h S0) 1 (by decide) wd936 rfl dX8_tell4_13 ?_
  refine J_iload E dX8_tell4_16 0 rfl ?_
  refine J_iload_n E dX8_tell4_18 4 rfl ?_
  refine J_iast1 E (S_X8.f1 S0) (Bd.in b9 (by decide)) dX8_tell4_19 (fun v10 e11 => ?_)
  have o12 : Ok G v10 w := by rw [e11]; exact Ok.sw hOk (S_X8.f1 S0) b9 bx_2 94 21 (by decide) (by decide +kernel)
  have k13 : True := trivial
  have f14 : Fr G [1084] v v10 := Fr.st Fr.rf e11 (S_X8.f1 S0) rfl
  have e15 : z_0 = v10 (rf G h0 1) 4 := by rw [e11, stv_k (Bd.nix b9 4 (by decide))]; exact ez_0
  refine J_aload_n E dX8_tell4_20 1 rfl ?_
  refine J_getR E in_X8 rfl (S_X8.h S0) 1 (by decide) wd936 rfl dX8_tell4_21 ?_
  refine J_iload E dX8_tell4_24 0 rfl ?_
  refine J_iconst E 1 dX8_tell4_26 (by decide) ?_
  refine J_iadd E dX8_tell4_27 (fun x16 e17 => ?_)
  have b18 : Bd x16 95 115 := (Bd.add e17 b9 (Bd.lit 1 1 (by decide)) (by decide)).w _ _ (by decide)
  refine J_iload E dX8_tell4_28 5 rfl ?_
  refine J_iast1 E (S_X8.f1 S0) (Bd.in b18 (by decide)) dX8_tell4_30 (fun v19 e20 => ?_)
  have o21 : Ok G v19 w := by rw [e20]; exact Ok.sw o12 (S_X8.f1 S0) b18 bx_3 95 21 (by decide) (by decide +kernel)
  have k22 : True := trivial
  have f23 : Fr G [1084] v v19 := Fr.st f14 e20 (S_X8.f1 S0) rfl
  have e24 : z_0 = v19 (rf G h0 1) 4 := by rw [e20, stv_k (Bd.nix b18 4 (by decide))]; exact e15
  refine J_aload_n E dX8_tell4_31 1 rfl ?_
  refine J_getR E in_X8 rfl (S_X8.h S0) 1 (by decide) wd936 rfl dX8_tell4_32 ?_
  refine J_iload E dX8_tell4_35 0 rfl ?_
  refine J_iconst E 2 dX8_tell4_37 (by decide) ?_
  refine J_iadd E dX8_tell4_38 (fun x25 e26 => ?_)
  have b27 : Bd x25 96 116 := (Bd.add e26 b9 (Bd.lit 2 2 (by decide)) (by decide)).w _ _ (by decide)
  refine J_iload E dX8_tell4_39 6 rfl ?_
  refine J_iast1 E (S_X8.f1 S0) (Bd.in b27 (by decide)) dX8_tell4_41 (fun v28 e29 => ?_)
  have o30 : Ok G v28 w := by rw [e29]; exact Ok.sw o21 (S_X8.f1 S0) b27 bx_4 96 21 (by decide) (by decide +kernel)
  have k31 : True := trivial
  have f32 : Fr G [1084] v v28 := Fr.st f23 e29 (S_X8.f1 S0) rfl
  have e33 : z_0 = v28 (rf G h0 1) 4 := by rw [e29, stv_k (Bd.nix b27 4 (by decide))]; exact e24
  refine J_aload_n E dX8_tell4_42 1 rfl ?_
  refine J_getR E in_X8 rfl (S_X8.h S0) 1 (by decide) wd936 rfl dX8_tell4_43 ?_
  refine J_iload E dX8_tell4_46 0 rfl ?_
  refine J_iconst E 3 dX8_tell4_48 (by decide) ?_
  refine J_iadd E dX8_tell4_49 (fun x34 e35 => ?_)
  have b36 : Bd x34 97 117 := (Bd.add e35 b9 (Bd.lit 3 3 (by decide)) (by decide)).w _ _ (by decide)
  refine J_iload E dX8_tell4_50 7 rfl ?_
  refine J_iast1 E (S_X8.f1 S0) (Bd.in b36 (by decide)) dX8_tell4_52 (fun v37 e38 => ?_)
  have o39 : Ok G v37 w := by rw [e38]; exact Ok.sw o30 (S_X8.f1 S0) b36 bx_5 97 21 (by decide) (by decide +kernel)
  have k40 : True := trivial
  have f41 : Fr G [1084] v v37 := Fr.st f32 e38 (S_X8.f1 S0) rfl
  have e42 : z_0 = v37 (rf G h0 1) 4 := by rw [e38, stv_k (Bd.nix b36 4 (by decide))]; exact e33
  refine J_aload_n E dX8_tell4_53 1 rfl ?_
  refine J_getR E in_X8 rfl (S_X8.h S0) 1 (by decide) wd936 rfl dX8_tell4_54 ?_
  refine J_iload_n E dX8_tell4_57 3 rfl ?_
  refine J_dup2 E dX8_tell4_58 rfl rfl ?_
  refine J_iald1 E (S_X8.f1 S0) (Bd.in (Bd.lit 4 4 (by decide)) (by decide)) dX8_tell4_59 (fun x43 e44 => ?_)
  have b45 : Bd x43 0 6 := Bd.e (Ok.ld o39 (S_X8.f1 S0) (Bd.lit 4 4 (by decide)) 4 1 0 6 (by decide) (by decide +kernel)) e44
  have e44q : x43 = z_0 := by rw [e44, Bd.ix (Bd.lit 4 4 (by decide)) 4 rfl]; exact (e42).symm
  rw [e44q]
  refine J_iconst E 1 dX8_tell4_60 (by decide) ?_
  refine J_iadd E dX8_tell4_61 (fun x46 e47 => ?_)
  have b48 : Bd x46 1 6 := (Bd.add e47 pre0 (Bd.lit 1 1 (by decide)) (by decide)).w _ _ (by decide)
  refine J_iast1 E (S_X8.f1 S0) (Bd.in (Bd.lit 4 4 (by decide)) (by decide)) dX8_tell4_62 (fun v49 e50 => ?_)
  have o51 : Ok G v49 w := by rw [e50]; exact Ok.sw o39 (S_X8.f1 S0) (Bd.lit 4 4 (by decide)) b48 4 1 (by decide) (by decide +kernel)
  have k52 : True := trivial
  have f53 : Fr G [1084] v v49 := Fr.st f41 e50 (S_X8.f1 S0) rfl
  have e54 : (x46 : Int32) = v49 (rf G h0 1) 4 := by rw [e50, Bd.ix (Bd.lit 4 4 (by decide)) 4 rfl, stv_s]
  refine J_aload_n E dX8_tell4_63 1 rfl ?_
  refine J_getR E in_X8 rfl (S_X8.h S0) 1 (by decide) wd936 rfl dX8_tell4_64 ?_
  refine J_iload_n E dX8_tell4_67 3 rfl ?_
  refine J_iald1 E (S_X8.f1 S0) (Bd.in (Bd.lit 4 4 (by decide)) (by decide)) dX8_tell4_68 (fun x55 e56 => ?_)
  have b57 : Bd x55 0 6 := Bd.e (Ok.ld o51 (S_X8.f1 S0) (Bd.lit 4 4 (by decide)) 4 1 0 6 (by decide) (by decide +kernel)) e56
  have e56q : x55 = x46 := by rw [e56, Bd.ix (Bd.lit 4 4 (by decide)) 4 rfl]; exact (e54).symm
  rw [e56q]
  exact J_iret E hr dX8_tell4_69 ⟨o51, k52, b48, ⟨⟨rfl, ((kx_X8_tell4_94_4_1 (ez_0) (e5) (e8) (e11) (e17) (e20) (e26) (e29) (e35) (e38) (e47) (e50)).symm.trans hK)⟩, f53⟩⟩

def K_X8_seen_c1 (G : Gm) (w : Mw) (h0 : Nat) (v1 : Mv) (x4 : Int32) : Int32 × Mv :=
  (x4, v1)
def K_X8_seen_38 (G : Gm) (w : Mw) (h0 : Nat) (v : Mv) : Int32 × Mv :=
  K_X8_seen_c1 G w h0 ((F_X8_bad G w v h0).2) ((F_X8_bad G w v h0).1)
def K_X8_seen_c2 (G : Gm) (w : Mw) (h0 : Nat) (v64 : Mv) (x67 : Int32) : Int32 × Mv :=
  (x67, v64)
def K_X8_seen_c3 (G : Gm) (w : Mw) (h0 : Nat) (v75 : Mv) (x78 : Int32) : Int32 × Mv :=
  (x78, v75)
def K_X8_seen_e (G : Gm) (w : Mw) (v : Mv) (h0 : Nat) (x_0 : Int32) (x_1 : Int32) (x_2 : Int32) (x_3 : Int32) : Int32 × Mv :=
  if (F_X8_isOne G w v h0 x_0) = (0 : Int32) then (K_X8_seen_38 G w h0 v) else (if (F_X8_in G w v x_1 (0 : Int32) (99 : Int32)) = (0 : Int32) then (K_X8_seen_38 G w h0 v) else (if (F_X8_in G w v x_2 (0 : Int32) (60 : Int32)) = (0 : Int32) then (K_X8_seen_38 G w h0 v) else (if (F_X8_in G w v x_3 (0 : Int32) (1 : Int32)) = (0 : Int32) then (K_X8_seen_38 G w h0 v) else (if (v (rf G h0 1) (Int32.toNatClampNeg (2 : Int32))) = (5 : Int32) then (K_X8_seen_c3 G w h0 ((F_X8_full G w v h0).2) ((F_X8_full G w v h0).1)) else (K_X8_seen_c2 G w h0 ((F_X8_tell4_50_2 G w v h0 x_0 x_1 x_2 x_3).2) ((F_X8_tell4_50_2 G w v h0 x_0 x_1 x_2 x_3).1))))))
def F_X8_seen (G : Gm) (w : Mw) (v : Mv) (h0 : Nat) (x_0 : Int32) (x_1 : Int32) (x_2 : Int32) (x_3 : Int32) : Int32 × Mv := K_X8_seen_e G w v h0 x_0 x_1 x_2 x_3
set_option maxRecDepth 100000 in
theorem kx_X8_seen_1 {G : Gm} {w : Mw} {h0 : Nat} {v : Mv} {v1 : Mv} {x4 : Int32} (a0 : x4 = (F_X8_bad G w v h0).1) (a1 : v1 = (F_X8_bad G w v h0).2)  : K_X8_seen_38 G w h0 v = K_X8_seen_c1 G w h0 v1 x4 := by
  subst a1; subst a0; first | rw [K_X8_seen_38] | simp only [K_X8_seen_38]
set_option maxRecDepth 100000 in
theorem kx_X8_seen_2 {G : Gm} {w : Mw} {h0 : Nat} {v1 : Mv} {x4 : Int32}   : K_X8_seen_c1 G w h0 v1 x4 = (x4, v1) := by
  first | rw [K_X8_seen_c1] | simp only [K_X8_seen_c1]
set_option maxRecDepth 100000 in
theorem kx_X8_seen_3 {G : Gm} {w : Mw} {v : Mv} {h0 : Nat} {x_0 : Int32} {x_1 : Int32} {x_2 : Int32} {x_3 : Int32} {x14 : Int32} (a0 : x14 = F_X8_isOne G w v h0 x_0) (k0 : x14 = (0 : Int32)) : K_X8_seen_e G w v h0 x_0 x_1 x_2 x_3 = K_X8_seen_38 G w h0 v := by
  subst a0; first | rw [K_X8_seen_e, if_pos k0] | simp only [K_X8_seen_e, if_pos k0]
set_option maxRecDepth 100000 in
theorem kx_X8_seen_4 {G : Gm} {w : Mw} {v : Mv} {h0 : Nat} {x_0 : Int32} {x_1 : Int32} {x_2 : Int32} {x_3 : Int32} {x14 : Int32} {x24 : Int32} (a0 : x14 = F_X8_isOne G w v h0 x_0) (a1 : x24 = F_X8_in G w v x_1 (0 : Int32) (99 : Int32)) (k0 : ¬ (x14 = (0 : Int32))) (k1 : x24 = (0 : Int32)) : K_X8_seen_e G w v h0 x_0 x_1 x_2 x_3 = K_X8_seen_38 G w h0 v := by
  subst a1; subst a0; first | rw [K_X8_seen_e, if_neg k0, if_pos k1] | simp only [K_X8_seen_e, if_neg k0, if_pos k1]
set_option maxRecDepth 100000 in
theorem kx_X8_seen_5 {G : Gm} {w : Mw} {v : Mv} {h0 : Nat} {x_0 : Int32} {x_1 : Int32} {x_2 : Int32} {x_3 : Int32} {x14 : Int32} {x24 : Int32} {x37 : Int32} (a0 : x14 = F_X8_isOne G w v h0 x_0) (a1 : x24 = F_X8_in G w v x_1 (0 : Int32) (99 : Int32)) (a2 : x37 = F_X8_in G w v x_2 (0 : Int32) (60 : Int32)) (k0 : ¬ (x14 = (0 : Int32))) (k1 : ¬ (x24 = (0 : Int32))) (k2 : x37 = (0 : Int32)) : K_X8_seen_e G w v h0 x_0 x_1 x_2 x_3 = K_X8_seen_38 G w h0 v := by
  subst a2; subst a1; subst a0; first | rw [K_X8_seen_e, if_neg k0, if_neg k1, if_pos k2] | simp only [K_X8_seen_e, if_neg k0, if_neg k1, if_pos k2]
set_option maxRecDepth 100000 in
theorem kx_X8_seen_6 {G : Gm} {w : Mw} {v : Mv} {h0 : Nat} {x_0 : Int32} {x_1 : Int32} {x_2 : Int32} {x_3 : Int32} {v64 : Mv} {x67 : Int32} {x14 : Int32} {x24 : Int32} {x37 : Int32} {x50 : Int32} {x58 : Int32} (a0 : x14 = F_X8_isOne G w v h0 x_0) (a1 : x24 = F_X8_in G w v x_1 (0 : Int32) (99 : Int32)) (a2 : x37 = F_X8_in G w v x_2 (0 : Int32) (60 : Int32)) (a3 : x50 = F_X8_in G w v x_3 (0 : Int32) (1 : Int32)) (a4 : x58 = v (rf G h0 1) (Int32.toNatClampNeg (2 : Int32))) (a5 : x67 = (F_X8_tell4_50_2 G w v h0 x_0 x_1 x_2 x_3).1) (a6 : v64 = (F_X8_tell4_50_2 G w v h0 x_0 x_1 x_2 x_3).2) (k0 : ¬ (x14 = (0 : Int32))) (k1 : ¬ (x24 = (0 : Int32))) (k2 : ¬ (x37 = (0 : Int32))) (k3 : ¬ (x50 = (0 : Int32))) (k4 : ¬ (x58 = (5 : Int32))) : K_X8_seen_e G w v h0 x_0 x_1 x_2 x_3 = K_X8_seen_c2 G w h0 v64 x67 := by
  subst a6; subst a5; subst a4; subst a3; subst a2; subst a1; subst a0; first | rw [K_X8_seen_e, if_neg k0, if_neg k1, if_neg k2, if_neg k3, if_neg k4] | simp only [K_X8_seen_e, if_neg k0, if_neg k1, if_neg k2, if_neg k3, if_neg k4]
set_option maxRecDepth 100000 in
theorem kx_X8_seen_7 {G : Gm} {w : Mw} {h0 : Nat} {v64 : Mv} {x67 : Int32}   : K_X8_seen_c2 G w h0 v64 x67 = (x67, v64) := by
  first | rw [K_X8_seen_c2] | simp only [K_X8_seen_c2]
set_option maxRecDepth 100000 in
theorem kx_X8_seen_8 {G : Gm} {w : Mw} {v : Mv} {h0 : Nat} {x_0 : Int32} {x_1 : Int32} {x_2 : Int32} {x_3 : Int32} {v75 : Mv} {x78 : Int32} {x14 : Int32} {x24 : Int32} {x37 : Int32} {x50 : Int32} {x58 : Int32} (a0 : x14 = F_X8_isOne G w v h0 x_0) (a1 : x24 = F_X8_in G w v x_1 (0 : Int32) (99 : Int32)) (a2 : x37 = F_X8_in G w v x_2 (0 : Int32) (60 : Int32)) (a3 : x50 = F_X8_in G w v x_3 (0 : Int32) (1 : Int32)) (a4 : x58 = v (rf G h0 1) (Int32.toNatClampNeg (2 : Int32))) (a5 : x78 = (F_X8_full G w v h0).1) (a6 : v75 = (F_X8_full G w v h0).2) (k0 : ¬ (x14 = (0 : Int32))) (k1 : ¬ (x24 = (0 : Int32))) (k2 : ¬ (x37 = (0 : Int32))) (k3 : ¬ (x50 = (0 : Int32))) (k4 : x58 = (5 : Int32)) : K_X8_seen_e G w v h0 x_0 x_1 x_2 x_3 = K_X8_seen_c3 G w h0 v75 x78 := by
  subst a6; subst a5; subst a4; subst a3; subst a2; subst a1; subst a0; first | rw [K_X8_seen_e, if_neg k0, if_neg k1, if_neg k2, if_neg k3, if_pos k4] | simp only [K_X8_seen_e, if_neg k0, if_neg k1, if_neg k2, if_neg k3, if_pos k4]
set_option maxRecDepth 100000 in
theorem kx_X8_seen_9 {G : Gm} {w : Mw} {h0 : Nat} {v75 : Mv} {x78 : Int32}   : K_X8_seen_c3 G w h0 v75 x78 = (x78, v75) := by
  first | rw [K_X8_seen_c3] | simp only [K_X8_seen_c3]
set_option maxRecDepth 100000 in
theorem kx_X8_seen_10 {G : Gm} {w : Mw} {v : Mv} {h0 : Nat} {x_0 : Int32} {x_1 : Int32} {x_2 : Int32} {x_3 : Int32} {x14 : Int32} {x24 : Int32} {x37 : Int32} {x50 : Int32} (a0 : x14 = F_X8_isOne G w v h0 x_0) (a1 : x24 = F_X8_in G w v x_1 (0 : Int32) (99 : Int32)) (a2 : x37 = F_X8_in G w v x_2 (0 : Int32) (60 : Int32)) (a3 : x50 = F_X8_in G w v x_3 (0 : Int32) (1 : Int32)) (k0 : ¬ (x14 = (0 : Int32))) (k1 : ¬ (x24 = (0 : Int32))) (k2 : ¬ (x37 = (0 : Int32))) (k3 : x50 = (0 : Int32)) : K_X8_seen_e G w v h0 x_0 x_1 x_2 x_3 = K_X8_seen_38 G w h0 v := by
  subst a3; subst a2; subst a1; subst a0; first | rw [K_X8_seen_e, if_neg k0, if_neg k1, if_neg k2, if_pos k3] | simp only [K_X8_seen_e, if_neg k0, if_neg k1, if_neg k2, if_pos k3]
abbrev rm_X8_seen : Room := { frames := 2, cells := 0, slots := 0, locals := 43 }
set_option maxHeartbeats 4000000 in
set_option maxRecDepth 100000 in
theorem ct_X8_seen (l : Launch) (D : va_G) (dA : Nat → ClassId) (G : Gm) (v : Mv) (w : Mw) (hOk : Ok G v w) (h0 : Nat) (S0 : S_X8 G h0) (x_0 : Int32) (x_1 : Int32) (x_2 : Int32) (x_3 : Int32) : CtI l yX8_seen cX8_seen 5 (some .int) rm_X8_seen D dA G [.ref h0, .int x_0, .int x_1, .int x_2, .int x_3] v w (fun r v1 w1 => Ok G v1 w1 ∧ True ∧ True ∧ (w1 = w ∧ (r, v1) = F_X8_seen G w v h0 x_0 x_1 x_2 x_3) ∧ Fr G [103, 1084] v v1) := by
  refine CtI.of RX8 [(0, .ref h0), (1, .int x_0), (2, .int x_1), (3, .int x_2), (4, .int x_3)] (Nat.le_of_ble_eq_true rfl) rfl (by decide) rfl ?_
  intro p e s m args below meth c E hr
  have J38 : K_X8_seen_38 G w h0 v = F_X8_seen G w v h0 x_0 x_1 x_2 x_3 → J p l e rm_X8_seen s m args below meth c 0 0 (MQ below (QcI D dA G (fun r v1 w1 => Ok G v1 w1 ∧ True ∧ True ∧ (w1 = w ∧ (r, v1) = F_X8_seen G w v h0 x_0 x_1 x_2 x_3) ∧ Fr G [103, 1084] v v1)) args s 0 0 (dm G)) D dA G (dm G) s.heap 5 v w [(0, .ref h0)] 38 [] := by
    intro hK
    refine J_aload_n E dX8_seen_38 0 rfl ?_
    refine J_callVI E cal_X8_bad wd999 rfl (S_X8.h S0) [] [] (ct_X8_bad l D dA G v w (hOk) h0 S0) rfl rfl (Nat.le_of_ble_eq_true rfl) ⟨rfl, rfl⟩ ⟨Nat.le_of_ble_eq_true rfl, Nat.le_of_ble_eq_true rfl⟩ dX8_seen_39 (fun x4 v1 w2 p3 => ?_)
    have ew9 : w = w2 := p3.2.2.2.1.1.symm
    subst ew9
    have o5 := p3.1
    have k6 : True := trivial
    have f7 : Fr G [103, 1084] v v1 := Fr.tr Fr.rf (p3.2.2.2.2) (by decide)
    have b8 : Bd x4 (-2) (-2) := p3.2.2.1
    have e9 : x4 = (F_X8_bad G w v h0).1 := congrArg Prod.fst (p3.2.2.2.1).2
    have e10 : v1 = (F_X8_bad G w v h0).2 := congrArg Prod.snd (p3.2.2.2.1).2
    have hK : K_X8_seen_c1 G w h0 v1 x4 = F_X8_seen G w v h0 x_0 x_1 x_2 x_3 := ((kx_X8_seen_1 (e9) (e10)).symm.trans hK)
    exact J_iret E hr dX8_seen_42 ⟨o5, k6, trivial, ⟨⟨rfl, ((kx_X8_seen_2).symm.trans hK)⟩, f7⟩⟩
  have hK : K_X8_seen_e G w v h0 x_0 x_1 x_2 x_3 = F_X8_seen G w v h0 x_0 x_1 x_2 x_3 := rfl
  refine J_aload_n E dX8_seen_0 0 rfl ?_
  refine J_iload_n E dX8_seen_1 1 rfl ?_
  refine J_callVI E cal_X8_isOne wd1120 rfl (S_X8.h S0) [.int x_0] [] (ct_X8_isOne l D dA G v w (hOk) h0 S0 x_0) rfl rfl (Nat.le_of_ble_eq_true rfl) ⟨rfl, rfl⟩ ⟨Nat.le_of_ble_eq_true rfl, Nat.le_of_ble_eq_true rfl⟩ dX8_seen_2 (fun x14 v11 w12 p13 => ?_)
  rw [p13.1, p13.2.1]
  have b15 : Bd x14 0 1 := p13.2.2.1
  have e16 : x14 = F_X8_isOne G w v h0 x_0 := (p13.2.2.2.2)
  refine J_if_eq E 38 dX8_seen_5 (by decide) (fun c17 => ?_) (fun c17 => ?_)
  · have b18 : Bd x14 0 0 := Bd.eq_l c17 b15 (Bd.lit 0 0 (by decide)) 0 0 (by decide)
    exact J.sub [0] rfl (J38 ((kx_X8_seen_3 (e16) (c17)).symm.trans hK))
  · have b19 : Bd x14 1 1 := (Bd.ne_lo c17 b15 (Bd.lit 0 0 (by decide))).w _ _ (by decide)
    have b20 : Bd x_0 0 6 := (p13.2.2.2.1).resolve_left c17
    refine J_iload_n E dX8_seen_8 2 rfl ?_
    refine J_iconst E 0 dX8_seen_9 (by decide) ?_
    refine J_bipush E 99 dX8_seen_10 (by decide) ?_
    refine J_callSI E cal_X8_in wd996 [.int x_1, .int 0, .int 99] [] (ct_X8_in l D dA G v w (hOk) x_1 0 99) rfl rfl (Nat.le_of_ble_eq_true rfl) ⟨rfl, rfl⟩ ⟨Nat.le_of_ble_eq_true rfl, Nat.le_of_ble_eq_true rfl⟩ dX8_seen_12 (fun x24 v21 w22 p23 => ?_)
    rw [p23.1, p23.2.1]
    have b25 : Bd x24 0 1 := p23.2.2.1
    have e26 : x24 = F_X8_in G w v x_1 (0 : Int32) (99 : Int32) := (p23.2.2.2.2.2)
    refine J_if_eq E 38 dX8_seen_15 (by decide) (fun c27 => ?_) (fun c27 => ?_)
    · have b28 : Bd x24 0 0 := Bd.eq_l c27 b25 (Bd.lit 0 0 (by decide)) 0 0 (by decide)
      have g29 : ¬ (0 ≤ x_1 ∧ x_1 ≤ 99) := (p23.2.2.2.2.1).resolve_left (fun h9 => h9 c27)
      exact J.sub [0] rfl (J38 ((kx_X8_seen_4 (e16) (e26) (c17) (c27)).symm.trans hK))
    · have b30 : Bd x24 1 1 := (Bd.ne_lo c27 b25 (Bd.lit 0 0 (by decide))).w _ _ (by decide)
      have g31 := (p23.2.2.2.1).resolve_left c27
      have b32 : Bd x_1 0 I1 := Bd.le_r g31.1 (Bd.lit 0 0 (by decide)) (Bd.any x_1) 0 (by decide)
      have b33 : Bd x_1 0 99 := Bd.le_l g31.2 b32 (Bd.lit 99 99 (by decide)) 99 (by decide)
      refine J_iload_n E dX8_seen_18 3 rfl ?_
      refine J_iconst E 0 dX8_seen_19 (by decide) ?_
      refine J_bipush E 60 dX8_seen_20 (by decide) ?_
      refine J_callSI E cal_X8_in wd996 [.int x_2, .int 0, .int 60] [] (ct_X8_in l D dA G v w (hOk) x_2 0 60) rfl rfl (Nat.le_of_ble_eq_true rfl) ⟨rfl, rfl⟩ ⟨Nat.le_of_ble_eq_true rfl, Nat.le_of_ble_eq_true rfl⟩ dX8_seen_22 (fun x37 v34 w35 p36 => ?_)
      rw [p36.1, p36.2.1]
      have b38 : Bd x37 0 1 := p36.2.2.1
      have e39 : x37 = F_X8_in G w v x_2 (0 : Int32) (60 : Int32) := (p36.2.2.2.2.2)
      refine J_if_eq E 38 dX8_seen_25 (by decide) (fun c40 => ?_) (fun c40 => ?_)
      · have b41 : Bd x37 0 0 := Bd.eq_l c40 b38 (Bd.lit 0 0 (by decide)) 0 0 (by decide)
        have g42 : ¬ (0 ≤ x_2 ∧ x_2 ≤ 60) := (p36.2.2.2.2.1).resolve_left (fun h9 => h9 c40)
        exact J.sub [0] rfl (J38 ((kx_X8_seen_5 (e16) (e26) (e39) (c17) (c27) (c40)).symm.trans hK))
      · have b43 : Bd x37 1 1 := (Bd.ne_lo c40 b38 (Bd.lit 0 0 (by decide))).w _ _ (by decide)
        have g44 := (p36.2.2.2.1).resolve_left c40
        have b45 : Bd x_2 0 I1 := Bd.le_r g44.1 (Bd.lit 0 0 (by decide)) (Bd.any x_2) 0 (by decide)
        have b46 : Bd x_2 0 60 := Bd.le_l g44.2 b45 (Bd.lit 60 60 (by decide)) 60 (by decide)
        refine J_iload E dX8_seen_28 4 rfl ?_
        refine J_iconst E 0 dX8_seen_30 (by decide) ?_
        refine J_iconst E 1 dX8_seen_31 (by decide) ?_
        refine J_callSI E cal_X8_in wd996 [.int x_3, .int 0, .int 1] [] (ct_X8_in l D dA G v w (hOk) x_3 0 1) rfl rfl (Nat.le_of_ble_eq_true rfl) ⟨rfl, rfl⟩ ⟨Nat.le_of_ble_eq_true rfl, Nat.le_of_ble_eq_true rfl⟩ dX8_seen_32 (fun x50 v47 w48 p49 => ?_)
        rw [p49.1, p49.2.1]
        have b51 : Bd x50 0 1 := p49.2.2.1
        have e52 : x50 = F_X8_in G w v x_3 (0 : Int32) (1 : Int32) := (p49.2.2.2.2.2)
        refine J_if_ne E 43 dX8_seen_35 (by decide) (fun c53 => ?_) (fun c53 => ?_)
        · have b54 : Bd x50 1 1 := (Bd.ne_lo c53 b51 (Bd.lit 0 0 (by decide))).w _ _ (by decide)
          have g55 := (p49.2.2.2.1).resolve_left c53
          have b56 : Bd x_3 0 I1 := Bd.le_r g55.1 (Bd.lit 0 0 (by decide)) (Bd.any x_3) 0 (by decide)
          have b57 : Bd x_3 0 1 := Bd.le_l g55.2 b56 (Bd.lit 1 1 (by decide)) 1 (by decide)
          refine J_aload_n E dX8_seen_43 0 rfl ?_
          refine J_getR E in_X8 rfl (S_X8.h S0) 1 (by decide) wd936 rfl dX8_seen_44 ?_
          refine J_iconst E 2 dX8_seen_47 (by decide) ?_
          refine J_iald1 E (S_X8.f1 S0) (Bd.in (Bd.lit 2 2 (by decide)) (by decide)) dX8_seen_48 (fun x58 e59 => ?_)
          have b60 : Bd x58 0 5 := Bd.e (Ok.ld hOk (S_X8.f1 S0) (Bd.lit 2 2 (by decide)) 2 1 0 5 (by decide) (by decide +kernel)) e59
          have e61 : x58 = v (rf G h0 1) 2 := by rw [e59, Bd.ix (Bd.lit 2 2 (by decide)) 2 rfl]
          refine J_iconst E 5 dX8_seen_49 (by decide) ?_
          refine J_icmp_ne E 60 dX8_seen_50 (by decide) (fun c62 => ?_) (fun c62 => ?_)
          · have b63 : Bd x58 0 4 := (Bd.ne_hi c62 b60 (Bd.lit 5 5 (by decide))).w _ _ (by decide)
            refine J_aload_n E dX8_seen_60 0 rfl ?_
            refine J_bipush E 50 dX8_seen_61 (by decide) ?_
            refine J_iconst E 2 dX8_seen_63 (by decide) ?_
            refine J_iload_n E dX8_seen_64 1 rfl ?_
            refine J_iload_n E dX8_seen_65 2 rfl ?_
            refine J_iload_n E dX8_seen_66 3 rfl ?_
            refine J_iload E dX8_seen_67 4 rfl ?_
            refine J_callVI E cal_X8_tell4 wd1240 rfl (S_X8.h S0) [.int 50, .int 2, .int x_0, .int x_1, .int x_2, .int x_3] [] (ct_X8_tell4_50_2 l D dA G v w (hOk) h0 S0 x_0 b20 x_1 b33 x_2 b46 x_3 b57 x58 (e61) b63) rfl rfl (Nat.le_of_ble_eq_true rfl) ⟨rfl, rfl⟩ ⟨Nat.le_of_ble_eq_true rfl, Nat.le_of_ble_eq_true rfl⟩ dX8_seen_69 (fun x67 v64 w65 p66 => ?_)
            have ew9 : w = w65 := p66.2.2.2.1.1.symm
            subst ew9
            have o68 := p66.1
            have k69 : True := trivial
            have f70 : Fr G [103, 1084] v v64 := Fr.tr Fr.rf (p66.2.2.2.2) (by decide)
            have b71 : Bd x67 1 5 := p66.2.2.1
            have e72 : x67 = (F_X8_tell4_50_2 G w v h0 x_0 x_1 x_2 x_3).1 := congrArg Prod.fst (p66.2.2.2.1).2
            have e73 : v64 = (F_X8_tell4_50_2 G w v h0 x_0 x_1 x_2 x_3).2 := congrArg Prod.snd (p66.2.2.2.1).2
            have hK : K_X8_seen_c2 G w h0 v64 x67 = F_X8_seen G w v h0 x_0 x_1 x_2 x_3 := ((kx_X8_seen_6 (e16) (e26) (e39) (e52) (e59) (e72) (e73) (c17) (c27) (c40) (c53) (c62)).symm.trans hK)
            exact J_iret E hr dX8_seen_72 ⟨o68, k69, trivial, ⟨⟨rfl, ((kx_X8_seen_7).symm.trans hK)⟩, f70⟩⟩
          · have b74 : Bd x58 5 5 := Bd.eq_l c62 b60 (Bd.lit 5 5 (by decide)) 5 5 (by decide)
            refine J_aload_n E dX8_seen_53 0 rfl ?_
            refine J_callVI E cal_X8_full wd1003 rfl (S_X8.h S0) [] [] (ct_X8_full l D dA G v w (hOk) h0 S0) rfl rfl (Nat.le_of_ble_eq_true rfl) ⟨rfl, rfl⟩ ⟨Nat.le_of_ble_eq_true rfl, Nat.le_of_ble_eq_true rfl⟩ dX8_seen_54 (fun x78 v75 w76 p77 => ?_)
            have ew9 : w = w76 := p77.2.2.2.1.1.symm
            subst ew9
            have o79 := p77.1
            have k80 : True := trivial
            have f81 : Fr G [103, 1084] v v75 := Fr.tr Fr.rf (p77.2.2.2.2) (by decide)
            have b82 : Bd x78 (-4) (-4) := p77.2.2.1
            have e83 : x78 = (F_X8_full G w v h0).1 := congrArg Prod.fst (p77.2.2.2.1).2
            have e84 : v75 = (F_X8_full G w v h0).2 := congrArg Prod.snd (p77.2.2.2.1).2
            have hK : K_X8_seen_c3 G w h0 v75 x78 = F_X8_seen G w v h0 x_0 x_1 x_2 x_3 := ((kx_X8_seen_8 (e16) (e26) (e39) (e52) (e59) (e83) (e84) (c17) (c27) (c40) (c53) (c62)).symm.trans hK)
            refine J_goto E 72 dX8_seen_57 (by decide) ?_
            exact J_iret E hr dX8_seen_72 ⟨o79, k80, trivial, ⟨⟨rfl, ((kx_X8_seen_9).symm.trans hK)⟩, f81⟩⟩
        · have b85 : Bd x50 0 0 := Bd.eq_l c53 b51 (Bd.lit 0 0 (by decide)) 0 0 (by decide)
          have g86 : ¬ (0 ≤ x_3 ∧ x_3 ≤ 1) := (p49.2.2.2.2.1).resolve_left (fun h9 => h9 c53)
          exact J.sub [0] rfl (J38 ((kx_X8_seen_10 (e16) (e26) (e39) (e52) (c17) (c27) (c40) (c53)).symm.trans hK))

def K_X8_strengthsOf_142 (G : Gm) (w : Mw) (h0 : Nat) (rec4 : Mv → Int32 → Int32 → Int32 → Int32) (v : Mv) (x_0 : Int32) (x4 : Int32) (x8 : Int32) (x10 : Int32) : Int32 :=
  rec4 v x_0 (x10 ||| x8) (x4 + (1 : Int32))
def K_X8_strengthsOf_121 (G : Gm) (w : Mw) (h0 : Nat) (rec4 : Mv → Int32 → Int32 → Int32 → Int32) (rec16 : Mv → Int32 → Int32 → Int32 → Int32 → Int32 → Int32) (v : Mv) (x_0 : Int32) (x2 : Int32) (x4 : Int32) (x23 : Int32) (x29 : Int32) : Int32 :=
  rec16 v x_0 x2 x4 x29 (x23 + (1 : Int32))
def K_X8_strengthsOf_120 (G : Gm) (w : Mw) (h0 : Nat) (rec4 : Mv → Int32 → Int32 → Int32 → Int32) (rec16 : Mv → Int32 → Int32 → Int32 → Int32 → Int32 → Int32) (v : Mv) (x_0 : Int32) (x2 : Int32) (x4 : Int32) (x23 : Int32) : Int32 :=
  K_X8_strengthsOf_121 G w h0 rec4 rec16 v x_0 x2 x4 x23 (0 : Int32)
def K_X8_strengthsOf_116 (G : Gm) (w : Mw) (h0 : Nat) (rec4 : Mv → Int32 → Int32 → Int32 → Int32) (rec16 : Mv → Int32 → Int32 → Int32 → Int32 → Int32 → Int32) (v : Mv) (x_0 : Int32) (x2 : Int32) (x4 : Int32) (x23 : Int32) : Int32 :=
  K_X8_strengthsOf_121 G w h0 rec4 rec16 v x_0 x2 x4 x23 (1 : Int32)
def K_X8_strengthsOf_113 (G : Gm) (w : Mw) (h0 : Nat) (rec4 : Mv → Int32 → Int32 → Int32 → Int32) (rec16 : Mv → Int32 → Int32 → Int32 → Int32 → Int32 → Int32) (v : Mv) (x_0 : Int32) (x2 : Int32) (x4 : Int32) (x23 : Int32) (x46 : Int32) (x48 : Int32) : Int32 :=
  if x48 = x46 then (K_X8_strengthsOf_116 G w h0 rec4 rec16 v x_0 x2 x4 x23) else (K_X8_strengthsOf_120 G w h0 rec4 rec16 v x_0 x2 x4 x23)
def K_X8_strengthsOf_75 (G : Gm) (w : Mw) (h0 : Nat) (rec4 : Mv → Int32 → Int32 → Int32 → Int32) (rec16 : Mv → Int32 → Int32 → Int32 → Int32 → Int32 → Int32) (v : Mv) (x_0 : Int32) (x2 : Int32) (x4 : Int32) (x21 : Int32) (x23 : Int32) (x56 : Int32) (x58 : Int32) : Int32 :=
  if x21 = (0 : Int32) then (K_X8_strengthsOf_120 G w h0 rec4 rec16 v x_0 x2 x4 x23) else (if (v (rf G h0 1) (Int32.toNatClampNeg x56)) = x_0 then (if (v (rf G h0 1) (Int32.toNatClampNeg (x56 + (3 : Int32)))) = (1 : Int32) then (K_X8_strengthsOf_113 G w h0 rec4 rec16 v x_0 x2 x4 x23 (1 : Int32) x58) else (K_X8_strengthsOf_113 G w h0 rec4 rec16 v x_0 x2 x4 x23 (0 : Int32) x58)) else (K_X8_strengthsOf_116 G w h0 rec4 rec16 v x_0 x2 x4 x23))
def K_X8_strengthsOf_16 (G : Gm) (w : Mw) (h0 : Nat) (rec4 : Mv → Int32 → Int32 → Int32 → Int32) : Nat → Mv → Int32 → Int32 → Int32 → Int32 → Int32 → Int32
  | 0, _, _, _, _, _, _ => (0 : Int32)
  | n16 + 1, v, x_0, x2, x4, x21, x23 =>
    if (v (rf G h0 1) (Int32.toNatClampNeg (2 : Int32))) ≤ x23 then (if x21 = (0 : Int32) then (K_X8_strengthsOf_142 G w h0 rec4 v x_0 x4 (0 : Int32) x2) else (K_X8_strengthsOf_142 G w h0 rec4 v x_0 x4 ((1 : Int32) <<< (x4 &&& 31)) x2)) else (if (F_X8_liftsBy G w v (v (rf G h0 1) (Int32.toNatClampNeg ((20 : Int32) + x_0))) x4 (v (rf G h0 1) (Int32.toNatClampNeg (((50 : Int32) + ((4 : Int32) * x23)) + (1 : Int32))))) < (v (rf G h0 1) (Int32.toNatClampNeg (((50 : Int32) + ((4 : Int32) * x23)) + (2 : Int32)))) then (K_X8_strengthsOf_75 G w h0 rec4 (K_X8_strengthsOf_16 G w h0 rec4 n16) v x_0 x2 x4 x21 x23 ((50 : Int32) + ((4 : Int32) * x23)) (0 : Int32)) else (K_X8_strengthsOf_75 G w h0 rec4 (K_X8_strengthsOf_16 G w h0 rec4 n16) v x_0 x2 x4 x21 x23 ((50 : Int32) + ((4 : Int32) * x23)) (1 : Int32)))
def K_X8_strengthsOf_4 (G : Gm) (w : Mw) (h0 : Nat) : Nat → Mv → Int32 → Int32 → Int32 → Int32
  | 0, _, _, _, _ => (0 : Int32)
  | n4 + 1, v, x_0, x2, x4 =>
    if (9 : Int32) < x4 then (x2) else (K_X8_strengthsOf_16 G w h0 (K_X8_strengthsOf_4 G w h0 n4) 6 v x_0 x2 x4 (1 : Int32) (0 : Int32))
def K_X8_strengthsOf_e (G : Gm) (w : Mw) (v : Mv) (h0 : Nat) (x_0 : Int32) : Int32 :=
  K_X8_strengthsOf_4 G w h0 10 v x_0 (0 : Int32) (1 : Int32)
def F_X8_strengthsOf (G : Gm) (w : Mw) (v : Mv) (h0 : Nat) (x_0 : Int32) : Int32 := K_X8_strengthsOf_e G w v h0 x_0
set_option maxRecDepth 100000 in
theorem kx_X8_strengthsOf_1 {G : Gm} {w : Mw} {h0 : Nat} {rec4 : Mv → Int32 → Int32 → Int32 → Int32} {v : Mv} {x_0 : Int32} {x4 : Int32} {x8 : Int32} {x10 : Int32} {x12 : Int32} {x15 : Int32} (a0 : x12 = x10 ||| x8) (a1 : x15 = x4 + (1 : Int32))  : K_X8_strengthsOf_142 G w h0 rec4 v x_0 x4 x8 x10 = rec4 v x_0 x12 x15 := by
  subst a1; subst a0; first | rw [K_X8_strengthsOf_142] | simp only [K_X8_strengthsOf_142]
set_option maxRecDepth 100000 in
theorem kx_X8_strengthsOf_2 {G : Gm} {w : Mw} {h0 : Nat} {rec4 : Mv → Int32 → Int32 → Int32 → Int32} {rec16 : Mv → Int32 → Int32 → Int32 → Int32 → Int32 → Int32} {v : Mv} {x_0 : Int32} {x2 : Int32} {x4 : Int32} {x23 : Int32} {x29 : Int32} {x31 : Int32} (a0 : x31 = x23 + (1 : Int32))  : K_X8_strengthsOf_121 G w h0 rec4 rec16 v x_0 x2 x4 x23 x29 = rec16 v x_0 x2 x4 x29 x31 := by
  subst a0; first | rw [K_X8_strengthsOf_121] | simp only [K_X8_strengthsOf_121]
set_option maxRecDepth 100000 in
theorem kx_X8_strengthsOf_3 {G : Gm} {w : Mw} {h0 : Nat} {rec4 : Mv → Int32 → Int32 → Int32 → Int32} {rec16 : Mv → Int32 → Int32 → Int32 → Int32 → Int32 → Int32} {v : Mv} {x_0 : Int32} {x2 : Int32} {x4 : Int32} {x23 : Int32}   : K_X8_strengthsOf_120 G w h0 rec4 rec16 v x_0 x2 x4 x23 = K_X8_strengthsOf_121 G w h0 rec4 rec16 v x_0 x2 x4 x23 (0 : Int32) := by
  first | rw [K_X8_strengthsOf_120] | simp only [K_X8_strengthsOf_120]
set_option maxRecDepth 100000 in
theorem kx_X8_strengthsOf_4 {G : Gm} {w : Mw} {h0 : Nat} {rec4 : Mv → Int32 → Int32 → Int32 → Int32} {rec16 : Mv → Int32 → Int32 → Int32 → Int32 → Int32 → Int32} {v : Mv} {x_0 : Int32} {x2 : Int32} {x4 : Int32} {x23 : Int32}   : K_X8_strengthsOf_116 G w h0 rec4 rec16 v x_0 x2 x4 x23 = K_X8_strengthsOf_121 G w h0 rec4 rec16 v x_0 x2 x4 x23 (1 : Int32) := by
  first | rw [K_X8_strengthsOf_116] | simp only [K_X8_strengthsOf_116]
set_option maxRecDepth 100000 in
theorem kx_X8_strengthsOf_5 {G : Gm} {w : Mw} {h0 : Nat} {rec4 : Mv → Int32 → Int32 → Int32 → Int32} {rec16 : Mv → Int32 → Int32 → Int32 → Int32 → Int32 → Int32} {v : Mv} {x_0 : Int32} {x2 : Int32} {x4 : Int32} {x23 : Int32} {x46 : Int32} {x48 : Int32}  (k0 : ¬ (x48 = x46)) : K_X8_strengthsOf_113 G w h0 rec4 rec16 v x_0 x2 x4 x23 x46 x48 = K_X8_strengthsOf_120 G w h0 rec4 rec16 v x_0 x2 x4 x23 := by
  first | rw [K_X8_strengthsOf_113, if_neg k0] | simp only [K_X8_strengthsOf_113, if_neg k0]
set_option maxRecDepth 100000 in
theorem kx_X8_strengthsOf_6 {G : Gm} {w : Mw} {h0 : Nat} {rec4 : Mv → Int32 → Int32 → Int32 → Int32} {rec16 : Mv → Int32 → Int32 → Int32 → Int32 → Int32 → Int32} {v : Mv} {x_0 : Int32} {x2 : Int32} {x4 : Int32} {x23 : Int32} {x46 : Int32} {x48 : Int32}  (k0 : x48 = x46) : K_X8_strengthsOf_113 G w h0 rec4 rec16 v x_0 x2 x4 x23 x46 x48 = K_X8_strengthsOf_116 G w h0 rec4 rec16 v x_0 x2 x4 x23 := by
  first | rw [K_X8_strengthsOf_113, if_pos k0] | simp only [K_X8_strengthsOf_113, if_pos k0]
set_option maxRecDepth 100000 in
theorem kx_X8_strengthsOf_7 {G : Gm} {w : Mw} {h0 : Nat} {rec4 : Mv → Int32 → Int32 → Int32 → Int32} {rec16 : Mv → Int32 → Int32 → Int32 → Int32 → Int32 → Int32} {v : Mv} {x_0 : Int32} {x2 : Int32} {x4 : Int32} {x21 : Int32} {x23 : Int32} {x56 : Int32} {x58 : Int32}  (k0 : x21 = (0 : Int32)) : K_X8_strengthsOf_75 G w h0 rec4 rec16 v x_0 x2 x4 x21 x23 x56 x58 = K_X8_strengthsOf_120 G w h0 rec4 rec16 v x_0 x2 x4 x23 := by
  first | rw [K_X8_strengthsOf_75, if_pos k0] | simp only [K_X8_strengthsOf_75, if_pos k0]
set_option maxRecDepth 100000 in
theorem kx_X8_strengthsOf_8 {G : Gm} {w : Mw} {h0 : Nat} {rec4 : Mv → Int32 → Int32 → Int32 → Int32} {rec16 : Mv → Int32 → Int32 → Int32 → Int32 → Int32 → Int32} {v : Mv} {x_0 : Int32} {x2 : Int32} {x4 : Int32} {x21 : Int32} {x23 : Int32} {x56 : Int32} {x58 : Int32} {x63 : Int32} (a0 : x63 = v (rf G h0 1) (Int32.toNatClampNeg x56)) (k0 : ¬ (x21 = (0 : Int32))) (k1 : ¬ (x63 = x_0)) : K_X8_strengthsOf_75 G w h0 rec4 rec16 v x_0 x2 x4 x21 x23 x56 x58 = K_X8_strengthsOf_116 G w h0 rec4 rec16 v x_0 x2 x4 x23 := by
  subst a0; first | rw [K_X8_strengthsOf_75, if_neg k0, if_neg k1] | simp only [K_X8_strengthsOf_75, if_neg k0, if_neg k1]
set_option maxRecDepth 100000 in
theorem kx_X8_strengthsOf_9 {G : Gm} {w : Mw} {h0 : Nat} {rec4 : Mv → Int32 → Int32 → Int32 → Int32} {rec16 : Mv → Int32 → Int32 → Int32 → Int32 → Int32 → Int32} {v : Mv} {x_0 : Int32} {x2 : Int32} {x4 : Int32} {x21 : Int32} {x23 : Int32} {x56 : Int32} {x58 : Int32} {x67 : Int32} {x63 : Int32} {x70 : Int32} (a0 : x63 = v (rf G h0 1) (Int32.toNatClampNeg x56)) (a1 : x67 = x56 + (3 : Int32)) (a2 : x70 = v (rf G h0 1) (Int32.toNatClampNeg x67)) (k0 : ¬ (x21 = (0 : Int32))) (k1 : x63 = x_0) (k2 : ¬ (x70 = (1 : Int32))) : K_X8_strengthsOf_75 G w h0 rec4 rec16 v x_0 x2 x4 x21 x23 x56 x58 = K_X8_strengthsOf_113 G w h0 rec4 rec16 v x_0 x2 x4 x23 (0 : Int32) x58 := by
  subst a2; subst a1; subst a0; first | rw [K_X8_strengthsOf_75, if_neg k0, if_pos k1, if_neg k2] | simp only [K_X8_strengthsOf_75, if_neg k0, if_pos k1, if_neg k2]
set_option maxRecDepth 100000 in
theorem kx_X8_strengthsOf_10 {G : Gm} {w : Mw} {h0 : Nat} {rec4 : Mv → Int32 → Int32 → Int32 → Int32} {rec16 : Mv → Int32 → Int32 → Int32 → Int32 → Int32 → Int32} {v : Mv} {x_0 : Int32} {x2 : Int32} {x4 : Int32} {x21 : Int32} {x23 : Int32} {x56 : Int32} {x58 : Int32} {x67 : Int32} {x63 : Int32} {x70 : Int32} (a0 : x63 = v (rf G h0 1) (Int32.toNatClampNeg x56)) (a1 : x67 = x56 + (3 : Int32)) (a2 : x70 = v (rf G h0 1) (Int32.toNatClampNeg x67)) (k0 : ¬ (x21 = (0 : Int32))) (k1 : x63 = x_0) (k2 : x70 = (1 : Int32)) : K_X8_strengthsOf_75 G w h0 rec4 rec16 v x_0 x2 x4 x21 x23 x56 x58 = K_X8_strengthsOf_113 G w h0 rec4 rec16 v x_0 x2 x4 x23 (1 : Int32) x58 := by
  subst a2; subst a1; subst a0; first | rw [K_X8_strengthsOf_75, if_neg k0, if_pos k1, if_pos k2] | simp only [K_X8_strengthsOf_75, if_neg k0, if_pos k1, if_pos k2]
set_option maxRecDepth 100000 in
theorem kx_X8_strengthsOf_11 {G : Gm} {w : Mw} {h0 : Nat} {rec4 : Mv → Int32 → Int32 → Int32 → Int32} {n16 : Nat} {v : Mv} {x_0 : Int32} {x2 : Int32} {x4 : Int32} {x21 : Int32} {x23 : Int32} {x74 : Int32} (a0 : x74 = v (rf G h0 1) (Int32.toNatClampNeg (2 : Int32))) (k0 : x74 ≤ x23) (k1 : x21 = (0 : Int32)) : K_X8_strengthsOf_16 G w h0 rec4 (n16 + 1) v x_0 x2 x4 x21 x23 = K_X8_strengthsOf_142 G w h0 rec4 v x_0 x4 (0 : Int32) x2 := by
  subst a0; first | rw [K_X8_strengthsOf_16, if_pos k0, if_pos k1] | simp only [K_X8_strengthsOf_16, if_pos k0, if_pos k1]
set_option maxRecDepth 100000 in
theorem kx_X8_strengthsOf_12 {G : Gm} {w : Mw} {h0 : Nat} {rec4 : Mv → Int32 → Int32 → Int32 → Int32} {n16 : Nat} {v : Mv} {x_0 : Int32} {x2 : Int32} {x4 : Int32} {x21 : Int32} {x23 : Int32} {x82 : Int32} {x74 : Int32} (a0 : x74 = v (rf G h0 1) (Int32.toNatClampNeg (2 : Int32))) (a1 : x82 = (1 : Int32) <<< (x4 &&& 31)) (k0 : x74 ≤ x23) (k1 : ¬ (x21 = (0 : Int32))) : K_X8_strengthsOf_16 G w h0 rec4 (n16 + 1) v x_0 x2 x4 x21 x23 = K_X8_strengthsOf_142 G w h0 rec4 v x_0 x4 x82 x2 := by
  subst a1; subst a0; first | rw [K_X8_strengthsOf_16, if_pos k0, if_neg k1] | simp only [K_X8_strengthsOf_16, if_pos k0, if_neg k1]
set_option maxRecDepth 100000 in
theorem kx_X8_strengthsOf_13 {G : Gm} {w : Mw} {h0 : Nat} {rec4 : Mv → Int32 → Int32 → Int32 → Int32} {n16 : Nat} {v : Mv} {x_0 : Int32} {x2 : Int32} {x4 : Int32} {x21 : Int32} {x23 : Int32} {x90 : Int32} {x87 : Int32} {x93 : Int32} {x98 : Int32} {x96 : Int32} {x101 : Int32} {x108 : Int32} {x74 : Int32} {x106 : Int32} {x111 : Int32} (a0 : x74 = v (rf G h0 1) (Int32.toNatClampNeg (2 : Int32))) (a1 : x87 = (4 : Int32) * x23) (a2 : x90 = (50 : Int32) + x87) (a3 : x93 = (20 : Int32) + x_0) (a4 : x96 = v (rf G h0 1) (Int32.toNatClampNeg x93)) (a5 : x98 = x90 + (1 : Int32)) (a6 : x101 = v (rf G h0 1) (Int32.toNatClampNeg x98)) (a7 : x106 = F_X8_liftsBy G w v x96 x4 x101) (a8 : x108 = x90 + (2 : Int32)) (a9 : x111 = v (rf G h0 1) (Int32.toNatClampNeg x108)) (k0 : ¬ (x74 ≤ x23)) (k1 : x106 < x111) : K_X8_strengthsOf_16 G w h0 rec4 (n16 + 1) v x_0 x2 x4 x21 x23 = K_X8_strengthsOf_75 G w h0 rec4 (K_X8_strengthsOf_16 G w h0 rec4 n16) v x_0 x2 x4 x21 x23 x90 (0 : Int32) := by
  subst a9; subst a8; subst a7; subst a6; subst a5; subst a4; subst a3; subst a2; subst a1; subst a0; first | rw [K_X8_strengthsOf_16, if_neg k0, if_pos k1] | simp only [K_X8_strengthsOf_16, if_neg k0, if_pos k1]
set_option maxRecDepth 100000 in
theorem kx_X8_strengthsOf_14 {G : Gm} {w : Mw} {h0 : Nat} {rec4 : Mv → Int32 → Int32 → Int32 → Int32} {n16 : Nat} {v : Mv} {x_0 : Int32} {x2 : Int32} {x4 : Int32} {x21 : Int32} {x23 : Int32} {x90 : Int32} {x87 : Int32} {x93 : Int32} {x98 : Int32} {x96 : Int32} {x101 : Int32} {x108 : Int32} {x74 : Int32} {x106 : Int32} {x111 : Int32} (a0 : x74 = v (rf G h0 1) (Int32.toNatClampNeg (2 : Int32))) (a1 : x87 = (4 : Int32) * x23) (a2 : x90 = (50 : Int32) + x87) (a3 : x93 = (20 : Int32) + x_0) (a4 : x96 = v (rf G h0 1) (Int32.toNatClampNeg x93)) (a5 : x98 = x90 + (1 : Int32)) (a6 : x101 = v (rf G h0 1) (Int32.toNatClampNeg x98)) (a7 : x106 = F_X8_liftsBy G w v x96 x4 x101) (a8 : x108 = x90 + (2 : Int32)) (a9 : x111 = v (rf G h0 1) (Int32.toNatClampNeg x108)) (k0 : ¬ (x74 ≤ x23)) (k1 : ¬ (x106 < x111)) : K_X8_strengthsOf_16 G w h0 rec4 (n16 + 1) v x_0 x2 x4 x21 x23 = K_X8_strengthsOf_75 G w h0 rec4 (K_X8_strengthsOf_16 G w h0 rec4 n16) v x_0 x2 x4 x21 x23 x90 (1 : Int32) := by
  subst a9; subst a8; subst a7; subst a6; subst a5; subst a4; subst a3; subst a2; subst a1; subst a0; first | rw [K_X8_strengthsOf_16, if_neg k0, if_neg k1] | simp only [K_X8_strengthsOf_16, if_neg k0, if_neg k1]
set_option maxRecDepth 100000 in
theorem kx_X8_strengthsOf_15 {G : Gm} {w : Mw} {h0 : Nat} {n4 : Nat} {v : Mv} {x_0 : Int32} {x2 : Int32} {x4 : Int32}  (k0 : (9 : Int32) < x4) : K_X8_strengthsOf_4 G w h0 (n4 + 1) v x_0 x2 x4 = x2 := by
  first | rw [K_X8_strengthsOf_4, if_pos k0] | simp only [K_X8_strengthsOf_4, if_pos k0]
set_option maxRecDepth 100000 in
theorem kx_X8_strengthsOf_16 {G : Gm} {w : Mw} {h0 : Nat} {n4 : Nat} {v : Mv} {x_0 : Int32} {x2 : Int32} {x4 : Int32}  (k0 : ¬ ((9 : Int32) < x4)) : K_X8_strengthsOf_4 G w h0 (n4 + 1) v x_0 x2 x4 = K_X8_strengthsOf_16 G w h0 (K_X8_strengthsOf_4 G w h0 n4) 6 v x_0 x2 x4 (1 : Int32) (0 : Int32) := by
  first | rw [K_X8_strengthsOf_4, if_neg k0] | simp only [K_X8_strengthsOf_4, if_neg k0]
set_option maxRecDepth 100000 in
theorem kx_X8_strengthsOf_17 {G : Gm} {w : Mw} {v : Mv} {h0 : Nat} {x_0 : Int32}   : K_X8_strengthsOf_e G w v h0 x_0 = K_X8_strengthsOf_4 G w h0 10 v x_0 (0 : Int32) (1 : Int32) := by
  first | rw [K_X8_strengthsOf_e] | simp only [K_X8_strengthsOf_e]
abbrev rm_X8_strengthsOf : Room := { frames := 1, cells := 0, slots := 0, locals := 24 }
set_option maxHeartbeats 4000000 in
set_option maxRecDepth 100000 in
theorem ct_X8_strengthsOf (l : Launch) (D : va_G) (dA : Nat → ClassId) (G : Gm) (v : Mv) (w : Mw) (hOk : Ok G v w) (h0 : Nat) (S0 : S_X8 G h0) (x_0 : Int32) (bx_0 : Bd x_0 0 6) : CtI l yX8_strengthsOf cX8_strengthsOf 8 (some .int) rm_X8_strengthsOf D dA G [.ref h0, .int x_0] v w (fun r v1 w1 => v1 = v ∧ w1 = w ∧ Bd r 0 1023 ∧ r = F_X8_strengthsOf G w v h0 x_0) := by
  refine CtI.of RX8 [(0, .ref h0), (1, .int x_0)] (Nat.le_of_ble_eq_true rfl) rfl (by decide) rfl ?_
  intro p e s m args below meth c E hr
  have J4 : ∀ n4 : Nat, Bd x_0 0 6 → ∀ x2 : Int32, Bd x2 0 1023 → ∀ x4 : Int32, Bd x4 1 10 → Mu x4 10 n4 → K_X8_strengthsOf_4 G w h0 n4 v x_0 x2 x4 = F_X8_strengthsOf G w v h0 x_0 → J p l e rm_X8_strengthsOf s m args below meth c 0 0 (MQ below (QcI D dA G (fun r v1 w1 => v1 = v ∧ w1 = w ∧ Bd r 0 1023 ∧ r = F_X8_strengthsOf G w v h0 x_0)) args s 0 0 (dm G)) D dA G (dm G) s.heap 8 v w [(0, .ref h0), (1, .int x_0), (2, .int x2), (3, .int x4)] 4 [] := by
    intro n4
    induction n4 with
    | zero => intro b1 x2 b3 x4 b5 hm hK; exact hm.zero b5 (by decide)
    | succ n4 ih4 =>
      intro b1 x2 b3 x4 b5 hmu4 hK
      have J142 : Bd x_0 0 6 → Bd x4 1 9 → ∀ x8 : Int32, Bd x8 0 780 → ∀ x10 : Int32, Bd x10 0 1023 → K_X8_strengthsOf_142 G w h0 (K_X8_strengthsOf_4 G w h0 n4) v x_0 x4 x8 x10 = F_X8_strengthsOf G w v h0 x_0 → J p l e rm_X8_strengthsOf s m args below meth c 0 0 (MQ below (QcI D dA G (fun r v1 w1 => v1 = v ∧ w1 = w ∧ Bd r 0 1023 ∧ r = F_X8_strengthsOf G w v h0 x_0)) args s 0 0 (dm G)) D dA G (dm G) s.heap 8 v w [(0, .ref h0), (1, .int x_0), (3, .int x4)] 142 [.int x8, .int x10] := by
        intro b6 b7 x8 b9 x10 b11 hK
        refine J_ior E dX8_strengthsOf_142 (fun x12 e13 => ?_)
        have b14 : Bd x12 0 1023 := Bd.or e13 b11 b9 10 (by decide)
        refine J_istore_n E [(2, .int x12), (0, .ref h0), (1, .int x_0), (3, .int x4)] dX8_strengthsOf_143 rfl (by decide) rfl ?_
        refine J_iinc E 3 1 (fun z => [(3, .int z), (2, .int x12), (0, .ref h0), (1, .int x_0)]) dX8_strengthsOf_144 rfl (by decide) (by decide) (fun _ => rfl) (fun x15 e16 => ?_)
        have b17 : Bd x15 2 10 := (Bd.add e16 b7 (Bd.lit 1 1 (by decide)) (by decide)).w _ _ (by decide)
        refine J_goto E 4 dX8_strengthsOf_147 (by decide) ?_
        exact J.sub [2, 3, 1, 0] rfl (ih4 b6 x12 b14 x15 (b17.w 1 10 (by decide)) (Mu.step hmu4 e16 b7 (Bd.lit 1 1 (by decide)) (by decide)) ((kx_X8_strengthsOf_1 (e13) (e16)).symm.trans hK))
      have J16 : ∀ n16 : Nat, Bd x_0 0 6 → Bd x2 0 1023 → Bd x4 1 9 → ∀ x21 : Int32, Bd x21 0 1 → ∀ x23 : Int32, Bd x23 0 5 → Mu x23 5 n16 → K_X8_strengthsOf_16 G w h0 (K_X8_strengthsOf_4 G w h0 n4) n16 v x_0 x2 x4 x21 x23 = F_X8_strengthsOf G w v h0 x_0 → J p l e rm_X8_strengthsOf s m args below meth c 0 0 (MQ below (QcI D dA G (fun r v1 w1 => v1 = v ∧ w1 = w ∧ Bd r 0 1023 ∧ r = F_X8_strengthsOf G w v h0 x_0)) args s 0 0 (dm G)) D dA G (dm G) s.heap 8 v w [(0, .ref h0), (1, .int x_0), (2, .int x2), (3, .int x4), (4, .int x21), (5, .int x23)] 16 [] := by
        intro n16
        induction n16 with
        | zero => intro b18 b19 b20 x21 b22 x23 b24 hm hK; exact hm.zero b24 (by decide)
        | succ n16 ih16 =>
          intro b18 b19 b20 x21 b22 x23 b24 hmu16 hK
          have J121 : Bd x_0 0 6 → Bd x2 0 1023 → Bd x4 1 9 → Bd x23 0 4 → ∀ x29 : Int32, Bd x29 0 1 → K_X8_strengthsOf_121 G w h0 (K_X8_strengthsOf_4 G w h0 n4) (K_X8_strengthsOf_16 G w h0 (K_X8_strengthsOf_4 G w h0 n4) n16) v x_0 x2 x4 x23 x29 = F_X8_strengthsOf G w v h0 x_0 → J p l e rm_X8_strengthsOf s m args below meth c 0 0 (MQ below (QcI D dA G (fun r v1 w1 => v1 = v ∧ w1 = w ∧ Bd r 0 1023 ∧ r = F_X8_strengthsOf G w v h0 x_0)) args s 0 0 (dm G)) D dA G (dm G) s.heap 8 v w [(0, .ref h0), (1, .int x_0), (2, .int x2), (3, .int x4), (5, .int x23)] 121 [.int x29] := by
            intro b25 b26 b27 b28 x29 b30 hK
            refine J_istore E [(4, .int x29), (0, .ref h0), (1, .int x_0), (2, .int x2), (3, .int x4), (5, .int x23)] dX8_strengthsOf_121 (by decide) rfl ?_
            refine J_iinc E 5 1 (fun z => [(5, .int z), (4, .int x29), (0, .ref h0), (1, .int x_0), (2, .int x2), (3, .int x4)]) dX8_strengthsOf_123 rfl (by decide) (by decide) (fun _ => rfl) (fun x31 e32 => ?_)
            have b33 : Bd x31 1 5 := (Bd.add e32 b28 (Bd.lit 1 1 (by decide)) (by decide)).w _ _ (by decide)
            refine J_goto E 16 dX8_strengthsOf_126 (by decide) ?_
            exact J.sub [2, 3, 4, 5, 1, 0] rfl (ih16 b25 b26 b27 x29 b30 x31 (b33.w 0 5 (by decide)) (Mu.step hmu16 e32 b28 (Bd.lit 1 1 (by decide)) (by decide)) ((kx_X8_strengthsOf_2 (e32)).symm.trans hK))
          have J120 : Bd x_0 0 6 → Bd x2 0 1023 → Bd x4 1 9 → Bd x23 0 4 → K_X8_strengthsOf_120 G w h0 (K_X8_strengthsOf_4 G w h0 n4) (K_X8_strengthsOf_16 G w h0 (K_X8_strengthsOf_4 G w h0 n4) n16) v x_0 x2 x4 x23 = F_X8_strengthsOf G w v h0 x_0 → J p l e rm_X8_strengthsOf s m args below meth c 0 0 (MQ below (QcI D dA G (fun r v1 w1 => v1 = v ∧ w1 = w ∧ Bd r 0 1023 ∧ r = F_X8_strengthsOf G w v h0 x_0)) args s 0 0 (dm G)) D dA G (dm G) s.heap 8 v w [(0, .ref h0), (1, .int x_0), (2, .int x2), (3, .int x4), (5, .int x23)] 120 [] := by
            intro b34 b35 b36 b37 hK
            refine J_iconst E 0 dX8_strengthsOf_120 (by decide) ?_
            exact J.sub [0, 1, 2, 3, 4] rfl (J121 b34 b35 b36 b37 0 ((Bd.lit 0 0 (by decide)).w 0 1 (by decide)) ((kx_X8_strengthsOf_3).symm.trans hK))
          have J116 : Bd x_0 0 6 → Bd x2 0 1023 → Bd x4 1 9 → Bd x23 0 4 → K_X8_strengthsOf_116 G w h0 (K_X8_strengthsOf_4 G w h0 n4) (K_X8_strengthsOf_16 G w h0 (K_X8_strengthsOf_4 G w h0 n4) n16) v x_0 x2 x4 x23 = F_X8_strengthsOf G w v h0 x_0 → J p l e rm_X8_strengthsOf s m args below meth c 0 0 (MQ below (QcI D dA G (fun r v1 w1 => v1 = v ∧ w1 = w ∧ Bd r 0 1023 ∧ r = F_X8_strengthsOf G w v h0 x_0)) args s 0 0 (dm G)) D dA G (dm G) s.heap 8 v w [(0, .ref h0), (1, .int x_0), (2, .int x2), (3, .int x4), (5, .int x23)] 116 [] := by
            intro b38 b39 b40 b41 hK
            refine J_iconst E 1 dX8_strengthsOf_116 (by decide) ?_
            refine J_goto E 121 dX8_strengthsOf_117 (by decide) ?_
            exact J.sub [0, 1, 2, 3, 4] rfl (J121 b38 b39 b40 b41 1 ((Bd.lit 1 1 (by decide)).w 0 1 (by decide)) ((kx_X8_strengthsOf_4).symm.trans hK))
          have J113 : Bd x_0 0 6 → Bd x2 0 1023 → Bd x4 1 9 → Bd x23 0 4 → ∀ x46 : Int32, Bd x46 0 1 → ∀ x48 : Int32, Bd x48 0 1 → K_X8_strengthsOf_113 G w h0 (K_X8_strengthsOf_4 G w h0 n4) (K_X8_strengthsOf_16 G w h0 (K_X8_strengthsOf_4 G w h0 n4) n16) v x_0 x2 x4 x23 x46 x48 = F_X8_strengthsOf G w v h0 x_0 → J p l e rm_X8_strengthsOf s m args below meth c 0 0 (MQ below (QcI D dA G (fun r v1 w1 => v1 = v ∧ w1 = w ∧ Bd r 0 1023 ∧ r = F_X8_strengthsOf G w v h0 x_0)) args s 0 0 (dm G)) D dA G (dm G) s.heap 8 v w [(0, .ref h0), (1, .int x_0), (2, .int x2), (3, .int x4), (5, .int x23)] 113 [.int x46, .int x48] := by
            intro b42 b43 b44 b45 x46 b47 x48 b49 hK
            refine J_icmp_ne E 120 dX8_strengthsOf_113 (by decide) (fun c50 => ?_) (fun c50 => ?_)
            · exact J.sub [0, 1, 2, 3, 4] rfl (J120 b42 b43 b44 b45 ((kx_X8_strengthsOf_5 (c50)).symm.trans hK))
            · exact J.sub [0, 1, 2, 3, 4] rfl (J116 b42 b43 b44 b45 ((kx_X8_strengthsOf_6 (c50)).symm.trans hK))
          have J75 : Bd x_0 0 6 → Bd x2 0 1023 → Bd x4 1 9 → Bd x21 0 1 → Bd x23 0 4 → ∀ x56 : Int32, Bd x56 50 99 → ∀ x58 : Int32, Bd x58 0 1 → K_X8_strengthsOf_75 G w h0 (K_X8_strengthsOf_4 G w h0 n4) (K_X8_strengthsOf_16 G w h0 (K_X8_strengthsOf_4 G w h0 n4) n16) v x_0 x2 x4 x21 x23 x56 x58 = F_X8_strengthsOf G w v h0 x_0 → J p l e rm_X8_strengthsOf s m args below meth c 0 0 (MQ below (QcI D dA G (fun r v1 w1 => v1 = v ∧ w1 = w ∧ Bd r 0 1023 ∧ r = F_X8_strengthsOf G w v h0 x_0)) args s 0 0 (dm G)) D dA G (dm G) s.heap 8 v w [(0, .ref h0), (1, .int x_0), (2, .int x2), (3, .int x4), (4, .int x21), (5, .int x23), (6, .int x56)] 75 [.int x58] := by
            intro b51 b52 b53 b54 b55 x56 b57 x58 b59 hK
            refine J_istore E [(7, .int x58), (0, .ref h0), (1, .int x_0), (2, .int x2), (3, .int x4), (4, .int x21), (5, .int x23), (6, .int x56)] dX8_strengthsOf_75 (by decide) rfl ?_
            refine J_iload E dX8_strengthsOf_77 5 rfl ?_
            refine J_if_eq E 120 dX8_strengthsOf_79 (by decide) (fun c60 => ?_) (fun c60 => ?_)
            · have b61 : Bd x21 0 0 := Bd.eq_l c60 b54 (Bd.lit 0 0 (by decide)) 0 0 (by decide)
              exact J.sub [1, 2, 3, 4, 6] rfl (J120 b51 b52 b53 b55 ((kx_X8_strengthsOf_7 (c60)).symm.trans hK))
            · have b62 : Bd x21 1 1 := (Bd.ne_lo c60 b54 (Bd.lit 0 0 (by decide))).w _ _ (by decide)
              refine J_aload_n E dX8_strengthsOf_82 1 rfl ?_
              refine J_getR E in_X8 rfl (S_X8.h S0) 1 (by decide) wd936 rfl dX8_strengthsOf_83 ?_
              refine J_iload E dX8_strengthsOf_86 7 rfl ?_
              refine J_iald1 E (S_X8.f1 S0) (Bd.in b57 (by decide)) dX8_strengthsOf_88 (fun x63 e64 => ?_)
              refine J_iload_n E dX8_strengthsOf_89 2 rfl ?_
              refine J_icmp_ne E 116 dX8_strengthsOf_90 (by decide) (fun c65 => ?_) (fun c65 => ?_)
              · exact J.sub [1, 2, 3, 4, 6] rfl (J116 b51 b52 b53 b55 ((kx_X8_strengthsOf_8 (e64) (c60) (c65)).symm.trans hK))
              · have b66 : Bd x63 0 6 := Bd.eq_l c65 (Bd.any x63) b51 0 6 (by decide)
                refine J_iload E dX8_strengthsOf_93 0 rfl ?_
                refine J_aload_n E dX8_strengthsOf_95 1 rfl ?_
                refine J_getR E in_X8 rfl (S_X8.h S0) 1 (by decide) wd936 rfl dX8_strengthsOf_96 ?_
                refine J_iload E dX8_strengthsOf_99 7 rfl ?_
                refine J_iconst E 3 dX8_strengthsOf_101 (by decide) ?_
                refine J_iadd E dX8_strengthsOf_102 (fun x67 e68 => ?_)
                have b69 : Bd x67 53 102 := (Bd.add e68 b57 (Bd.lit 3 3 (by decide)) (by decide)).w _ _ (by decide)
                refine J_iald1 E (S_X8.f1 S0) (Bd.in b69 (by decide)) dX8_strengthsOf_103 (fun x70 e71 => ?_)
                refine J_iconst E 1 dX8_strengthsOf_104 (by decide) ?_
                refine J_icmp_ne E 112 dX8_strengthsOf_105 (by decide) (fun c72 => ?_) (fun c72 => ?_)
                · refine J_iconst E 0 dX8_strengthsOf_112 (by decide) ?_
                  exact J.sub [1, 2, 3, 4, 6] rfl (J113 b51 b52 b53 b55 0 ((Bd.lit 0 0 (by decide)).w 0 1 (by decide)) x58 b59 ((kx_X8_strengthsOf_9 (e64) (e68) (e71) (c60) (c65) (c72)).symm.trans hK))
                · have b73 : Bd x70 1 1 := Bd.eq_l c72 (Bd.any x70) (Bd.lit 1 1 (by decide)) 1 1 (by decide)
                  refine J_iconst E 1 dX8_strengthsOf_108 (by decide) ?_
                  refine J_goto E 113 dX8_strengthsOf_109 (by decide) ?_
                  exact J.sub [1, 2, 3, 4, 6] rfl (J113 b51 b52 b53 b55 1 ((Bd.lit 1 1 (by decide)).w 0 1 (by decide)) x58 b59 ((kx_X8_strengthsOf_10 (e64) (e68) (e71) (c60) (c65) (c72)).symm.trans hK))
          refine J_iload E dX8_strengthsOf_16 5 rfl ?_
          refine J_aload_n E dX8_strengthsOf_18 0 rfl ?_
          refine J_getR E in_X8 rfl (S_X8.h S0) 1 (by decide) wd936 rfl dX8_strengthsOf_19 ?_
          refine J_iconst E 2 dX8_strengthsOf_22 (by decide) ?_
          refine J_iald1 E (S_X8.f1 S0) (Bd.in (Bd.lit 2 2 (by decide)) (by decide)) dX8_strengthsOf_23 (fun x74 e75 => ?_)
          have b76 : Bd x74 0 5 := Bd.e (Ok.ld hOk (S_X8.f1 S0) (Bd.lit 2 2 (by decide)) 2 1 0 5 (by decide) (by decide +kernel)) e75
          have e77 : x74 = v (rf G h0 1) 2 := by rw [e75, Bd.ix (Bd.lit 2 2 (by decide)) 2 rfl]
          refine J_icmp_ge E 129 dX8_strengthsOf_24 (by decide) (fun c78 => ?_) (fun c78 => ?_)
          · refine J_iload_n E dX8_strengthsOf_129 2 rfl ?_
            refine J_iload E dX8_strengthsOf_130 4 rfl ?_
            refine J_if_eq E 141 dX8_strengthsOf_132 (by decide) (fun c79 => ?_) (fun c79 => ?_)
            · have b80 : Bd x21 0 0 := Bd.eq_l c79 b22 (Bd.lit 0 0 (by decide)) 0 0 (by decide)
              refine J_iconst E 0 dX8_strengthsOf_141 (by decide) ?_
              exact J.sub [0, 1, 3] rfl (J142 b18 b20 0 ((Bd.lit 0 0 (by decide)).w 0 780 (by decide)) x2 b19 ((kx_X8_strengthsOf_11 (e75) (c78) (c79)).symm.trans hK))
            · have b81 : Bd x21 1 1 := (Bd.ne_lo c79 b22 (Bd.lit 0 0 (by decide))).w _ _ (by decide)
              refine J_iconst E 1 dX8_strengthsOf_135 (by decide) ?_
              refine J_iload_n E dX8_strengthsOf_136 3 rfl ?_
              refine J_ishl E dX8_strengthsOf_137 (fun x82 e83 => ?_)
              have b84 : Bd x82 1 512 := Bd.shl1 e83 b20 9 (by decide)
              refine J_goto E 142 dX8_strengthsOf_138 (by decide) ?_
              exact J.sub [0, 1, 3] rfl (J142 b18 b20 x82 (b84.w 0 780 (by decide)) x2 b19 ((kx_X8_strengthsOf_12 (e75) (e83) (c78) (c79)).symm.trans hK))
          · have b85 : Bd x23 0 4 := Bd.lt_l (nle c78) b24 b76 4 (by decide)
            have b86 : Bd x74 1 5 := Bd.lt_r (nle c78) b24 b76 1 (by decide)
            refine J_bipush E 50 dX8_strengthsOf_27 (by decide) ?_
            refine J_iconst E 4 dX8_strengthsOf_29 (by decide) ?_
            refine J_iload E dX8_strengthsOf_30 5 rfl ?_
            refine J_imul E dX8_strengthsOf_32 (fun x87 e88 => ?_)
            have b89 : Bd x87 0 16 := Bd.mul e88 (Bd.lit 4 4 (by decide)) b85 (by decide)
            refine J_iadd E dX8_strengthsOf_33 (fun x90 e91 => ?_)
            have b92 : Bd x90 50 66 := (Bd.add e91 (Bd.lit 50 50 (by decide)) b89 (by decide)).w _ _ (by decide)
            refine J_istore E [(6, .int x90), (0, .ref h0), (1, .int x_0), (2, .int x2), (3, .int x4), (4, .int x21), (5, .int x23)] dX8_strengthsOf_34 (by decide) rfl ?_
            refine J_aload_n E dX8_strengthsOf_36 1 rfl ?_
            refine J_getR E in_X8 rfl (S_X8.h S0) 1 (by decide) wd936 rfl dX8_strengthsOf_37 ?_
            refine J_bipush E 20 dX8_strengthsOf_40 (by decide) ?_
            refine J_iload_n E dX8_strengthsOf_42 2 rfl ?_
            refine J_iadd E dX8_strengthsOf_43 (fun x93 e94 => ?_)
            have b95 : Bd x93 20 26 := (Bd.add e94 (Bd.lit 20 20 (by decide)) b18 (by decide)).w _ _ (by decide)
            refine J_iald1 E (S_X8.f1 S0) (Bd.in b95 (by decide)) dX8_strengthsOf_44 (fun x96 e97 => ?_)
            refine J_iload_n E dX8_strengthsOf_45 4 rfl ?_
            refine J_aload_n E dX8_strengthsOf_46 1 rfl ?_
            refine J_getR E in_X8 rfl (S_X8.h S0) 1 (by decide) wd936 rfl dX8_strengthsOf_47 ?_
            refine J_iload E dX8_strengthsOf_50 0 rfl ?_
            refine J_iconst E 1 dX8_strengthsOf_52 (by decide) ?_
            refine J_iadd E dX8_strengthsOf_53 (fun x98 e99 => ?_)
            have b100 : Bd x98 51 67 := (Bd.add e99 b92 (Bd.lit 1 1 (by decide)) (by decide)).w _ _ (by decide)
            refine J_iald1 E (S_X8.f1 S0) (Bd.in b100 (by decide)) dX8_strengthsOf_54 (fun x101 e102 => ?_)
            refine J_callSI E cal_X8_liftsBy wd1109 [.int x96, .int x4, .int x101] [] (ct_X8_liftsBy l D dA G v w (hOk) x96 x4 x101) rfl rfl (Nat.le_of_ble_eq_true rfl) ⟨rfl, rfl⟩ ⟨Nat.le_of_ble_eq_true rfl, Nat.le_of_ble_eq_true rfl⟩ dX8_strengthsOf_55 (fun x106 v103 w104 p105 => ?_)
            rw [p105.1, p105.2.1]
            have e107 : x106 = F_X8_liftsBy G w v x96 x4 x101 := (p105.2.2.2)
            refine J_aload_n E dX8_strengthsOf_58 1 rfl ?_
            refine J_getR E in_X8 rfl (S_X8.h S0) 1 (by decide) wd936 rfl dX8_strengthsOf_59 ?_
            refine J_iload E dX8_strengthsOf_62 0 rfl ?_
            refine J_iconst E 2 dX8_strengthsOf_64 (by decide) ?_
            refine J_iadd E dX8_strengthsOf_65 (fun x108 e109 => ?_)
            have b110 : Bd x108 52 68 := (Bd.add e109 b92 (Bd.lit 2 2 (by decide)) (by decide)).w _ _ (by decide)
            refine J_iald1 E (S_X8.f1 S0) (Bd.in b110 (by decide)) dX8_strengthsOf_66 (fun x111 e112 => ?_)
            refine J_icmp_lt E 74 dX8_strengthsOf_67 (by decide) (fun c113 => ?_) (fun c113 => ?_)
            · refine J_iconst E 0 dX8_strengthsOf_74 (by decide) ?_
              exact J.sub [1, 2, 3, 4, 5, 6, 0] rfl (J75 b18 b19 b20 b22 b85 x90 (b92.w 50 99 (by decide)) 0 ((Bd.lit 0 0 (by decide)).w 0 1 (by decide)) ((kx_X8_strengthsOf_13 (e75) (e88) (e91) (e94) (e97) (e99) (e102) (e107) (e109) (e112) (c78) (c113)).symm.trans hK))
            · refine J_iconst E 1 dX8_strengthsOf_70 (by decide) ?_
              refine J_goto E 75 dX8_strengthsOf_71 (by decide) ?_
              exact J.sub [1, 2, 3, 4, 5, 6, 0] rfl (J75 b18 b19 b20 b22 b85 x90 (b92.w 50 99 (by decide)) 1 ((Bd.lit 1 1 (by decide)).w 0 1 (by decide)) ((kx_X8_strengthsOf_14 (e75) (e88) (e91) (e94) (e97) (e99) (e102) (e107) (e109) (e112) (c78) (c113)).symm.trans hK))
      refine J_iload_n E dX8_strengthsOf_4 3 rfl ?_
      refine J_bipush E 9 dX8_strengthsOf_5 (by decide) ?_
      refine J_icmp_gt E 150 dX8_strengthsOf_7 (by decide) (fun c114 => ?_) (fun c114 => ?_)
      · have b115 : Bd x4 10 10 := Bd.lt_r c114 (Bd.lit 9 9 (by decide)) b5 10 (by decide)
        refine J_iload_n E dX8_strengthsOf_150 2 rfl ?_
        exact J_iret E hr dX8_strengthsOf_151 ⟨rfl, rfl, b3, ((kx_X8_strengthsOf_15 (c114)).symm.trans hK)⟩
      · have b116 : Bd x4 1 9 := Bd.le_l (nlt c114) b5 (Bd.lit 9 9 (by decide)) 9 (by decide)
        refine J_iconst E 1 dX8_strengthsOf_10 (by decide) ?_
        refine J_istore E [(4, .int 1), (0, .ref h0), (1, .int x_0), (2, .int x2), (3, .int x4)] dX8_strengthsOf_11 (by decide) rfl ?_
        refine J_iconst E 0 dX8_strengthsOf_13 (by decide) ?_
        refine J_istore E [(5, .int 0), (4, .int 1), (0, .ref h0), (1, .int x_0), (2, .int x2), (3, .int x4)] dX8_strengthsOf_14 (by decide) rfl ?_
        exact J.sub [2, 3, 4, 5, 1, 0] rfl (J16 6 b1 b3 b116 1 ((Bd.lit 1 1 (by decide)).w 0 1 (by decide)) 0 ((Bd.lit 0 0 (by decide)).w 0 5 (by decide)) (Mu.start _ (Bd.lit 0 0 (by decide)) (by decide)) ((kx_X8_strengthsOf_16 (c114)).symm.trans hK))
  have hK : K_X8_strengthsOf_e G w v h0 x_0 = F_X8_strengthsOf G w v h0 x_0 := rfl
  refine J_iconst E 0 dX8_strengthsOf_0 (by decide) ?_
  refine J_istore_n E [(2, .int 0), (0, .ref h0), (1, .int x_0)] dX8_strengthsOf_1 rfl (by decide) rfl ?_
  refine J_iconst E 1 dX8_strengthsOf_2 (by decide) ?_
  refine J_istore_n E [(3, .int 1), (2, .int 0), (0, .ref h0), (1, .int x_0)] dX8_strengthsOf_3 rfl (by decide) rfl ?_
  exact J.sub [2, 3, 1, 0] rfl (J4 10 bx_0 0 ((Bd.lit 0 0 (by decide)).w 0 1023 (by decide)) 1 ((Bd.lit 1 1 (by decide)).w 1 10 (by decide)) (Mu.start _ (Bd.lit 1 1 (by decide)) (by decide)) ((kx_X8_strengthsOf_17).symm.trans hK))

def K_X8_strong_84 (G : Gm) (w : Mw) (h0 : Nat) (rec37 : Mv → Int32 → Int32 → Int32 → Int32 → Int32 → Int32 × Mv) (v : Mv) (x_1 : Int32) (x2 : Int32) (x12 : Int32) (x8 : Int32) (x15 : Int32) : Int32 × Mv :=
  rec37 v x_1 x2 x12 x15 (x8 + (1 : Int32))
def K_X8_strong_66 (G : Gm) (w : Mw) (h0 : Nat) (rec37 : Mv → Int32 → Int32 → Int32 → Int32 → Int32 → Int32 × Mv) (v : Mv) (x_1 : Int32) (x2 : Int32) (x6 : Int32) (x8 : Int32) (x24 : Int32) : Int32 × Mv :=
  if (F_X8_has G w v x2 x8) = (0 : Int32) then (K_X8_strong_84 G w h0 rec37 v x_1 x2 x24 x8 x6) else (K_X8_strong_84 G w h0 rec37 v x_1 x2 x24 x8 x8)
def K_X8_strong_64 (G : Gm) (w : Mw) (h0 : Nat) (rec37 : Mv → Int32 → Int32 → Int32 → Int32 → Int32 → Int32 × Mv) (v : Mv) (x_1 : Int32) (x2 : Int32) (x4 : Int32) (x6 : Int32) (x8 : Int32) : Int32 × Mv :=
  K_X8_strong_66 G w h0 rec37 v x_1 x2 x6 x8 x4
def K_X8_strong_37 (G : Gm) (w : Mw) (h0 : Nat) : Nat → Mv → Int32 → Int32 → Int32 → Int32 → Int32 → Int32 × Mv
  | 0, _, _, _, _, _, _ => ((0 : Int32), (fun _ _ => 0 : Mv))
  | n37 + 1, v, x_1, x2, x4, x6, x8 =>
    if (9 : Int32) < x8 then (if x_1 = (0 : Int32) then (((F_X8_bitsOf G w v x2), v)) else (if x_1 = (1 : Int32) then ((x4, v)) else ((x6, v)))) else (if (F_X8_has G w v x2 x8) = (0 : Int32) then (K_X8_strong_64 G w h0 (K_X8_strong_37 G w h0 n37) v x_1 x2 x4 x6 x8) else (if x4 = (-1 : Int32) then (K_X8_strong_66 G w h0 (K_X8_strong_37 G w h0 n37) v x_1 x2 x6 x8 x8) else (K_X8_strong_64 G w h0 (K_X8_strong_37 G w h0 n37) v x_1 x2 x4 x6 x8)))
def K_X8_strong_c1 (G : Gm) (w : Mw) (h0 : Nat) (v66 : Mv) (x69 : Int32) : Int32 × Mv :=
  (x69, v66)
def K_X8_strong_17 (G : Gm) (w : Mw) (h0 : Nat) (v : Mv) : Int32 × Mv :=
  K_X8_strong_c1 G w h0 ((F_X8_bad G w v h0).2) ((F_X8_bad G w v h0).1)
def K_X8_strong_e (G : Gm) (w : Mw) (v : Mv) (h0 : Nat) (x_0 : Int32) (x_1 : Int32) : Int32 × Mv :=
  if (F_X8_isOne G w v h0 x_0) = (0 : Int32) then (K_X8_strong_17 G w h0 v) else (if (F_X8_in G w v x_1 (0 : Int32) (2 : Int32)) = (0 : Int32) then (K_X8_strong_17 G w h0 v) else (K_X8_strong_37 G w h0 10 v x_1 (F_X8_strengthsOf G w v h0 x_0) (-1 : Int32) (-1 : Int32) (1 : Int32)))
def F_X8_strong (G : Gm) (w : Mw) (v : Mv) (h0 : Nat) (x_0 : Int32) (x_1 : Int32) : Int32 × Mv := K_X8_strong_e G w v h0 x_0 x_1
set_option maxRecDepth 100000 in
theorem kx_X8_strong_1 {G : Gm} {w : Mw} {h0 : Nat} {rec37 : Mv → Int32 → Int32 → Int32 → Int32 → Int32 → Int32 × Mv} {v : Mv} {x_1 : Int32} {x2 : Int32} {x12 : Int32} {x8 : Int32} {x15 : Int32} {x17 : Int32} (a0 : x17 = x8 + (1 : Int32))  : K_X8_strong_84 G w h0 rec37 v x_1 x2 x12 x8 x15 = rec37 v x_1 x2 x12 x15 x17 := by
  subst a0; first | rw [K_X8_strong_84] | simp only [K_X8_strong_84]
set_option maxRecDepth 100000 in
theorem kx_X8_strong_2 {G : Gm} {w : Mw} {h0 : Nat} {rec37 : Mv → Int32 → Int32 → Int32 → Int32 → Int32 → Int32 × Mv} {v : Mv} {x_1 : Int32} {x2 : Int32} {x6 : Int32} {x8 : Int32} {x24 : Int32} {x29 : Int32} (a0 : x29 = F_X8_has G w v x2 x8) (k0 : x29 = (0 : Int32)) : K_X8_strong_66 G w h0 rec37 v x_1 x2 x6 x8 x24 = K_X8_strong_84 G w h0 rec37 v x_1 x2 x24 x8 x6 := by
  subst a0; first | rw [K_X8_strong_66, if_pos k0] | simp only [K_X8_strong_66, if_pos k0]
set_option maxRecDepth 100000 in
theorem kx_X8_strong_3 {G : Gm} {w : Mw} {h0 : Nat} {rec37 : Mv → Int32 → Int32 → Int32 → Int32 → Int32 → Int32 × Mv} {v : Mv} {x_1 : Int32} {x2 : Int32} {x6 : Int32} {x8 : Int32} {x24 : Int32} {x29 : Int32} (a0 : x29 = F_X8_has G w v x2 x8) (k0 : ¬ (x29 = (0 : Int32))) : K_X8_strong_66 G w h0 rec37 v x_1 x2 x6 x8 x24 = K_X8_strong_84 G w h0 rec37 v x_1 x2 x24 x8 x8 := by
  subst a0; first | rw [K_X8_strong_66, if_neg k0] | simp only [K_X8_strong_66, if_neg k0]
set_option maxRecDepth 100000 in
theorem kx_X8_strong_4 {G : Gm} {w : Mw} {h0 : Nat} {rec37 : Mv → Int32 → Int32 → Int32 → Int32 → Int32 → Int32 × Mv} {v : Mv} {x_1 : Int32} {x2 : Int32} {x4 : Int32} {x6 : Int32} {x8 : Int32}   : K_X8_strong_64 G w h0 rec37 v x_1 x2 x4 x6 x8 = K_X8_strong_66 G w h0 rec37 v x_1 x2 x6 x8 x4 := by
  first | rw [K_X8_strong_64] | simp only [K_X8_strong_64]
set_option maxRecDepth 100000 in
theorem kx_X8_strong_5 {G : Gm} {w : Mw} {h0 : Nat} {n37 : Nat} {v : Mv} {x_1 : Int32} {x2 : Int32} {x4 : Int32} {x6 : Int32} {x8 : Int32}  (k0 : (9 : Int32) < x8) (k1 : ¬ (x_1 = (0 : Int32))) (k2 : ¬ (x_1 = (1 : Int32))) : K_X8_strong_37 G w h0 (n37 + 1) v x_1 x2 x4 x6 x8 = (x6, v) := by
  first | rw [K_X8_strong_37, if_pos k0, if_neg k1, if_neg k2] | simp only [K_X8_strong_37, if_pos k0, if_neg k1, if_neg k2]
set_option maxRecDepth 100000 in
theorem kx_X8_strong_6 {G : Gm} {w : Mw} {h0 : Nat} {n37 : Nat} {v : Mv} {x_1 : Int32} {x2 : Int32} {x4 : Int32} {x6 : Int32} {x8 : Int32}  (k0 : (9 : Int32) < x8) (k1 : ¬ (x_1 = (0 : Int32))) (k2 : x_1 = (1 : Int32)) : K_X8_strong_37 G w h0 (n37 + 1) v x_1 x2 x4 x6 x8 = (x4, v) := by
  first | rw [K_X8_strong_37, if_pos k0, if_neg k1, if_pos k2] | simp only [K_X8_strong_37, if_pos k0, if_neg k1, if_pos k2]
set_option maxRecDepth 100000 in
theorem kx_X8_strong_7 {G : Gm} {w : Mw} {h0 : Nat} {n37 : Nat} {v : Mv} {x_1 : Int32} {x2 : Int32} {x4 : Int32} {x6 : Int32} {x8 : Int32} {x51 : Int32} (a0 : x51 = F_X8_bitsOf G w v x2) (k0 : (9 : Int32) < x8) (k1 : x_1 = (0 : Int32)) : K_X8_strong_37 G w h0 (n37 + 1) v x_1 x2 x4 x6 x8 = (x51, v) := by
  subst a0; first | rw [K_X8_strong_37, if_pos k0, if_pos k1] | simp only [K_X8_strong_37, if_pos k0, if_pos k1]
set_option maxRecDepth 100000 in
theorem kx_X8_strong_8 {G : Gm} {w : Mw} {h0 : Nat} {n37 : Nat} {v : Mv} {x_1 : Int32} {x2 : Int32} {x4 : Int32} {x6 : Int32} {x8 : Int32} {x57 : Int32} (a0 : x57 = F_X8_has G w v x2 x8) (k0 : ¬ ((9 : Int32) < x8)) (k1 : x57 = (0 : Int32)) : K_X8_strong_37 G w h0 (n37 + 1) v x_1 x2 x4 x6 x8 = K_X8_strong_64 G w h0 (K_X8_strong_37 G w h0 n37) v x_1 x2 x4 x6 x8 := by
  subst a0; first | rw [K_X8_strong_37, if_neg k0, if_pos k1] | simp only [K_X8_strong_37, if_neg k0, if_pos k1]
set_option maxRecDepth 100000 in
theorem kx_X8_strong_9 {G : Gm} {w : Mw} {h0 : Nat} {n37 : Nat} {v : Mv} {x_1 : Int32} {x2 : Int32} {x4 : Int32} {x6 : Int32} {x8 : Int32} {x57 : Int32} (a0 : x57 = F_X8_has G w v x2 x8) (k0 : ¬ ((9 : Int32) < x8)) (k1 : ¬ (x57 = (0 : Int32))) (k2 : ¬ (x4 = (-1 : Int32))) : K_X8_strong_37 G w h0 (n37 + 1) v x_1 x2 x4 x6 x8 = K_X8_strong_64 G w h0 (K_X8_strong_37 G w h0 n37) v x_1 x2 x4 x6 x8 := by
  subst a0; first | rw [K_X8_strong_37, if_neg k0, if_neg k1, if_neg k2] | simp only [K_X8_strong_37, if_neg k0, if_neg k1, if_neg k2]
set_option maxRecDepth 100000 in
theorem kx_X8_strong_10 {G : Gm} {w : Mw} {h0 : Nat} {n37 : Nat} {v : Mv} {x_1 : Int32} {x2 : Int32} {x4 : Int32} {x6 : Int32} {x8 : Int32} {x57 : Int32} (a0 : x57 = F_X8_has G w v x2 x8) (k0 : ¬ ((9 : Int32) < x8)) (k1 : ¬ (x57 = (0 : Int32))) (k2 : x4 = (-1 : Int32)) : K_X8_strong_37 G w h0 (n37 + 1) v x_1 x2 x4 x6 x8 = K_X8_strong_66 G w h0 (K_X8_strong_37 G w h0 n37) v x_1 x2 x6 x8 x8 := by
  subst a0; first | rw [K_X8_strong_37, if_neg k0, if_neg k1, if_pos k2] | simp only [K_X8_strong_37, if_neg k0, if_neg k1, if_pos k2]
set_option maxRecDepth 100000 in
theorem kx_X8_strong_11 {G : Gm} {w : Mw} {h0 : Nat} {v : Mv} {v66 : Mv} {x69 : Int32} (a0 : x69 = (F_X8_bad G w v h0).1) (a1 : v66 = (F_X8_bad G w v h0).2)  : K_X8_strong_17 G w h0 v = K_X8_strong_c1 G w h0 v66 x69 := by
  subst a1; subst a0; first | rw [K_X8_strong_17] | simp only [K_X8_strong_17]
set_option maxRecDepth 100000 in
theorem kx_X8_strong_12 {G : Gm} {w : Mw} {h0 : Nat} {v66 : Mv} {x69 : Int32}   : K_X8_strong_c1 G w h0 v66 x69 = (x69, v66) := by
  first | rw [K_X8_strong_c1] | simp only [K_X8_strong_c1]
set_option maxRecDepth 100000 in
theorem kx_X8_strong_13 {G : Gm} {w : Mw} {v : Mv} {h0 : Nat} {x_0 : Int32} {x_1 : Int32} {x79 : Int32} (a0 : x79 = F_X8_isOne G w v h0 x_0) (k0 : x79 = (0 : Int32)) : K_X8_strong_e G w v h0 x_0 x_1 = K_X8_strong_17 G w h0 v := by
  subst a0; first | rw [K_X8_strong_e, if_pos k0] | simp only [K_X8_strong_e, if_pos k0]
set_option maxRecDepth 100000 in
theorem kx_X8_strong_14 {G : Gm} {w : Mw} {v : Mv} {h0 : Nat} {x_0 : Int32} {x_1 : Int32} {x100 : Int32} {x79 : Int32} {x89 : Int32} (a0 : x79 = F_X8_isOne G w v h0 x_0) (a1 : x89 = F_X8_in G w v x_1 (0 : Int32) (2 : Int32)) (a2 : x100 = F_X8_strengthsOf G w v h0 x_0) (k0 : ¬ (x79 = (0 : Int32))) (k1 : ¬ (x89 = (0 : Int32))) : K_X8_strong_e G w v h0 x_0 x_1 = K_X8_strong_37 G w h0 10 v x_1 x100 (-1 : Int32) (-1 : Int32) (1 : Int32) := by
  subst a2; subst a1; subst a0; first | rw [K_X8_strong_e, if_neg k0, if_neg k1] | simp only [K_X8_strong_e, if_neg k0, if_neg k1]
set_option maxRecDepth 100000 in
theorem kx_X8_strong_15 {G : Gm} {w : Mw} {v : Mv} {h0 : Nat} {x_0 : Int32} {x_1 : Int32} {x79 : Int32} {x89 : Int32} (a0 : x79 = F_X8_isOne G w v h0 x_0) (a1 : x89 = F_X8_in G w v x_1 (0 : Int32) (2 : Int32)) (k0 : ¬ (x79 = (0 : Int32))) (k1 : x89 = (0 : Int32)) : K_X8_strong_e G w v h0 x_0 x_1 = K_X8_strong_17 G w h0 v := by
  subst a1; subst a0; first | rw [K_X8_strong_e, if_neg k0, if_pos k1] | simp only [K_X8_strong_e, if_neg k0, if_pos k1]
abbrev rm_X8_strong : Room := { frames := 2, cells := 0, slots := 0, locals := 51 }
set_option maxHeartbeats 4000000 in
set_option maxRecDepth 100000 in
theorem ct_X8_strong (l : Launch) (D : va_G) (dA : Nat → ClassId) (G : Gm) (v : Mv) (w : Mw) (hOk : Ok G v w) (h0 : Nat) (S0 : S_X8 G h0) (x_0 : Int32) (x_1 : Int32) : CtI l yX8_strong cX8_strong 7 (some .int) rm_X8_strong D dA G [.ref h0, .int x_0, .int x_1] v w (fun r v1 w1 => Ok G v1 w1 ∧ Kp G v v1 ∧ True ∧ (w1 = w ∧ (r, v1) = F_X8_strong G w v h0 x_0 x_1) ∧ Fr G [103] v v1) := by
  refine CtI.of RX8 [(0, .ref h0), (1, .int x_0), (2, .int x_1)] (Nat.le_of_ble_eq_true rfl) rfl (by decide) rfl ?_
  intro p e s m args below meth c E hr
  have J37 : ∀ n37 : Nat, Bd x_1 0 2 → ∀ x2 : Int32, Bd x2 0 1023 → ∀ x4 : Int32, Bd x4 (-1) 9 → ∀ x6 : Int32, Bd x6 (-1) 9 → ∀ x8 : Int32, Bd x8 1 10 → Mu x8 10 n37 → K_X8_strong_37 G w h0 n37 v x_1 x2 x4 x6 x8 = F_X8_strong G w v h0 x_0 x_1 → J p l e rm_X8_strong s m args below meth c 0 0 (MQ below (QcI D dA G (fun r v1 w1 => Ok G v1 w1 ∧ Kp G v v1 ∧ True ∧ (w1 = w ∧ (r, v1) = F_X8_strong G w v h0 x_0 x_1) ∧ Fr G [103] v v1)) args s 0 0 (dm G)) D dA G (dm G) s.heap 7 v w [(2, .int x_1), (3, .int x2), (4, .int x4), (5, .int x6), (6, .int x8)] 37 [] := by
    intro n37
    induction n37 with
    | zero => intro b1 x2 b3 x4 b5 x6 b7 x8 b9 hm hK; exact hm.zero b9 (by decide)
    | succ n37 ih37 =>
      intro b1 x2 b3 x4 b5 x6 b7 x8 b9 hmu37 hK
      have J84 : Bd x_1 0 2 → Bd x2 0 1023 → ∀ x12 : Int32, Bd x12 (-1) 9 → Bd x8 1 9 → ∀ x15 : Int32, Bd x15 (-1) 9 → K_X8_strong_84 G w h0 (K_X8_strong_37 G w h0 n37) v x_1 x2 x12 x8 x15 = F_X8_strong G w v h0 x_0 x_1 → J p l e rm_X8_strong s m args below meth c 0 0 (MQ below (QcI D dA G (fun r v1 w1 => Ok G v1 w1 ∧ Kp G v v1 ∧ True ∧ (w1 = w ∧ (r, v1) = F_X8_strong G w v h0 x_0 x_1) ∧ Fr G [103] v v1)) args s 0 0 (dm G)) D dA G (dm G) s.heap 7 v w [(2, .int x_1), (3, .int x2), (4, .int x12), (6, .int x8)] 84 [.int x15] := by
        intro b10 b11 x12 b13 b14 x15 b16 hK
        refine J_istore E [(5, .int x15), (2, .int x_1), (3, .int x2), (4, .int x12), (6, .int x8)] dX8_strong_84 (by decide) rfl ?_
        refine J_iinc E 4 1 (fun z => [(6, .int z), (5, .int x15), (2, .int x_1), (3, .int x2), (4, .int x12)]) dX8_strong_86 rfl (by decide) (by decide) (fun _ => rfl) (fun x17 e18 => ?_)
        have b19 : Bd x17 2 10 := (Bd.add e18 b14 (Bd.lit 1 1 (by decide)) (by decide)).w _ _ (by decide)
        refine J_goto E 37 dX8_strong_89 (by decide) ?_
        exact J.sub [2, 3, 4, 1, 0] rfl (ih37 b10 x2 b11 x12 b13 x15 b16 x17 (b19.w 1 10 (by decide)) (Mu.step hmu37 e18 b14 (Bd.lit 1 1 (by decide)) (by decide)) ((kx_X8_strong_1 (e18)).symm.trans hK))
      have J66 : Bd x_1 0 2 → Bd x2 0 1023 → Bd x6 (-1) 9 → Bd x8 1 9 → ∀ x24 : Int32, Bd x24 (-1) 9 → K_X8_strong_66 G w h0 (K_X8_strong_37 G w h0 n37) v x_1 x2 x6 x8 x24 = F_X8_strong G w v h0 x_0 x_1 → J p l e rm_X8_strong s m args below meth c 0 0 (MQ below (QcI D dA G (fun r v1 w1 => Ok G v1 w1 ∧ Kp G v v1 ∧ True ∧ (w1 = w ∧ (r, v1) = F_X8_strong G w v h0 x_0 x_1) ∧ Fr G [103] v v1)) args s 0 0 (dm G)) D dA G (dm G) s.heap 7 v w [(2, .int x_1), (3, .int x2), (5, .int x6), (6, .int x8)] 66 [.int x24] := by
        intro b20 b21 b22 b23 x24 b25 hK
        refine J_istore E [(4, .int x24), (2, .int x_1), (3, .int x2), (5, .int x6), (6, .int x8)] dX8_strong_66 (by decide) rfl ?_
        refine J_iload_n E dX8_strong_68 2 rfl ?_
        refine J_iload E dX8_strong_69 4 rfl ?_
        refine J_callSI E cal_X8_has wd1075 [.int x2, .int x8] [] (ct_X8_has l D dA G v w (hOk) x2 x8 (b23.w 0 9 (by decide))) rfl rfl (Nat.le_of_ble_eq_true rfl) ⟨rfl, rfl⟩ ⟨Nat.le_of_ble_eq_true rfl, Nat.le_of_ble_eq_true rfl⟩ dX8_strong_71 (fun x29 v26 w27 p28 => ?_)
        rw [p28.1, p28.2.1]
        have b30 : Bd x29 0 1 := p28.2.2.1
        have e31 : x29 = F_X8_has G w v x2 x8 := (p28.2.2.2)
        refine J_if_eq E 82 dX8_strong_74 (by decide) (fun c32 => ?_) (fun c32 => ?_)
        · have b33 : Bd x29 0 0 := Bd.eq_l c32 b30 (Bd.lit 0 0 (by decide)) 0 0 (by decide)
          refine J_iload E dX8_strong_82 3 rfl ?_
          exact J.sub [1, 2, 0, 4] rfl (J84 b20 b21 x24 b25 b23 x6 b22 ((kx_X8_strong_2 (e31) (c32)).symm.trans hK))
        · have b34 : Bd x29 1 1 := (Bd.ne_lo c32 b30 (Bd.lit 0 0 (by decide))).w _ _ (by decide)
          refine J_iload E dX8_strong_77 4 rfl ?_
          refine J_goto E 84 dX8_strong_79 (by decide) ?_
          exact J.sub [1, 2, 0, 4] rfl (J84 b20 b21 x24 b25 b23 x8 (b23.w (-1) 9 (by decide)) ((kx_X8_strong_3 (e31) (c32)).symm.trans hK))
      have J64 : Bd x_1 0 2 → Bd x2 0 1023 → Bd x4 (-1) 9 → Bd x6 (-1) 9 → Bd x8 1 9 → K_X8_strong_64 G w h0 (K_X8_strong_37 G w h0 n37) v x_1 x2 x4 x6 x8 = F_X8_strong G w v h0 x_0 x_1 → J p l e rm_X8_strong s m args below meth c 0 0 (MQ below (QcI D dA G (fun r v1 w1 => Ok G v1 w1 ∧ Kp G v v1 ∧ True ∧ (w1 = w ∧ (r, v1) = F_X8_strong G w v h0 x_0 x_1) ∧ Fr G [103] v v1)) args s 0 0 (dm G)) D dA G (dm G) s.heap 7 v w [(2, .int x_1), (3, .int x2), (4, .int x4), (5, .int x6), (6, .int x8)] 64 [] := by
        intro b35 b36 b37 b38 b39 hK
        refine J_iload E dX8_strong_64 2 rfl ?_
        exact J.sub [0, 1, 3, 4] rfl (J66 b35 b36 b38 b39 x4 b37 ((kx_X8_strong_4).symm.trans hK))
      refine J_iload E dX8_strong_37 4 rfl ?_
      refine J_bipush E 9 dX8_strong_39 (by decide) ?_
      refine J_icmp_gt E 92 dX8_strong_41 (by decide) (fun c40 => ?_) (fun c40 => ?_)
      · have b41 : Bd x8 10 10 := Bd.lt_r c40 (Bd.lit 9 9 (by decide)) b9 10 (by decide)
        refine J_iload_n E dX8_strong_92 0 rfl ?_
        refine J_if_ne E 103 dX8_strong_93 (by decide) (fun c42 => ?_) (fun c42 => ?_)
        · have b43 : Bd x_1 1 2 := (Bd.ne_lo c42 b1 (Bd.lit 0 0 (by decide))).w _ _ (by decide)
          refine J_iload_n E dX8_strong_103 0 rfl ?_
          refine J_iconst E 1 dX8_strong_104 (by decide) ?_
          refine J_icmp_ne E 113 dX8_strong_105 (by decide) (fun c44 => ?_) (fun c44 => ?_)
          · have b45 : Bd x_1 2 2 := (Bd.ne_lo c44 b43 (Bd.lit 1 1 (by decide))).w _ _ (by decide)
            refine J_iload E dX8_strong_113 3 rfl ?_
            exact J_iret E hr dX8_strong_115 ⟨hOk, Kp.rf, trivial, ⟨⟨rfl, ((kx_X8_strong_5 (c40) (c42) (c44)).symm.trans hK)⟩, Fr.rf⟩⟩
          · have b46 : Bd x_1 1 1 := Bd.eq_l c44 b43 (Bd.lit 1 1 (by decide)) 1 1 (by decide)
            refine J_iload E dX8_strong_108 2 rfl ?_
            refine J_goto E 115 dX8_strong_110 (by decide) ?_
            exact J_iret E hr dX8_strong_115 ⟨hOk, Kp.rf, trivial, ⟨⟨rfl, ((kx_X8_strong_6 (c40) (c42) (c44)).symm.trans hK)⟩, Fr.rf⟩⟩
        · have b47 : Bd x_1 0 0 := Bd.eq_l c42 b1 (Bd.lit 0 0 (by decide)) 0 0 (by decide)
          refine J_iload_n E dX8_strong_96 1 rfl ?_
          refine J_callSI E cal_X8_bitsOf wd1152 [.int x2] [] (ct_X8_bitsOf l D dA G v w (hOk) x2) rfl rfl (Nat.le_of_ble_eq_true rfl) ⟨rfl, rfl⟩ ⟨Nat.le_of_ble_eq_true rfl, Nat.le_of_ble_eq_true rfl⟩ dX8_strong_97 (fun x51 v48 w49 p50 => ?_)
          rw [p50.1, p50.2.1]
          have e52 : x51 = F_X8_bitsOf G w v x2 := (p50.2.2.2)
          refine J_goto E 115 dX8_strong_100 (by decide) ?_
          exact J_iret E hr dX8_strong_115 ⟨hOk, Kp.rf, trivial, ⟨⟨rfl, ((kx_X8_strong_7 (e52) (c40) (c42)).symm.trans hK)⟩, Fr.rf⟩⟩
      · have b53 : Bd x8 1 9 := Bd.le_l (nlt c40) b9 (Bd.lit 9 9 (by decide)) 9 (by decide)
        refine J_iload_n E dX8_strong_44 1 rfl ?_
        refine J_iload E dX8_strong_45 4 rfl ?_
        refine J_callSI E cal_X8_has wd1075 [.int x2, .int x8] [] (ct_X8_has l D dA G v w (hOk) x2 x8 (b53.w 0 9 (by decide))) rfl rfl (Nat.le_of_ble_eq_true rfl) ⟨rfl, rfl⟩ ⟨Nat.le_of_ble_eq_true rfl, Nat.le_of_ble_eq_true rfl⟩ dX8_strong_47 (fun x57 v54 w55 p56 => ?_)
        rw [p56.1, p56.2.1]
        have b58 : Bd x57 0 1 := p56.2.2.1
        have e59 : x57 = F_X8_has G w v x2 x8 := (p56.2.2.2)
        refine J_if_eq E 64 dX8_strong_50 (by decide) (fun c60 => ?_) (fun c60 => ?_)
        · have b61 : Bd x57 0 0 := Bd.eq_l c60 b58 (Bd.lit 0 0 (by decide)) 0 0 (by decide)
          exact J.sub [0, 1, 2, 3, 4] rfl (J64 b1 b3 b5 b7 b53 ((kx_X8_strong_8 (e59) (c40) (c60)).symm.trans hK))
        · have b62 : Bd x57 1 1 := (Bd.ne_lo c60 b58 (Bd.lit 0 0 (by decide))).w _ _ (by decide)
          refine J_iload E dX8_strong_53 2 rfl ?_
          refine J_iconst E (-1) dX8_strong_55 (by decide) ?_
          refine J_icmp_ne E 64 dX8_strong_56 (by decide) (fun c63 => ?_) (fun c63 => ?_)
          · have b64 : Bd x4 0 9 := (Bd.ne_lo c63 b5 (Bd.lit (-1) (-1) (by decide))).w _ _ (by decide)
            exact J.sub [0, 1, 2, 3, 4] rfl (J64 b1 b3 (b64.w (-1) 9 (by decide)) b7 b53 ((kx_X8_strong_9 (e59) (c40) (c60) (c63)).symm.trans hK))
          · have b65 : Bd x4 (-1) (-1) := Bd.eq_l c63 b5 (Bd.lit (-1) (-1) (by decide)) (-1) (-1) (by decide)
            refine J_iload E dX8_strong_59 4 rfl ?_
            refine J_goto E 66 dX8_strong_61 (by decide) ?_
            exact J.sub [0, 1, 3, 4] rfl (J66 b1 b3 b7 b53 x8 (b53.w (-1) 9 (by decide)) ((kx_X8_strong_10 (e59) (c40) (c60) (c63)).symm.trans hK))
  have J17 : K_X8_strong_17 G w h0 v = F_X8_strong G w v h0 x_0 x_1 → J p l e rm_X8_strong s m args below meth c 0 0 (MQ below (QcI D dA G (fun r v1 w1 => Ok G v1 w1 ∧ Kp G v v1 ∧ True ∧ (w1 = w ∧ (r, v1) = F_X8_strong G w v h0 x_0 x_1) ∧ Fr G [103] v v1)) args s 0 0 (dm G)) D dA G (dm G) s.heap 7 v w [(0, .ref h0)] 17 [] := by
    intro hK
    refine J_aload_n E dX8_strong_17 0 rfl ?_
    refine J_callVI E cal_X8_bad wd999 rfl (S_X8.h S0) [] [] (ct_X8_bad l D dA G v w (hOk) h0 S0) rfl rfl (Nat.le_of_ble_eq_true rfl) ⟨rfl, rfl⟩ ⟨Nat.le_of_ble_eq_true rfl, Nat.le_of_ble_eq_true rfl⟩ dX8_strong_18 (fun x69 v66 w67 p68 => ?_)
    have ew9 : w = w67 := p68.2.2.2.1.1.symm
    subst ew9
    have o70 := p68.1
    have k71 : Kp G v v66 := (Kp.rf).tr p68.2.1
    have f72 : Fr G [103] v v66 := Fr.tr Fr.rf (p68.2.2.2.2) (by decide)
    have b73 : Bd x69 (-2) (-2) := p68.2.2.1
    have e74 : x69 = (F_X8_bad G w v h0).1 := congrArg Prod.fst (p68.2.2.2.1).2
    have e75 : v66 = (F_X8_bad G w v h0).2 := congrArg Prod.snd (p68.2.2.2.1).2
    have hK : K_X8_strong_c1 G w h0 v66 x69 = F_X8_strong G w v h0 x_0 x_1 := ((kx_X8_strong_11 (e74) (e75)).symm.trans hK)
    exact J_iret E hr dX8_strong_21 ⟨o70, k71, trivial, ⟨⟨rfl, ((kx_X8_strong_12).symm.trans hK)⟩, f72⟩⟩
  have hK : K_X8_strong_e G w v h0 x_0 x_1 = F_X8_strong G w v h0 x_0 x_1 := rfl
  refine J_aload_n E dX8_strong_0 0 rfl ?_
  refine J_iload_n E dX8_strong_1 1 rfl ?_
  refine J_callVI E cal_X8_isOne wd1120 rfl (S_X8.h S0) [.int x_0] [] (ct_X8_isOne l D dA G v w (hOk) h0 S0 x_0) rfl rfl (Nat.le_of_ble_eq_true rfl) ⟨rfl, rfl⟩ ⟨Nat.le_of_ble_eq_true rfl, Nat.le_of_ble_eq_true rfl⟩ dX8_strong_2 (fun x79 v76 w77 p78 => ?_)
  rw [p78.1, p78.2.1]
  have b80 : Bd x79 0 1 := p78.2.2.1
  have e81 : x79 = F_X8_isOne G w v h0 x_0 := (p78.2.2.2.2)
  refine J_if_eq E 17 dX8_strong_5 (by decide) (fun c82 => ?_) (fun c82 => ?_)
  · have b83 : Bd x79 0 0 := Bd.eq_l c82 b80 (Bd.lit 0 0 (by decide)) 0 0 (by decide)
    exact J.sub [0] rfl (J17 ((kx_X8_strong_13 (e81) (c82)).symm.trans hK))
  · have b84 : Bd x79 1 1 := (Bd.ne_lo c82 b80 (Bd.lit 0 0 (by decide))).w _ _ (by decide)
    have b85 : Bd x_0 0 6 := (p78.2.2.2.1).resolve_left c82
    refine J_iload_n E dX8_strong_8 2 rfl ?_
    refine J_iconst E 0 dX8_strong_9 (by decide) ?_
    refine J_iconst E 2 dX8_strong_10 (by decide) ?_
    refine J_callSI E cal_X8_in wd996 [.int x_1, .int 0, .int 2] [] (ct_X8_in l D dA G v w (hOk) x_1 0 2) rfl rfl (Nat.le_of_ble_eq_true rfl) ⟨rfl, rfl⟩ ⟨Nat.le_of_ble_eq_true rfl, Nat.le_of_ble_eq_true rfl⟩ dX8_strong_11 (fun x89 v86 w87 p88 => ?_)
    rw [p88.1, p88.2.1]
    have b90 : Bd x89 0 1 := p88.2.2.1
    have e91 : x89 = F_X8_in G w v x_1 (0 : Int32) (2 : Int32) := (p88.2.2.2.2.2)
    refine J_if_ne E 22 dX8_strong_14 (by decide) (fun c92 => ?_) (fun c92 => ?_)
    · have b93 : Bd x89 1 1 := (Bd.ne_lo c92 b90 (Bd.lit 0 0 (by decide))).w _ _ (by decide)
      have g94 := (p88.2.2.2.1).resolve_left c92
      have b95 : Bd x_1 0 I1 := Bd.le_r g94.1 (Bd.lit 0 0 (by decide)) (Bd.any x_1) 0 (by decide)
      have b96 : Bd x_1 0 2 := Bd.le_l g94.2 b95 (Bd.lit 2 2 (by decide)) 2 (by decide)
      refine J_aload_n E dX8_strong_22 0 rfl ?_
      refine J_iload_n E dX8_strong_23 1 rfl ?_
      refine J_callVI E cal_X8_strengthsOf wd1248 rfl (S_X8.h S0) [.int x_0] [] (ct_X8_strengthsOf l D dA G v w (hOk) h0 S0 x_0 b85) rfl rfl (Nat.le_of_ble_eq_true rfl) ⟨rfl, rfl⟩ ⟨Nat.le_of_ble_eq_true rfl, Nat.le_of_ble_eq_true rfl⟩ dX8_strong_24 (fun x100 v97 w98 p99 => ?_)
      rw [p99.1, p99.2.1]
      have b101 : Bd x100 0 1023 := p99.2.2.1
      have e102 : x100 = F_X8_strengthsOf G w v h0 x_0 := (p99.2.2.2)
      refine J_istore_n E [(3, .int x100), (0, .ref h0), (1, .int x_0), (2, .int x_1)] dX8_strong_27 rfl (by decide) rfl ?_
      refine J_iconst E (-1) dX8_strong_28 (by decide) ?_
      refine J_istore E [(4, .int (-1)), (3, .int x100), (0, .ref h0), (1, .int x_0), (2, .int x_1)] dX8_strong_29 (by decide) rfl ?_
      refine J_iconst E (-1) dX8_strong_31 (by decide) ?_
      refine J_istore E [(5, .int (-1)), (4, .int (-1)), (3, .int x100), (0, .ref h0), (1, .int x_0), (2, .int x_1)] dX8_strong_32 (by decide) rfl ?_
      refine J_iconst E 1 dX8_strong_34 (by decide) ?_
      refine J_istore E [(6, .int 1), (5, .int (-1)), (4, .int (-1)), (3, .int x100), (0, .ref h0), (1, .int x_0), (2, .int x_1)] dX8_strong_35 (by decide) rfl ?_
      exact J.sub [6, 3, 2, 1, 0] rfl (J37 10 b96 x100 b101 (-1) ((Bd.lit (-1) (-1) (by decide)).w (-1) 9 (by decide)) (-1) ((Bd.lit (-1) (-1) (by decide)).w (-1) 9 (by decide)) 1 ((Bd.lit 1 1 (by decide)).w 1 10 (by decide)) (Mu.start _ (Bd.lit 1 1 (by decide)) (by decide)) ((kx_X8_strong_14 (e81) (e91) (e102) (c82) (c92)).symm.trans hK))
    · have b103 : Bd x89 0 0 := Bd.eq_l c92 b90 (Bd.lit 0 0 (by decide)) 0 0 (by decide)
      have g104 : ¬ (0 ≤ x_1 ∧ x_1 ≤ 2) := (p88.2.2.2.2.1).resolve_left (fun h9 => h9 c92)
      exact J.sub [0] rfl (J17 ((kx_X8_strong_15 (e81) (e91) (c82) (c92)).symm.trans hK))

def K_X8_tell_171 (G : Gm) (w : Mw) (h0 : Nat) (rec28 : Mv → Int32 → Int32 → Int32 → Int32 → Int32 → Int32 × Mv) (rec42 : Mv → Int32 → Int32 → Int32 → Int32 → Int32 → Int32 → Int32 × Mv) (v : Mv) (x_0 : Int32) (x2 : Int32) (x21 : Int32) (x8 : Int32) (x17 : Int32) (x25 : Int32) : Int32 × Mv :=
  rec42 v x_0 x2 x21 x25 x8 (x17 + (1 : Int32))
def K_X8_tell_156 (G : Gm) (w : Mw) (h0 : Nat) (rec28 : Mv → Int32 → Int32 → Int32 → Int32 → Int32 → Int32 × Mv) (rec42 : Mv → Int32 → Int32 → Int32 → Int32 → Int32 → Int32 → Int32 × Mv) (v : Mv) (x_0 : Int32) (x2 : Int32) (x14 : Int32) (x8 : Int32) (x17 : Int32) (x35 : Int32) (x36 : Int32) : Int32 × Mv :=
  if x14 ≤ x35 then (K_X8_tell_171 G w h0 rec28 rec42 v x_0 x2 x36 x8 x17 x14) else (K_X8_tell_171 G w h0 rec28 rec42 v x_0 x2 x36 x8 x17 x35)
def K_X8_tell_135 (G : Gm) (w : Mw) (h0 : Nat) (rec28 : Mv → Int32 → Int32 → Int32 → Int32 → Int32 → Int32 × Mv) (rec42 : Mv → Int32 → Int32 → Int32 → Int32 → Int32 → Int32 → Int32 × Mv) (v : Mv) (x_0 : Int32) (x2 : Int32) (x12 : Int32) (x14 : Int32) (x8 : Int32) (x17 : Int32) (x46 : Int32) : Int32 × Mv :=
  if x14 ≤ x46 then (K_X8_tell_156 G w h0 rec28 rec42 v x_0 x2 x14 x8 x17 x46 x12) else (K_X8_tell_156 G w h0 rec28 rec42 v x_0 x2 x14 x8 x17 x46 (((100 : Int32) * x8) + x17))
def K_X8_tell_102 (G : Gm) (w : Mw) (h0 : Nat) (rec28 : Mv → Int32 → Int32 → Int32 → Int32 → Int32 → Int32 × Mv) (rec42 : Mv → Int32 → Int32 → Int32 → Int32 → Int32 → Int32 → Int32 × Mv) (rec55 : Mv → Int32 → Int32 → Int32 → Int32 → Int32 → Int32 → Int32 → Int32 → Int32 × Mv) (v : Mv) (x_0 : Int32) (x2 : Int32) (x12 : Int32) (x14 : Int32) (x8 : Int32) (x17 : Int32) (x62 : Int32) (x71 : Int32) (x73 : Int32) : Int32 × Mv :=
  rec55 v x_0 x2 x12 x14 x8 x17 (x73 + x71) (x62 + (1 : Int32))
def K_X8_tell_101 (G : Gm) (w : Mw) (h0 : Nat) (rec28 : Mv → Int32 → Int32 → Int32 → Int32 → Int32 → Int32 × Mv) (rec42 : Mv → Int32 → Int32 → Int32 → Int32 → Int32 → Int32 → Int32 × Mv) (rec55 : Mv → Int32 → Int32 → Int32 → Int32 → Int32 → Int32 → Int32 → Int32 → Int32 × Mv) (v : Mv) (x_0 : Int32) (x2 : Int32) (x12 : Int32) (x14 : Int32) (x8 : Int32) (x17 : Int32) (x62 : Int32) (x86 : Int32) : Int32 × Mv :=
  K_X8_tell_102 G w h0 rec28 rec42 rec55 v x_0 x2 x12 x14 x8 x17 x62 (0 : Int32) x86
def K_X8_tell_55 (G : Gm) (w : Mw) (h0 : Nat) (rec28 : Mv → Int32 → Int32 → Int32 → Int32 → Int32 → Int32 × Mv) (rec42 : Mv → Int32 → Int32 → Int32 → Int32 → Int32 → Int32 → Int32 × Mv) : Nat → Mv → Int32 → Int32 → Int32 → Int32 → Int32 → Int32 → Int32 → Int32 → Int32 × Mv
  | 0, _, _, _, _, _, _, _, _, _ => ((0 : Int32), (fun _ _ => 0 : Mv))
  | n55 + 1, v, x_0, x2, x12, x14, x8, x17, x61, x62 =>
    if (9 : Int32) < x62 then (if x61 ≤ ((F_X8_bitsOf G w v x2) - x61) then (K_X8_tell_135 G w h0 rec28 rec42 v x_0 x2 x12 x14 x8 x17 ((F_X8_bitsOf G w v x2) - x61)) else (K_X8_tell_135 G w h0 rec28 rec42 v x_0 x2 x12 x14 x8 x17 x61)) else (if (F_X8_has G w v x2 x62) = (0 : Int32) then (K_X8_tell_101 G w h0 rec28 rec42 (K_X8_tell_55 G w h0 rec28 rec42 n55) v x_0 x2 x12 x14 x8 x17 x62 x61) else (if (F_X8_liftsBy G w v (v (rf G h0 1) (Int32.toNatClampNeg ((20 : Int32) + x_0))) x62 ((10 : Int32) * x8)) < x17 then (K_X8_tell_101 G w h0 rec28 rec42 (K_X8_tell_55 G w h0 rec28 rec42 n55) v x_0 x2 x12 x14 x8 x17 x62 x61) else (K_X8_tell_102 G w h0 rec28 rec42 (K_X8_tell_55 G w h0 rec28 rec42 n55) v x_0 x2 x12 x14 x8 x17 x62 (1 : Int32) x61)))
def K_X8_tell_42 (G : Gm) (w : Mw) (h0 : Nat) (rec28 : Mv → Int32 → Int32 → Int32 → Int32 → Int32 → Int32 × Mv) : Nat → Mv → Int32 → Int32 → Int32 → Int32 → Int32 → Int32 → Int32 × Mv
  | 0, _, _, _, _, _, _, _ => ((0 : Int32), (fun _ _ => 0 : Mv))
  | n42 + 1, v, x_0, x2, x12, x14, x8, x17 =>
    if (60 : Int32) < x17 then (rec28 v x_0 x2 x12 x14 (x8 + (1 : Int32))) else (K_X8_tell_55 G w h0 rec28 (K_X8_tell_42 G w h0 rec28 n42) 10 v x_0 x2 x12 x14 x8 x17 (0 : Int32) (1 : Int32))
def K_X8_tell_28 (G : Gm) (w : Mw) (h0 : Nat) : Nat → Mv → Int32 → Int32 → Int32 → Int32 → Int32 → Int32 × Mv
  | 0, _, _, _, _, _, _ => ((0 : Int32), (fun _ _ => 0 : Mv))
  | n28 + 1, v, x_0, x2, x4, x6, x8 =>
    if (9 : Int32) < x8 then ((x4, v)) else (if x2 = (0 : Int32) then ((x4, v)) else (K_X8_tell_42 G w h0 (K_X8_tell_28 G w h0 n28) 62 v x_0 x2 x4 x6 x8 (0 : Int32)))
def K_X8_tell_c1 (G : Gm) (w : Mw) (h0 : Nat) (v158 : Mv) (x161 : Int32) : Int32 × Mv :=
  (x161, v158)
def K_X8_tell_e (G : Gm) (w : Mw) (v : Mv) (h0 : Nat) (x_0 : Int32) : Int32 × Mv :=
  if (F_X8_isOne G w v h0 x_0) = (0 : Int32) then (K_X8_tell_c1 G w h0 ((F_X8_bad G w v h0).2) ((F_X8_bad G w v h0).1)) else (K_X8_tell_28 G w h0 11 v x_0 (F_X8_strengthsOf G w v h0 x_0) (-1 : Int32) (100000 : Int32) (0 : Int32))
def F_X8_tell (G : Gm) (w : Mw) (v : Mv) (h0 : Nat) (x_0 : Int32) : Int32 × Mv := K_X8_tell_e G w v h0 x_0
set_option maxRecDepth 100000 in
theorem kx_X8_tell_1 {G : Gm} {w : Mw} {h0 : Nat} {rec28 : Mv → Int32 → Int32 → Int32 → Int32 → Int32 → Int32 × Mv} {rec42 : Mv → Int32 → Int32 → Int32 → Int32 → Int32 → Int32 → Int32 × Mv} {v : Mv} {x_0 : Int32} {x2 : Int32} {x21 : Int32} {x8 : Int32} {x17 : Int32} {x25 : Int32} {x27 : Int32} (a0 : x27 = x17 + (1 : Int32))  : K_X8_tell_171 G w h0 rec28 rec42 v x_0 x2 x21 x8 x17 x25 = rec42 v x_0 x2 x21 x25 x8 x27 := by
  subst a0; first | rw [K_X8_tell_171] | simp only [K_X8_tell_171]
set_option maxRecDepth 100000 in
theorem kx_X8_tell_2 {G : Gm} {w : Mw} {h0 : Nat} {rec28 : Mv → Int32 → Int32 → Int32 → Int32 → Int32 → Int32 × Mv} {rec42 : Mv → Int32 → Int32 → Int32 → Int32 → Int32 → Int32 → Int32 × Mv} {v : Mv} {x_0 : Int32} {x2 : Int32} {x14 : Int32} {x8 : Int32} {x17 : Int32} {x35 : Int32} {x36 : Int32}  (k0 : x14 ≤ x35) : K_X8_tell_156 G w h0 rec28 rec42 v x_0 x2 x14 x8 x17 x35 x36 = K_X8_tell_171 G w h0 rec28 rec42 v x_0 x2 x36 x8 x17 x14 := by
  first | rw [K_X8_tell_156, if_pos k0] | simp only [K_X8_tell_156, if_pos k0]
set_option maxRecDepth 100000 in
theorem kx_X8_tell_3 {G : Gm} {w : Mw} {h0 : Nat} {rec28 : Mv → Int32 → Int32 → Int32 → Int32 → Int32 → Int32 × Mv} {rec42 : Mv → Int32 → Int32 → Int32 → Int32 → Int32 → Int32 → Int32 × Mv} {v : Mv} {x_0 : Int32} {x2 : Int32} {x14 : Int32} {x8 : Int32} {x17 : Int32} {x35 : Int32} {x36 : Int32}  (k0 : ¬ (x14 ≤ x35)) : K_X8_tell_156 G w h0 rec28 rec42 v x_0 x2 x14 x8 x17 x35 x36 = K_X8_tell_171 G w h0 rec28 rec42 v x_0 x2 x36 x8 x17 x35 := by
  first | rw [K_X8_tell_156, if_neg k0] | simp only [K_X8_tell_156, if_neg k0]
set_option maxRecDepth 100000 in
theorem kx_X8_tell_4 {G : Gm} {w : Mw} {h0 : Nat} {rec28 : Mv → Int32 → Int32 → Int32 → Int32 → Int32 → Int32 × Mv} {rec42 : Mv → Int32 → Int32 → Int32 → Int32 → Int32 → Int32 → Int32 × Mv} {v : Mv} {x_0 : Int32} {x2 : Int32} {x12 : Int32} {x14 : Int32} {x8 : Int32} {x17 : Int32} {x46 : Int32}  (k0 : x14 ≤ x46) : K_X8_tell_135 G w h0 rec28 rec42 v x_0 x2 x12 x14 x8 x17 x46 = K_X8_tell_156 G w h0 rec28 rec42 v x_0 x2 x14 x8 x17 x46 x12 := by
  first | rw [K_X8_tell_135, if_pos k0] | simp only [K_X8_tell_135, if_pos k0]
set_option maxRecDepth 100000 in
theorem kx_X8_tell_5 {G : Gm} {w : Mw} {h0 : Nat} {rec28 : Mv → Int32 → Int32 → Int32 → Int32 → Int32 → Int32 × Mv} {rec42 : Mv → Int32 → Int32 → Int32 → Int32 → Int32 → Int32 → Int32 × Mv} {v : Mv} {x_0 : Int32} {x2 : Int32} {x12 : Int32} {x14 : Int32} {x8 : Int32} {x17 : Int32} {x46 : Int32} {x52 : Int32} {x49 : Int32} (a0 : x49 = (100 : Int32) * x8) (a1 : x52 = x49 + x17) (k0 : ¬ (x14 ≤ x46)) : K_X8_tell_135 G w h0 rec28 rec42 v x_0 x2 x12 x14 x8 x17 x46 = K_X8_tell_156 G w h0 rec28 rec42 v x_0 x2 x14 x8 x17 x46 x52 := by
  subst a1; subst a0; first | rw [K_X8_tell_135, if_neg k0] | simp only [K_X8_tell_135, if_neg k0]
set_option maxRecDepth 100000 in
theorem kx_X8_tell_6 {G : Gm} {w : Mw} {h0 : Nat} {rec28 : Mv → Int32 → Int32 → Int32 → Int32 → Int32 → Int32 × Mv} {rec42 : Mv → Int32 → Int32 → Int32 → Int32 → Int32 → Int32 → Int32 × Mv} {rec55 : Mv → Int32 → Int32 → Int32 → Int32 → Int32 → Int32 → Int32 → Int32 → Int32 × Mv} {v : Mv} {x_0 : Int32} {x2 : Int32} {x12 : Int32} {x14 : Int32} {x8 : Int32} {x17 : Int32} {x62 : Int32} {x71 : Int32} {x73 : Int32} {x74 : Int32} {x76 : Int32} (a0 : x74 = x73 + x71) (a1 : x76 = x62 + (1 : Int32))  : K_X8_tell_102 G w h0 rec28 rec42 rec55 v x_0 x2 x12 x14 x8 x17 x62 x71 x73 = rec55 v x_0 x2 x12 x14 x8 x17 x74 x76 := by
  subst a1; subst a0; first | rw [K_X8_tell_102] | simp only [K_X8_tell_102]
set_option maxRecDepth 100000 in
theorem kx_X8_tell_7 {G : Gm} {w : Mw} {h0 : Nat} {rec28 : Mv → Int32 → Int32 → Int32 → Int32 → Int32 → Int32 × Mv} {rec42 : Mv → Int32 → Int32 → Int32 → Int32 → Int32 → Int32 → Int32 × Mv} {rec55 : Mv → Int32 → Int32 → Int32 → Int32 → Int32 → Int32 → Int32 → Int32 → Int32 × Mv} {v : Mv} {x_0 : Int32} {x2 : Int32} {x12 : Int32} {x14 : Int32} {x8 : Int32} {x17 : Int32} {x62 : Int32} {x86 : Int32}   : K_X8_tell_101 G w h0 rec28 rec42 rec55 v x_0 x2 x12 x14 x8 x17 x62 x86 = K_X8_tell_102 G w h0 rec28 rec42 rec55 v x_0 x2 x12 x14 x8 x17 x62 (0 : Int32) x86 := by
  first | rw [K_X8_tell_101] | simp only [K_X8_tell_101]
set_option maxRecDepth 100000 in
theorem kx_X8_tell_8 {G : Gm} {w : Mw} {h0 : Nat} {rec28 : Mv → Int32 → Int32 → Int32 → Int32 → Int32 → Int32 × Mv} {rec42 : Mv → Int32 → Int32 → Int32 → Int32 → Int32 → Int32 → Int32 × Mv} {n55 : Nat} {v : Mv} {x_0 : Int32} {x2 : Int32} {x12 : Int32} {x14 : Int32} {x8 : Int32} {x17 : Int32} {x61 : Int32} {x62 : Int32} {x102 : Int32} {x92 : Int32} {x100 : Int32} {x94 : Int32} (a0 : x92 = F_X8_bitsOf G w v x2) (a1 : x94 = x92 - x61) (a2 : x100 = F_X8_bitsOf G w v x2) (a3 : x102 = x100 - x61) (k0 : (9 : Int32) < x62) (k1 : x61 ≤ x94) : K_X8_tell_55 G w h0 rec28 rec42 (n55 + 1) v x_0 x2 x12 x14 x8 x17 x61 x62 = K_X8_tell_135 G w h0 rec28 rec42 v x_0 x2 x12 x14 x8 x17 x102 := by
  subst a3; subst a2; subst a1; subst a0; first | rw [K_X8_tell_55, if_pos k0, if_pos k1] | simp only [K_X8_tell_55, if_pos k0, if_pos k1]
set_option maxRecDepth 100000 in
theorem kx_X8_tell_9 {G : Gm} {w : Mw} {h0 : Nat} {rec28 : Mv → Int32 → Int32 → Int32 → Int32 → Int32 → Int32 × Mv} {rec42 : Mv → Int32 → Int32 → Int32 → Int32 → Int32 → Int32 → Int32 × Mv} {n55 : Nat} {v : Mv} {x_0 : Int32} {x2 : Int32} {x12 : Int32} {x14 : Int32} {x8 : Int32} {x17 : Int32} {x61 : Int32} {x62 : Int32} {x92 : Int32} {x94 : Int32} (a0 : x92 = F_X8_bitsOf G w v x2) (a1 : x94 = x92 - x61) (k0 : (9 : Int32) < x62) (k1 : ¬ (x61 ≤ x94)) : K_X8_tell_55 G w h0 rec28 rec42 (n55 + 1) v x_0 x2 x12 x14 x8 x17 x61 x62 = K_X8_tell_135 G w h0 rec28 rec42 v x_0 x2 x12 x14 x8 x17 x61 := by
  subst a1; subst a0; first | rw [K_X8_tell_55, if_pos k0, if_neg k1] | simp only [K_X8_tell_55, if_pos k0, if_neg k1]
set_option maxRecDepth 100000 in
theorem kx_X8_tell_10 {G : Gm} {w : Mw} {h0 : Nat} {rec28 : Mv → Int32 → Int32 → Int32 → Int32 → Int32 → Int32 × Mv} {rec42 : Mv → Int32 → Int32 → Int32 → Int32 → Int32 → Int32 → Int32 × Mv} {n55 : Nat} {v : Mv} {x_0 : Int32} {x2 : Int32} {x12 : Int32} {x14 : Int32} {x8 : Int32} {x17 : Int32} {x61 : Int32} {x62 : Int32} {x108 : Int32} (a0 : x108 = F_X8_has G w v x2 x62) (k0 : ¬ ((9 : Int32) < x62)) (k1 : x108 = (0 : Int32)) : K_X8_tell_55 G w h0 rec28 rec42 (n55 + 1) v x_0 x2 x12 x14 x8 x17 x61 x62 = K_X8_tell_101 G w h0 rec28 rec42 (K_X8_tell_55 G w h0 rec28 rec42 n55) v x_0 x2 x12 x14 x8 x17 x62 x61 := by
  subst a0; first | rw [K_X8_tell_55, if_neg k0, if_pos k1] | simp only [K_X8_tell_55, if_neg k0, if_pos k1]
set_option maxRecDepth 100000 in
theorem kx_X8_tell_11 {G : Gm} {w : Mw} {h0 : Nat} {rec28 : Mv → Int32 → Int32 → Int32 → Int32 → Int32 → Int32 × Mv} {rec42 : Mv → Int32 → Int32 → Int32 → Int32 → Int32 → Int32 → Int32 × Mv} {n55 : Nat} {v : Mv} {x_0 : Int32} {x2 : Int32} {x12 : Int32} {x14 : Int32} {x8 : Int32} {x17 : Int32} {x61 : Int32} {x62 : Int32} {x114 : Int32} {x117 : Int32} {x119 : Int32} {x108 : Int32} {x125 : Int32} (a0 : x108 = F_X8_has G w v x2 x62) (a1 : x114 = (20 : Int32) + x_0) (a2 : x117 = v (rf G h0 1) (Int32.toNatClampNeg x114)) (a3 : x119 = (10 : Int32) * x8) (a4 : x125 = F_X8_liftsBy G w v x117 x62 x119) (k0 : ¬ ((9 : Int32) < x62)) (k1 : ¬ (x108 = (0 : Int32))) (k2 : x125 < x17) : K_X8_tell_55 G w h0 rec28 rec42 (n55 + 1) v x_0 x2 x12 x14 x8 x17 x61 x62 = K_X8_tell_101 G w h0 rec28 rec42 (K_X8_tell_55 G w h0 rec28 rec42 n55) v x_0 x2 x12 x14 x8 x17 x62 x61 := by
  subst a4; subst a3; subst a2; subst a1; subst a0; first | rw [K_X8_tell_55, if_neg k0, if_neg k1, if_pos k2] | simp only [K_X8_tell_55, if_neg k0, if_neg k1, if_pos k2]
set_option maxRecDepth 100000 in
theorem kx_X8_tell_12 {G : Gm} {w : Mw} {h0 : Nat} {rec28 : Mv → Int32 → Int32 → Int32 → Int32 → Int32 → Int32 × Mv} {rec42 : Mv → Int32 → Int32 → Int32 → Int32 → Int32 → Int32 → Int32 × Mv} {n55 : Nat} {v : Mv} {x_0 : Int32} {x2 : Int32} {x12 : Int32} {x14 : Int32} {x8 : Int32} {x17 : Int32} {x61 : Int32} {x62 : Int32} {x114 : Int32} {x117 : Int32} {x119 : Int32} {x108 : Int32} {x125 : Int32} (a0 : x108 = F_X8_has G w v x2 x62) (a1 : x114 = (20 : Int32) + x_0) (a2 : x117 = v (rf G h0 1) (Int32.toNatClampNeg x114)) (a3 : x119 = (10 : Int32) * x8) (a4 : x125 = F_X8_liftsBy G w v x117 x62 x119) (k0 : ¬ ((9 : Int32) < x62)) (k1 : ¬ (x108 = (0 : Int32))) (k2 : ¬ (x125 < x17)) : K_X8_tell_55 G w h0 rec28 rec42 (n55 + 1) v x_0 x2 x12 x14 x8 x17 x61 x62 = K_X8_tell_102 G w h0 rec28 rec42 (K_X8_tell_55 G w h0 rec28 rec42 n55) v x_0 x2 x12 x14 x8 x17 x62 (1 : Int32) x61 := by
  subst a4; subst a3; subst a2; subst a1; subst a0; first | rw [K_X8_tell_55, if_neg k0, if_neg k1, if_neg k2] | simp only [K_X8_tell_55, if_neg k0, if_neg k1, if_neg k2]
set_option maxRecDepth 100000 in
theorem kx_X8_tell_13 {G : Gm} {w : Mw} {h0 : Nat} {rec28 : Mv → Int32 → Int32 → Int32 → Int32 → Int32 → Int32 × Mv} {n42 : Nat} {v : Mv} {x_0 : Int32} {x2 : Int32} {x12 : Int32} {x14 : Int32} {x8 : Int32} {x17 : Int32} {x132 : Int32} (a0 : x132 = x8 + (1 : Int32)) (k0 : (60 : Int32) < x17) : K_X8_tell_42 G w h0 rec28 (n42 + 1) v x_0 x2 x12 x14 x8 x17 = rec28 v x_0 x2 x12 x14 x132 := by
  subst a0; first | rw [K_X8_tell_42, if_pos k0] | simp only [K_X8_tell_42, if_pos k0]
set_option maxRecDepth 100000 in
theorem kx_X8_tell_14 {G : Gm} {w : Mw} {h0 : Nat} {rec28 : Mv → Int32 → Int32 → Int32 → Int32 → Int32 → Int32 × Mv} {n42 : Nat} {v : Mv} {x_0 : Int32} {x2 : Int32} {x12 : Int32} {x14 : Int32} {x8 : Int32} {x17 : Int32}  (k0 : ¬ ((60 : Int32) < x17)) : K_X8_tell_42 G w h0 rec28 (n42 + 1) v x_0 x2 x12 x14 x8 x17 = K_X8_tell_55 G w h0 rec28 (K_X8_tell_42 G w h0 rec28 n42) 10 v x_0 x2 x12 x14 x8 x17 (0 : Int32) (1 : Int32) := by
  first | rw [K_X8_tell_42, if_neg k0] | simp only [K_X8_tell_42, if_neg k0]
set_option maxRecDepth 100000 in
theorem kx_X8_tell_15 {G : Gm} {w : Mw} {h0 : Nat} {n28 : Nat} {v : Mv} {x_0 : Int32} {x2 : Int32} {x4 : Int32} {x6 : Int32} {x8 : Int32}  (k0 : (9 : Int32) < x8) : K_X8_tell_28 G w h0 (n28 + 1) v x_0 x2 x4 x6 x8 = (x4, v) := by
  first | rw [K_X8_tell_28, if_pos k0] | simp only [K_X8_tell_28, if_pos k0]
set_option maxRecDepth 100000 in
theorem kx_X8_tell_16 {G : Gm} {w : Mw} {h0 : Nat} {n28 : Nat} {v : Mv} {x_0 : Int32} {x2 : Int32} {x4 : Int32} {x6 : Int32} {x8 : Int32}  (k0 : ¬ ((9 : Int32) < x8)) (k1 : x2 = (0 : Int32)) : K_X8_tell_28 G w h0 (n28 + 1) v x_0 x2 x4 x6 x8 = (x4, v) := by
  first | rw [K_X8_tell_28, if_neg k0, if_pos k1] | simp only [K_X8_tell_28, if_neg k0, if_pos k1]
set_option maxRecDepth 100000 in
theorem kx_X8_tell_17 {G : Gm} {w : Mw} {h0 : Nat} {n28 : Nat} {v : Mv} {x_0 : Int32} {x2 : Int32} {x4 : Int32} {x6 : Int32} {x8 : Int32}  (k0 : ¬ ((9 : Int32) < x8)) (k1 : ¬ (x2 = (0 : Int32))) : K_X8_tell_28 G w h0 (n28 + 1) v x_0 x2 x4 x6 x8 = K_X8_tell_42 G w h0 (K_X8_tell_28 G w h0 n28) 62 v x_0 x2 x4 x6 x8 (0 : Int32) := by
  first | rw [K_X8_tell_28, if_neg k0, if_neg k1] | simp only [K_X8_tell_28, if_neg k0, if_neg k1]
set_option maxRecDepth 100000 in
theorem kx_X8_tell_18 {G : Gm} {w : Mw} {v : Mv} {h0 : Nat} {x_0 : Int32} {x154 : Int32} {x145 : Int32} (a0 : x145 = F_X8_isOne G w v h0 x_0) (a1 : x154 = F_X8_strengthsOf G w v h0 x_0) (k0 : ¬ (x145 = (0 : Int32))) : K_X8_tell_e G w v h0 x_0 = K_X8_tell_28 G w h0 11 v x_0 x154 (-1 : Int32) (100000 : Int32) (0 : Int32) := by
  subst a1; subst a0; first | rw [K_X8_tell_e, if_neg k0] | simp only [K_X8_tell_e, if_neg k0]
set_option maxRecDepth 100000 in
theorem kx_X8_tell_19 {G : Gm} {w : Mw} {v : Mv} {h0 : Nat} {x_0 : Int32} {v158 : Mv} {x161 : Int32} {x145 : Int32} (a0 : x145 = F_X8_isOne G w v h0 x_0) (a1 : x161 = (F_X8_bad G w v h0).1) (a2 : v158 = (F_X8_bad G w v h0).2) (k0 : x145 = (0 : Int32)) : K_X8_tell_e G w v h0 x_0 = K_X8_tell_c1 G w h0 v158 x161 := by
  subst a2; subst a1; subst a0; first | rw [K_X8_tell_e, if_pos k0] | simp only [K_X8_tell_e, if_pos k0]
set_option maxRecDepth 100000 in
theorem kx_X8_tell_20 {G : Gm} {w : Mw} {h0 : Nat} {v158 : Mv} {x161 : Int32}   : K_X8_tell_c1 G w h0 v158 x161 = (x161, v158) := by
  first | rw [K_X8_tell_c1] | simp only [K_X8_tell_c1]
abbrev rm_X8_tell : Room := { frames := 2, cells := 0, slots := 0, locals := 51 }
set_option maxHeartbeats 4000000 in
set_option maxRecDepth 100000 in
theorem ct_X8_tell (l : Launch) (D : va_G) (dA : Nat → ClassId) (G : Gm) (v : Mv) (w : Mw) (hOk : Ok G v w) (h0 : Nat) (S0 : S_X8 G h0) (x_0 : Int32) : CtI l yX8_tell cX8_tell 9 (some .int) rm_X8_tell D dA G [.ref h0, .int x_0] v w (fun r v1 w1 => Ok G v1 w1 ∧ Kp G v v1 ∧ True ∧ (w1 = w ∧ (r, v1) = F_X8_tell G w v h0 x_0) ∧ Fr G [103] v v1) := by
  refine CtI.of RX8 [(0, .ref h0), (1, .int x_0)] (Nat.le_of_ble_eq_true rfl) rfl (by decide) rfl ?_
  intro p e s m args below meth c E hr
  have J28 : ∀ n28 : Nat, Bd x_0 0 6 → ∀ x2 : Int32, Bd x2 0 1023 → ∀ x4 : Int32, Bd x4 (-1) 983 → ∀ x6 : Int32, Bd x6 I0 100000 → ∀ x8 : Int32, Bd x8 0 10 → Mu x8 10 n28 → K_X8_tell_28 G w h0 n28 v x_0 x2 x4 x6 x8 = F_X8_tell G w v h0 x_0 → J p l e rm_X8_tell s m args below meth c 0 0 (MQ below (QcI D dA G (fun r v1 w1 => Ok G v1 w1 ∧ Kp G v v1 ∧ True ∧ (w1 = w ∧ (r, v1) = F_X8_tell G w v h0 x_0) ∧ Fr G [103] v v1)) args s 0 0 (dm G)) D dA G (dm G) s.heap 9 v w [(0, .ref h0), (1, .int x_0), (2, .int x2), (3, .int x4), (4, .int x6), (5, .int x8)] 28 [] := by
    intro n28
    induction n28 with
    | zero => intro b1 x2 b3 x4 b5 x6 b7 x8 b9 hm hK; exact hm.zero b9 (by decide)
    | succ n28 ih28 =>
      intro b1 x2 b3 x4 b5 x6 b7 x8 b9 hmu28 hK
      have J42 : ∀ n42 : Nat, Bd x_0 0 6 → Bd x2 1 1023 → ∀ x12 : Int32, Bd x12 (-1) 983 → ∀ x14 : Int32, Bd x14 I0 100000 → Bd x8 0 9 → ∀ x17 : Int32, Bd x17 0 61 → Mu x17 61 n42 → K_X8_tell_42 G w h0 (K_X8_tell_28 G w h0 n28) n42 v x_0 x2 x12 x14 x8 x17 = F_X8_tell G w v h0 x_0 → J p l e rm_X8_tell s m args below meth c 0 0 (MQ below (QcI D dA G (fun r v1 w1 => Ok G v1 w1 ∧ Kp G v v1 ∧ True ∧ (w1 = w ∧ (r, v1) = F_X8_tell G w v h0 x_0) ∧ Fr G [103] v v1)) args s 0 0 (dm G)) D dA G (dm G) s.heap 9 v w [(0, .ref h0), (1, .int x_0), (2, .int x2), (3, .int x12), (4, .int x14), (5, .int x8), (6, .int x17)] 42 [] := by
        intro n42
        induction n42 with
        | zero => intro b10 b11 x12 b13 x14 b15 b16 x17 b18 hm hK; exact hm.zero b18 (by decide)
        | succ n42 ih42 =>
          intro b10 b11 x12 b13 x14 b15 b16 x17 b18 hmu42 hK
          have J171 : Bd x_0 0 6 → Bd x2 1 1023 → ∀ x21 : Int32, Bd x21 (-1) 983 → Bd x8 0 9 → Bd x17 0 60 → ∀ x25 : Int32, Bd x25 I0 100000 → K_X8_tell_171 G w h0 (K_X8_tell_28 G w h0 n28) (K_X8_tell_42 G w h0 (K_X8_tell_28 G w h0 n28) n42) v x_0 x2 x21 x8 x17 x25 = F_X8_tell G w v h0 x_0 → J p l e rm_X8_tell s m args below meth c 0 0 (MQ below (QcI D dA G (fun r v1 w1 => Ok G v1 w1 ∧ Kp G v v1 ∧ True ∧ (w1 = w ∧ (r, v1) = F_X8_tell G w v h0 x_0) ∧ Fr G [103] v v1)) args s 0 0 (dm G)) D dA G (dm G) s.heap 9 v w [(0, .ref h0), (1, .int x_0), (2, .int x2), (3, .int x21), (5, .int x8), (6, .int x17)] 171 [.int x25] := by
            intro b19 b20 x21 b22 b23 b24 x25 b26 hK
            refine J_istore E [(4, .int x25), (0, .ref h0), (1, .int x_0), (2, .int x2), (3, .int x21), (5, .int x8), (6, .int x17)] dX8_tell_171 (by decide) rfl ?_
            refine J_iinc E 6 1 (fun z => [(6, .int z), (4, .int x25), (0, .ref h0), (1, .int x_0), (2, .int x2), (3, .int x21), (5, .int x8)]) dX8_tell_173 rfl (by decide) (by decide) (fun _ => rfl) (fun x27 e28 => ?_)
            have b29 : Bd x27 1 61 := (Bd.add e28 b24 (Bd.lit 1 1 (by decide)) (by decide)).w _ _ (by decide)
            refine J_goto E 42 dX8_tell_176 (by decide) ?_
            exact J.sub [2, 3, 4, 5, 1, 6, 0] rfl (ih42 b19 b20 x21 b22 x25 b26 b23 x27 (b29.w 0 61 (by decide)) (Mu.step hmu42 e28 b24 (Bd.lit 1 1 (by decide)) (by decide)) ((kx_X8_tell_1 (e28)).symm.trans hK))
          have J156 : Bd x_0 0 6 → Bd x2 1 1023 → Bd x14 I0 100000 → Bd x8 0 9 → Bd x17 0 60 → ∀ x35 : Int32, ∀ x36 : Int32, Bd x36 (-1) 983 → K_X8_tell_156 G w h0 (K_X8_tell_28 G w h0 n28) (K_X8_tell_42 G w h0 (K_X8_tell_28 G w h0 n28) n42) v x_0 x2 x14 x8 x17 x35 x36 = F_X8_tell G w v h0 x_0 → J p l e rm_X8_tell s m args below meth c 0 0 (MQ below (QcI D dA G (fun r v1 w1 => Ok G v1 w1 ∧ Kp G v v1 ∧ True ∧ (w1 = w ∧ (r, v1) = F_X8_tell G w v h0 x_0) ∧ Fr G [103] v v1)) args s 0 0 (dm G)) D dA G (dm G) s.heap 9 v w [(0, .ref h0), (1, .int x_0), (2, .int x2), (4, .int x14), (5, .int x8), (6, .int x17), (8, .int x35)] 156 [.int x36] := by
            intro b30 b31 b32 b33 b34 x35 x36 b37 hK
            refine J_istore_n E [(3, .int x36), (0, .ref h0), (1, .int x_0), (2, .int x2), (4, .int x14), (5, .int x8), (6, .int x17), (8, .int x35)] dX8_tell_156 rfl (by decide) rfl ?_
            refine J_iload E dX8_tell_157 7 rfl ?_
            refine J_iload E dX8_tell_159 4 rfl ?_
            refine J_icmp_ge E 169 dX8_tell_161 (by decide) (fun c38 => ?_) (fun c38 => ?_)
            · refine J_iload E dX8_tell_169 4 rfl ?_
              exact J.sub [1, 2, 3, 0, 5, 6] rfl (J171 b30 b31 x36 b37 b33 b34 x14 b32 ((kx_X8_tell_2 (c38)).symm.trans hK))
            · have b39 : Bd x35 I0 99999 := Bd.lt_l (nle c38) (Bd.any x35) b32 99999 (by decide)
              refine J_iload E dX8_tell_164 7 rfl ?_
              refine J_goto E 171 dX8_tell_166 (by decide) ?_
              exact J.sub [1, 2, 3, 0, 5, 6] rfl (J171 b30 b31 x36 b37 b33 b34 x35 (b39.w I0 100000 (by decide)) ((kx_X8_tell_3 (c38)).symm.trans hK))
          have J135 : Bd x_0 0 6 → Bd x2 1 1023 → Bd x12 (-1) 983 → Bd x14 I0 100000 → Bd x8 0 9 → Bd x17 0 60 → ∀ x46 : Int32, K_X8_tell_135 G w h0 (K_X8_tell_28 G w h0 n28) (K_X8_tell_42 G w h0 (K_X8_tell_28 G w h0 n28) n42) v x_0 x2 x12 x14 x8 x17 x46 = F_X8_tell G w v h0 x_0 → J p l e rm_X8_tell s m args below meth c 0 0 (MQ below (QcI D dA G (fun r v1 w1 => Ok G v1 w1 ∧ Kp G v v1 ∧ True ∧ (w1 = w ∧ (r, v1) = F_X8_tell G w v h0 x_0) ∧ Fr G [103] v v1)) args s 0 0 (dm G)) D dA G (dm G) s.heap 9 v w [(0, .ref h0), (1, .int x_0), (2, .int x2), (3, .int x12), (4, .int x14), (5, .int x8), (6, .int x17)] 135 [.int x46] := by
            intro b40 b41 b42 b43 b44 b45 x46 hK
            refine J_istore E [(8, .int x46), (0, .ref h0), (1, .int x_0), (2, .int x2), (3, .int x12), (4, .int x14), (5, .int x8), (6, .int x17)] dX8_tell_135 (by decide) rfl ?_
            refine J_iload E dX8_tell_137 0 rfl ?_
            refine J_iload E dX8_tell_139 5 rfl ?_
            refine J_icmp_ge E 155 dX8_tell_141 (by decide) (fun c47 => ?_) (fun c47 => ?_)
            · refine J_iload_n E dX8_tell_155 4 rfl ?_
              exact J.sub [1, 2, 3, 5, 6, 7, 0] rfl (J156 b40 b41 b43 b44 b45 x46 x12 b42 ((kx_X8_tell_4 (c47)).symm.trans hK))
            · have b48 : Bd x46 I0 99999 := Bd.lt_l (nle c47) (Bd.any x46) b43 99999 (by decide)
              refine J_bipush E 100 dX8_tell_144 (by decide) ?_
              refine J_iload E dX8_tell_146 6 rfl ?_
              refine J_imul E dX8_tell_148 (fun x49 e50 => ?_)
              have b51 : Bd x49 0 900 := Bd.mul e50 (Bd.lit 100 100 (by decide)) b44 (by decide)
              refine J_iload E dX8_tell_149 7 rfl ?_
              refine J_iadd E dX8_tell_151 (fun x52 e53 => ?_)
              have b54 : Bd x52 0 960 := (Bd.add e53 b51 b45 (by decide)).w _ _ (by decide)
              refine J_goto E 156 dX8_tell_152 (by decide) ?_
              exact J.sub [1, 2, 3, 5, 6, 7, 0] rfl (J156 b40 b41 b43 b44 b45 x46 x52 (b54.w (-1) 983 (by decide)) ((kx_X8_tell_5 (e50) (e53) (c47)).symm.trans hK))
          have J55 : ∀ n55 : Nat, Bd x_0 0 6 → Bd x2 1 1023 → Bd x12 (-1) 983 → Bd x14 I0 100000 → Bd x8 0 9 → Bd x17 0 60 → ∀ x61 : Int32, ∀ x62 : Int32, Bd x62 1 10 → Mu x62 10 n55 → K_X8_tell_55 G w h0 (K_X8_tell_28 G w h0 n28) (K_X8_tell_42 G w h0 (K_X8_tell_28 G w h0 n28) n42) n55 v x_0 x2 x12 x14 x8 x17 x61 x62 = F_X8_tell G w v h0 x_0 → J p l e rm_X8_tell s m args below meth c 0 0 (MQ below (QcI D dA G (fun r v1 w1 => Ok G v1 w1 ∧ Kp G v v1 ∧ True ∧ (w1 = w ∧ (r, v1) = F_X8_tell G w v h0 x_0) ∧ Fr G [103] v v1)) args s 0 0 (dm G)) D dA G (dm G) s.heap 9 v w [(0, .ref h0), (1, .int x_0), (2, .int x2), (3, .int x12), (4, .int x14), (5, .int x8), (6, .int x17), (7, .int x61), (8, .int x62)] 55 [] := by
            intro n55
            induction n55 with
            | zero => intro b55 b56 b57 b58 b59 b60 x61 x62 b63 hm hK; exact hm.zero b63 (by decide)
            | succ n55 ih55 =>
              intro b55 b56 b57 b58 b59 b60 x61 x62 b63 hmu55 hK
              have J102 : Bd x_0 0 6 → Bd x2 1 1023 → Bd x12 (-1) 983 → Bd x14 I0 100000 → Bd x8 0 9 → Bd x17 0 60 → Bd x62 1 9 → ∀ x71 : Int32, Bd x71 0 1 → ∀ x73 : Int32, K_X8_tell_102 G w h0 (K_X8_tell_28 G w h0 n28) (K_X8_tell_42 G w h0 (K_X8_tell_28 G w h0 n28) n42) (K_X8_tell_55 G w h0 (K_X8_tell_28 G w h0 n28) (K_X8_tell_42 G w h0 (K_X8_tell_28 G w h0 n28) n42) n55) v x_0 x2 x12 x14 x8 x17 x62 x71 x73 = F_X8_tell G w v h0 x_0 → J p l e rm_X8_tell s m args below meth c 0 0 (MQ below (QcI D dA G (fun r v1 w1 => Ok G v1 w1 ∧ Kp G v v1 ∧ True ∧ (w1 = w ∧ (r, v1) = F_X8_tell G w v h0 x_0) ∧ Fr G [103] v v1)) args s 0 0 (dm G)) D dA G (dm G) s.heap 9 v w [(0, .ref h0), (1, .int x_0), (2, .int x2), (3, .int x12), (4, .int x14), (5, .int x8), (6, .int x17), (8, .int x62)] 102 [.int x71, .int x73] := by
                intro b64 b65 b66 b67 b68 b69 b70 x71 b72 x73 hK
                refine J_iadd E dX8_tell_102 (fun x74 e75 => ?_)
                refine J_istore E [(7, .int x74), (0, .ref h0), (1, .int x_0), (2, .int x2), (3, .int x12), (4, .int x14), (5, .int x8), (6, .int x17), (8, .int x62)] dX8_tell_103 (by decide) rfl ?_
                refine J_iinc E 8 1 (fun z => [(8, .int z), (7, .int x74), (0, .ref h0), (1, .int x_0), (2, .int x2), (3, .int x12), (4, .int x14), (5, .int x8), (6, .int x17)]) dX8_tell_105 rfl (by decide) (by decide) (fun _ => rfl) (fun x76 e77 => ?_)
                have b78 : Bd x76 2 10 := (Bd.add e77 b70 (Bd.lit 1 1 (by decide)) (by decide)).w _ _ (by decide)
                refine J_goto E 55 dX8_tell_108 (by decide) ?_
                exact J.sub [2, 3, 4, 5, 6, 7, 8, 1, 0] rfl (ih55 b64 b65 b66 b67 b68 b69 x74 x76 (b78.w 1 10 (by decide)) (Mu.step hmu55 e77 b70 (Bd.lit 1 1 (by decide)) (by decide)) ((kx_X8_tell_6 (e75) (e77)).symm.trans hK))
              have J101 : Bd x_0 0 6 → Bd x2 1 1023 → Bd x12 (-1) 983 → Bd x14 I0 100000 → Bd x8 0 9 → Bd x17 0 60 → Bd x62 1 9 → ∀ x86 : Int32, K_X8_tell_101 G w h0 (K_X8_tell_28 G w h0 n28) (K_X8_tell_42 G w h0 (K_X8_tell_28 G w h0 n28) n42) (K_X8_tell_55 G w h0 (K_X8_tell_28 G w h0 n28) (K_X8_tell_42 G w h0 (K_X8_tell_28 G w h0 n28) n42) n55) v x_0 x2 x12 x14 x8 x17 x62 x86 = F_X8_tell G w v h0 x_0 → J p l e rm_X8_tell s m args below meth c 0 0 (MQ below (QcI D dA G (fun r v1 w1 => Ok G v1 w1 ∧ Kp G v v1 ∧ True ∧ (w1 = w ∧ (r, v1) = F_X8_tell G w v h0 x_0) ∧ Fr G [103] v v1)) args s 0 0 (dm G)) D dA G (dm G) s.heap 9 v w [(0, .ref h0), (1, .int x_0), (2, .int x2), (3, .int x12), (4, .int x14), (5, .int x8), (6, .int x17), (8, .int x62)] 101 [.int x86] := by
                intro b79 b80 b81 b82 b83 b84 b85 x86 hK
                refine J_iconst E 0 dX8_tell_101 (by decide) ?_
                exact J.sub [0, 1, 2, 3, 4, 5, 6, 7] rfl (J102 b79 b80 b81 b82 b83 b84 b85 0 ((Bd.lit 0 0 (by decide)).w 0 1 (by decide)) x86 ((kx_X8_tell_7).symm.trans hK))
              refine J_iload E dX8_tell_55 8 rfl ?_
              refine J_bipush E 9 dX8_tell_57 (by decide) ?_
              refine J_icmp_gt E 111 dX8_tell_59 (by decide) (fun c87 => ?_) (fun c87 => ?_)
              · have b88 : Bd x62 10 10 := Bd.lt_r c87 (Bd.lit 9 9 (by decide)) b63 10 (by decide)
                refine J_iload E dX8_tell_111 7 rfl ?_
                refine J_iload_n E dX8_tell_113 2 rfl ?_
                refine J_callSI E cal_X8_bitsOf wd1152 [.int x2] [.int x61] (ct_X8_bitsOf l D dA G v w (hOk) x2) rfl rfl (Nat.le_of_ble_eq_true rfl) ⟨rfl, rfl⟩ ⟨Nat.le_of_ble_eq_true rfl, Nat.le_of_ble_eq_true rfl⟩ dX8_tell_114 (fun x92 v89 w90 p91 => ?_)
                rw [p91.1, p91.2.1]
                have e93 : x92 = F_X8_bitsOf G w v x2 := (p91.2.2.2)
                refine J_iload E dX8_tell_117 7 rfl ?_
                refine J_isub E dX8_tell_119 (fun x94 e95 => ?_)
                refine J_icmp_le E 128 dX8_tell_120 (by decide) (fun c96 => ?_) (fun c96 => ?_)
                · refine J_iload_n E dX8_tell_128 2 rfl ?_
                  refine J_callSI E cal_X8_bitsOf wd1152 [.int x2] [] (ct_X8_bitsOf l D dA G v w (hOk) x2) rfl rfl (Nat.le_of_ble_eq_true rfl) ⟨rfl, rfl⟩ ⟨Nat.le_of_ble_eq_true rfl, Nat.le_of_ble_eq_true rfl⟩ dX8_tell_129 (fun x100 v97 w98 p99 => ?_)
                  rw [p99.1, p99.2.1]
                  have e101 : x100 = F_X8_bitsOf G w v x2 := (p99.2.2.2)
                  refine J_iload E dX8_tell_132 7 rfl ?_
                  refine J_isub E dX8_tell_134 (fun x102 e103 => ?_)
                  exact J.sub [0, 1, 2, 3, 4, 5, 6] rfl (J135 b55 b56 b57 b58 b59 b60 x102 ((kx_X8_tell_8 (e93) (e95) (e101) (e103) (c87) (c96)).symm.trans hK))
                · refine J_iload E dX8_tell_123 7 rfl ?_
                  refine J_goto E 135 dX8_tell_125 (by decide) ?_
                  exact J.sub [0, 1, 2, 3, 4, 5, 6] rfl (J135 b55 b56 b57 b58 b59 b60 x61 ((kx_X8_tell_9 (e93) (e95) (c87) (c96)).symm.trans hK))
              · have b104 : Bd x62 1 9 := Bd.le_l (nlt c87) b63 (Bd.lit 9 9 (by decide)) 9 (by decide)
                refine J_iload E dX8_tell_62 7 rfl ?_
                refine J_iload_n E dX8_tell_64 2 rfl ?_
                refine J_iload E dX8_tell_65 8 rfl ?_
                refine J_callSI E cal_X8_has wd1075 [.int x2, .int x62] [.int x61] (ct_X8_has l D dA G v w (hOk) x2 x62 (b104.w 0 9 (by decide))) rfl rfl (Nat.le_of_ble_eq_true rfl) ⟨rfl, rfl⟩ ⟨Nat.le_of_ble_eq_true rfl, Nat.le_of_ble_eq_true rfl⟩ dX8_tell_67 (fun x108 v105 w106 p107 => ?_)
                rw [p107.1, p107.2.1]
                have b109 : Bd x108 0 1 := p107.2.2.1
                have e110 : x108 = F_X8_has G w v x2 x62 := (p107.2.2.2)
                refine J_if_eq E 101 dX8_tell_70 (by decide) (fun c111 => ?_) (fun c111 => ?_)
                · have b112 : Bd x108 0 0 := Bd.eq_l c111 b109 (Bd.lit 0 0 (by decide)) 0 0 (by decide)
                  exact J.sub [0, 1, 2, 3, 4, 5, 6, 8] rfl (J101 b55 b56 b57 b58 b59 b60 b104 x61 ((kx_X8_tell_10 (e110) (c87) (c111)).symm.trans hK))
                · have b113 : Bd x108 1 1 := (Bd.ne_lo c111 b109 (Bd.lit 0 0 (by decide))).w _ _ (by decide)
                  refine J_aload_n E dX8_tell_73 0 rfl ?_
                  refine J_getR E in_X8 rfl (S_X8.h S0) 1 (by decide) wd936 rfl dX8_tell_74 ?_
                  refine J_bipush E 20 dX8_tell_77 (by decide) ?_
                  refine J_iload_n E dX8_tell_79 1 rfl ?_
                  refine J_iadd E dX8_tell_80 (fun x114 e115 => ?_)
                  have b116 : Bd x114 20 26 := (Bd.add e115 (Bd.lit 20 20 (by decide)) b55 (by decide)).w _ _ (by decide)
                  refine J_iald1 E (S_X8.f1 S0) (Bd.in b116 (by decide)) dX8_tell_81 (fun x117 e118 => ?_)
                  refine J_iload E dX8_tell_82 8 rfl ?_
                  refine J_bipush E 10 dX8_tell_84 (by decide) ?_
                  refine J_iload E dX8_tell_86 5 rfl ?_
                  refine J_imul E dX8_tell_88 (fun x119 e120 => ?_)
                  have b121 : Bd x119 0 90 := Bd.mul e120 (Bd.lit 10 10 (by decide)) b59 (by decide)
                  refine J_callSI E cal_X8_liftsBy wd1109 [.int x117, .int x62, .int x119] [.int x61] (ct_X8_liftsBy l D dA G v w (hOk) x117 x62 x119) rfl rfl (Nat.le_of_ble_eq_true rfl) ⟨rfl, rfl⟩ ⟨Nat.le_of_ble_eq_true rfl, Nat.le_of_ble_eq_true rfl⟩ dX8_tell_89 (fun x125 v122 w123 p124 => ?_)
                  rw [p124.1, p124.2.1]
                  have e126 : x125 = F_X8_liftsBy G w v x117 x62 x119 := (p124.2.2.2)
                  refine J_iload E dX8_tell_92 6 rfl ?_
                  refine J_icmp_lt E 101 dX8_tell_94 (by decide) (fun c127 => ?_) (fun c127 => ?_)
                  · have b128 : Bd x125 I0 59 := Bd.lt_l c127 (Bd.any x125) b60 59 (by decide)
                    exact J.sub [0, 1, 2, 3, 4, 5, 6, 8] rfl (J101 b55 b56 b57 b58 b59 b60 b104 x61 ((kx_X8_tell_11 (e110) (e115) (e118) (e120) (e126) (c87) (c111) (c127)).symm.trans hK))
                  · have b129 : Bd x125 0 I1 := Bd.le_r (nlt c127) b60 (Bd.any x125) 0 (by decide)
                    refine J_iconst E 1 dX8_tell_97 (by decide) ?_
                    refine J_goto E 102 dX8_tell_98 (by decide) ?_
                    exact J.sub [0, 1, 2, 3, 4, 5, 6, 8] rfl (J102 b55 b56 b57 b58 b59 b60 b104 1 ((Bd.lit 1 1 (by decide)).w 0 1 (by decide)) x61 ((kx_X8_tell_12 (e110) (e115) (e118) (e120) (e126) (c87) (c111) (c127)).symm.trans hK))
          refine J_iload E dX8_tell_42 6 rfl ?_
          refine J_bipush E 60 dX8_tell_44 (by decide) ?_
          refine J_icmp_gt E 179 dX8_tell_46 (by decide) (fun c130 => ?_) (fun c130 => ?_)
          · have b131 : Bd x17 61 61 := Bd.lt_r c130 (Bd.lit 60 60 (by decide)) b18 61 (by decide)
            refine J_iinc E 5 1 (fun z => [(5, .int z), (0, .ref h0), (1, .int x_0), (2, .int x2), (3, .int x12), (4, .int x14), (6, .int x17)]) dX8_tell_179 rfl (by decide) (by decide) (fun _ => rfl) (fun x132 e133 => ?_)
            have b134 : Bd x132 1 10 := (Bd.add e133 b16 (Bd.lit 1 1 (by decide)) (by decide)).w _ _ (by decide)
            refine J_goto E 28 dX8_tell_182 (by decide) ?_
            exact J.sub [1, 2, 3, 4, 5, 0] rfl (ih28 b10 x2 (b11.w 0 1023 (by decide)) x12 b13 x14 b15 x132 (b134.w 0 10 (by decide)) (Mu.step hmu28 e133 b16 (Bd.lit 1 1 (by decide)) (by decide)) ((kx_X8_tell_13 (e133) (c130)).symm.trans hK))
          · have b135 : Bd x17 0 60 := Bd.le_l (nlt c130) b18 (Bd.lit 60 60 (by decide)) 60 (by decide)
            refine J_iconst E 0 dX8_tell_49 (by decide) ?_
            refine J_istore E [(7, .int 0), (0, .ref h0), (1, .int x_0), (2, .int x2), (3, .int x12), (4, .int x14), (5, .int x8), (6, .int x17)] dX8_tell_50 (by decide) rfl ?_
            refine J_iconst E 1 dX8_tell_52 (by decide) ?_
            refine J_istore E [(8, .int 1), (7, .int 0), (0, .ref h0), (1, .int x_0), (2, .int x2), (3, .int x12), (4, .int x14), (5, .int x8), (6, .int x17)] dX8_tell_53 (by decide) rfl ?_
            exact J.sub [2, 3, 4, 5, 6, 7, 8, 1, 0] rfl (J55 10 b10 b11 b13 b15 b16 b135 0 1 ((Bd.lit 1 1 (by decide)).w 1 10 (by decide)) (Mu.start _ (Bd.lit 1 1 (by decide)) (by decide)) ((kx_X8_tell_14 (c130)).symm.trans hK))
      refine J_iload E dX8_tell_28 5 rfl ?_
      refine J_bipush E 9 dX8_tell_30 (by decide) ?_
      refine J_icmp_gt E 185 dX8_tell_32 (by decide) (fun c136 => ?_) (fun c136 => ?_)
      · have b137 : Bd x8 10 10 := Bd.lt_r c136 (Bd.lit 9 9 (by decide)) b9 10 (by decide)
        refine J_iload_n E dX8_tell_185 3 rfl ?_
        exact J_iret E hr dX8_tell_186 ⟨hOk, Kp.rf, trivial, ⟨⟨rfl, ((kx_X8_tell_15 (c136)).symm.trans hK)⟩, Fr.rf⟩⟩
      · have b138 : Bd x8 0 9 := Bd.le_l (nlt c136) b9 (Bd.lit 9 9 (by decide)) 9 (by decide)
        refine J_iload_n E dX8_tell_35 2 rfl ?_
        refine J_if_eq E 185 dX8_tell_36 (by decide) (fun c139 => ?_) (fun c139 => ?_)
        · have b140 : Bd x2 0 0 := Bd.eq_l c139 b3 (Bd.lit 0 0 (by decide)) 0 0 (by decide)
          refine J_iload_n E dX8_tell_185 3 rfl ?_
          exact J_iret E hr dX8_tell_186 ⟨hOk, Kp.rf, trivial, ⟨⟨rfl, ((kx_X8_tell_16 (c136) (c139)).symm.trans hK)⟩, Fr.rf⟩⟩
        · have b141 : Bd x2 1 1023 := (Bd.ne_lo c139 b3 (Bd.lit 0 0 (by decide))).w _ _ (by decide)
          refine J_iconst E 0 dX8_tell_39 (by decide) ?_
          refine J_istore E [(6, .int 0), (0, .ref h0), (1, .int x_0), (2, .int x2), (3, .int x4), (4, .int x6), (5, .int x8)] dX8_tell_40 (by decide) rfl ?_
          exact J.sub [1, 2, 3, 4, 5, 6, 0] rfl (J42 62 b1 b141 x4 b5 x6 b7 b138 0 ((Bd.lit 0 0 (by decide)).w 0 61 (by decide)) (Mu.start _ (Bd.lit 0 0 (by decide)) (by decide)) ((kx_X8_tell_17 (c136) (c139)).symm.trans hK))
  have hK : K_X8_tell_e G w v h0 x_0 = F_X8_tell G w v h0 x_0 := rfl
  refine J_aload_n E dX8_tell_0 0 rfl ?_
  refine J_iload_n E dX8_tell_1 1 rfl ?_
  refine J_callVI E cal_X8_isOne wd1120 rfl (S_X8.h S0) [.int x_0] [] (ct_X8_isOne l D dA G v w (hOk) h0 S0 x_0) rfl rfl (Nat.le_of_ble_eq_true rfl) ⟨rfl, rfl⟩ ⟨Nat.le_of_ble_eq_true rfl, Nat.le_of_ble_eq_true rfl⟩ dX8_tell_2 (fun x145 v142 w143 p144 => ?_)
  rw [p144.1, p144.2.1]
  have b146 : Bd x145 0 1 := p144.2.2.1
  have e147 : x145 = F_X8_isOne G w v h0 x_0 := (p144.2.2.2.2)
  refine J_if_ne E 13 dX8_tell_5 (by decide) (fun c148 => ?_) (fun c148 => ?_)
  · have b149 : Bd x145 1 1 := (Bd.ne_lo c148 b146 (Bd.lit 0 0 (by decide))).w _ _ (by decide)
    have b150 : Bd x_0 0 6 := (p144.2.2.2.1).resolve_left c148
    refine J_aload_n E dX8_tell_13 0 rfl ?_
    refine J_iload_n E dX8_tell_14 1 rfl ?_
    refine J_callVI E cal_X8_strengthsOf wd1248 rfl (S_X8.h S0) [.int x_0] [] (ct_X8_strengthsOf l D dA G v w (hOk) h0 S0 x_0 b150) rfl rfl (Nat.le_of_ble_eq_true rfl) ⟨rfl, rfl⟩ ⟨Nat.le_of_ble_eq_true rfl, Nat.le_of_ble_eq_true rfl⟩ dX8_tell_15 (fun x154 v151 w152 p153 => ?_)
    rw [p153.1, p153.2.1]
    have b155 : Bd x154 0 1023 := p153.2.2.1
    have e156 : x154 = F_X8_strengthsOf G w v h0 x_0 := (p153.2.2.2)
    refine J_istore_n E [(2, .int x154), (0, .ref h0), (1, .int x_0)] dX8_tell_18 rfl (by decide) rfl ?_
    refine J_iconst E (-1) dX8_tell_19 (by decide) ?_
    refine J_istore_n E [(3, .int (-1)), (2, .int x154), (0, .ref h0), (1, .int x_0)] dX8_tell_20 rfl (by decide) rfl ?_
    refine J_ldc E wd1223 dX8_tell_21 ?_
    refine J_istore E [(4, .int 100000), (3, .int (-1)), (2, .int x154), (0, .ref h0), (1, .int x_0)] dX8_tell_23 (by decide) rfl ?_
    refine J_iconst E 0 dX8_tell_25 (by decide) ?_
    refine J_istore E [(5, .int 0), (4, .int 100000), (3, .int (-1)), (2, .int x154), (0, .ref h0), (1, .int x_0)] dX8_tell_26 (by decide) rfl ?_
    exact J.sub [4, 5, 3, 2, 1, 0] rfl (J28 11 b150 x154 b155 (-1) ((Bd.lit (-1) (-1) (by decide)).w (-1) 983 (by decide)) 100000 ((Bd.lit 100000 100000 (by decide)).w I0 100000 (by decide)) 0 ((Bd.lit 0 0 (by decide)).w 0 10 (by decide)) (Mu.start _ (Bd.lit 0 0 (by decide)) (by decide)) ((kx_X8_tell_18 (e147) (e156) (c148)).symm.trans hK))
  · have b157 : Bd x145 0 0 := Bd.eq_l c148 b146 (Bd.lit 0 0 (by decide)) 0 0 (by decide)
    refine J_aload_n E dX8_tell_8 0 rfl ?_
    refine J_callVI E cal_X8_bad wd999 rfl (S_X8.h S0) [] [] (ct_X8_bad l D dA G v w (hOk) h0 S0) rfl rfl (Nat.le_of_ble_eq_true rfl) ⟨rfl, rfl⟩ ⟨Nat.le_of_ble_eq_true rfl, Nat.le_of_ble_eq_true rfl⟩ dX8_tell_9 (fun x161 v158 w159 p160 => ?_)
    have ew9 : w = w159 := p160.2.2.2.1.1.symm
    subst ew9
    have o162 := p160.1
    have k163 : Kp G v v158 := (Kp.rf).tr p160.2.1
    have f164 : Fr G [103] v v158 := Fr.tr Fr.rf (p160.2.2.2.2) (by decide)
    have b165 : Bd x161 (-2) (-2) := p160.2.2.1
    have e166 : x161 = (F_X8_bad G w v h0).1 := congrArg Prod.fst (p160.2.2.2.1).2
    have e167 : v158 = (F_X8_bad G w v h0).2 := congrArg Prod.snd (p160.2.2.2.1).2
    have hK : K_X8_tell_c1 G w h0 v158 x161 = F_X8_tell G w v h0 x_0 := ((kx_X8_tell_19 (e147) (e166) (e167) (c148)).symm.trans hK)
    exact J_iret E hr dX8_tell_12 ⟨o162, k163, trivial, ⟨⟨rfl, ((kx_X8_tell_20).symm.trans hK)⟩, f164⟩⟩

def K_X8_note_c1 (G : Gm) (w : Mw) (h0 : Nat) (v1 : Mv) (x4 : Int32) : Int32 × Mv :=
  (x4, v1)
def K_X8_note_39 (G : Gm) (w : Mw) (h0 : Nat) (v : Mv) : Int32 × Mv :=
  K_X8_note_c1 G w h0 ((F_X8_bad G w v h0).2) ((F_X8_bad G w v h0).1)
def K_X8_note_c2 (G : Gm) (w : Mw) (h0 : Nat) (v64 : Mv) (x67 : Int32) : Int32 × Mv :=
  (x67, v64)
def K_X8_note_c3 (G : Gm) (w : Mw) (h0 : Nat) (v75 : Mv) (x78 : Int32) : Int32 × Mv :=
  (x78, v75)
def K_X8_note_e (G : Gm) (w : Mw) (v : Mv) (h0 : Nat) (x_0 : Int32) (x_1 : Int32) (x_2 : Int32) (x_3 : Int32) : Int32 × Mv :=
  if (F_X8_isThing G w v h0 x_0) = (0 : Int32) then (K_X8_note_39 G w h0 v) else (if (F_X8_in G w v x_1 (1 : Int32) (30 : Int32)) = (0 : Int32) then (K_X8_note_39 G w h0 v) else (if (F_X8_in G w v x_2 (0 : Int32) (99 : Int32)) = (0 : Int32) then (K_X8_note_39 G w h0 v) else (if (F_X8_in G w v x_3 (0 : Int32) (99 : Int32)) = (0 : Int32) then (K_X8_note_39 G w h0 v) else (if (v (rf G h0 1) (Int32.toNatClampNeg (3 : Int32))) = (6 : Int32) then (K_X8_note_c3 G w h0 ((F_X8_full G w v h0).2) ((F_X8_full G w v h0).1)) else (K_X8_note_c2 G w h0 ((F_X8_tell4_70_3 G w v h0 x_0 x_1 x_2 x_3).2) ((F_X8_tell4_70_3 G w v h0 x_0 x_1 x_2 x_3).1))))))
def F_X8_note (G : Gm) (w : Mw) (v : Mv) (h0 : Nat) (x_0 : Int32) (x_1 : Int32) (x_2 : Int32) (x_3 : Int32) : Int32 × Mv := K_X8_note_e G w v h0 x_0 x_1 x_2 x_3
set_option maxRecDepth 100000 in
theorem kx_X8_note_1 {G : Gm} {w : Mw} {h0 : Nat} {v : Mv} {v1 : Mv} {x4 : Int32} (a0 : x4 = (F_X8_bad G w v h0).1) (a1 : v1 = (F_X8_bad G w v h0).2)  : K_X8_note_39 G w h0 v = K_X8_note_c1 G w h0 v1 x4 := by
  subst a1; subst a0; first | rw [K_X8_note_39] | simp only [K_X8_note_39]
set_option maxRecDepth 100000 in
theorem kx_X8_note_2 {G : Gm} {w : Mw} {h0 : Nat} {v1 : Mv} {x4 : Int32}   : K_X8_note_c1 G w h0 v1 x4 = (x4, v1) := by
  first | rw [K_X8_note_c1] | simp only [K_X8_note_c1]
set_option maxRecDepth 100000 in
theorem kx_X8_note_3 {G : Gm} {w : Mw} {v : Mv} {h0 : Nat} {x_0 : Int32} {x_1 : Int32} {x_2 : Int32} {x_3 : Int32} {x14 : Int32} (a0 : x14 = F_X8_isThing G w v h0 x_0) (k0 : x14 = (0 : Int32)) : K_X8_note_e G w v h0 x_0 x_1 x_2 x_3 = K_X8_note_39 G w h0 v := by
  subst a0; first | rw [K_X8_note_e, if_pos k0] | simp only [K_X8_note_e, if_pos k0]
set_option maxRecDepth 100000 in
theorem kx_X8_note_4 {G : Gm} {w : Mw} {v : Mv} {h0 : Nat} {x_0 : Int32} {x_1 : Int32} {x_2 : Int32} {x_3 : Int32} {x14 : Int32} {x24 : Int32} (a0 : x14 = F_X8_isThing G w v h0 x_0) (a1 : x24 = F_X8_in G w v x_1 (1 : Int32) (30 : Int32)) (k0 : ¬ (x14 = (0 : Int32))) (k1 : x24 = (0 : Int32)) : K_X8_note_e G w v h0 x_0 x_1 x_2 x_3 = K_X8_note_39 G w h0 v := by
  subst a1; subst a0; first | rw [K_X8_note_e, if_neg k0, if_pos k1] | simp only [K_X8_note_e, if_neg k0, if_pos k1]
set_option maxRecDepth 100000 in
theorem kx_X8_note_5 {G : Gm} {w : Mw} {v : Mv} {h0 : Nat} {x_0 : Int32} {x_1 : Int32} {x_2 : Int32} {x_3 : Int32} {x14 : Int32} {x24 : Int32} {x37 : Int32} (a0 : x14 = F_X8_isThing G w v h0 x_0) (a1 : x24 = F_X8_in G w v x_1 (1 : Int32) (30 : Int32)) (a2 : x37 = F_X8_in G w v x_2 (0 : Int32) (99 : Int32)) (k0 : ¬ (x14 = (0 : Int32))) (k1 : ¬ (x24 = (0 : Int32))) (k2 : x37 = (0 : Int32)) : K_X8_note_e G w v h0 x_0 x_1 x_2 x_3 = K_X8_note_39 G w h0 v := by
  subst a2; subst a1; subst a0; first | rw [K_X8_note_e, if_neg k0, if_neg k1, if_pos k2] | simp only [K_X8_note_e, if_neg k0, if_neg k1, if_pos k2]
set_option maxRecDepth 100000 in
theorem kx_X8_note_6 {G : Gm} {w : Mw} {v : Mv} {h0 : Nat} {x_0 : Int32} {x_1 : Int32} {x_2 : Int32} {x_3 : Int32} {v64 : Mv} {x67 : Int32} {x14 : Int32} {x24 : Int32} {x37 : Int32} {x50 : Int32} {x58 : Int32} (a0 : x14 = F_X8_isThing G w v h0 x_0) (a1 : x24 = F_X8_in G w v x_1 (1 : Int32) (30 : Int32)) (a2 : x37 = F_X8_in G w v x_2 (0 : Int32) (99 : Int32)) (a3 : x50 = F_X8_in G w v x_3 (0 : Int32) (99 : Int32)) (a4 : x58 = v (rf G h0 1) (Int32.toNatClampNeg (3 : Int32))) (a5 : x67 = (F_X8_tell4_70_3 G w v h0 x_0 x_1 x_2 x_3).1) (a6 : v64 = (F_X8_tell4_70_3 G w v h0 x_0 x_1 x_2 x_3).2) (k0 : ¬ (x14 = (0 : Int32))) (k1 : ¬ (x24 = (0 : Int32))) (k2 : ¬ (x37 = (0 : Int32))) (k3 : ¬ (x50 = (0 : Int32))) (k4 : ¬ (x58 = (6 : Int32))) : K_X8_note_e G w v h0 x_0 x_1 x_2 x_3 = K_X8_note_c2 G w h0 v64 x67 := by
  subst a6; subst a5; subst a4; subst a3; subst a2; subst a1; subst a0; first | rw [K_X8_note_e, if_neg k0, if_neg k1, if_neg k2, if_neg k3, if_neg k4] | simp only [K_X8_note_e, if_neg k0, if_neg k1, if_neg k2, if_neg k3, if_neg k4]
set_option maxRecDepth 100000 in
theorem kx_X8_note_7 {G : Gm} {w : Mw} {h0 : Nat} {v64 : Mv} {x67 : Int32}   : K_X8_note_c2 G w h0 v64 x67 = (x67, v64) := by
  first | rw [K_X8_note_c2] | simp only [K_X8_note_c2]
set_option maxRecDepth 100000 in
theorem kx_X8_note_8 {G : Gm} {w : Mw} {v : Mv} {h0 : Nat} {x_0 : Int32} {x_1 : Int32} {x_2 : Int32} {x_3 : Int32} {v75 : Mv} {x78 : Int32} {x14 : Int32} {x24 : Int32} {x37 : Int32} {x50 : Int32} {x58 : Int32} (a0 : x14 = F_X8_isThing G w v h0 x_0) (a1 : x24 = F_X8_in G w v x_1 (1 : Int32) (30 : Int32)) (a2 : x37 = F_X8_in G w v x_2 (0 : Int32) (99 : Int32)) (a3 : x50 = F_X8_in G w v x_3 (0 : Int32) (99 : Int32)) (a4 : x58 = v (rf G h0 1) (Int32.toNatClampNeg (3 : Int32))) (a5 : x78 = (F_X8_full G w v h0).1) (a6 : v75 = (F_X8_full G w v h0).2) (k0 : ¬ (x14 = (0 : Int32))) (k1 : ¬ (x24 = (0 : Int32))) (k2 : ¬ (x37 = (0 : Int32))) (k3 : ¬ (x50 = (0 : Int32))) (k4 : x58 = (6 : Int32)) : K_X8_note_e G w v h0 x_0 x_1 x_2 x_3 = K_X8_note_c3 G w h0 v75 x78 := by
  subst a6; subst a5; subst a4; subst a3; subst a2; subst a1; subst a0; first | rw [K_X8_note_e, if_neg k0, if_neg k1, if_neg k2, if_neg k3, if_pos k4] | simp only [K_X8_note_e, if_neg k0, if_neg k1, if_neg k2, if_neg k3, if_pos k4]
set_option maxRecDepth 100000 in
theorem kx_X8_note_9 {G : Gm} {w : Mw} {h0 : Nat} {v75 : Mv} {x78 : Int32}   : K_X8_note_c3 G w h0 v75 x78 = (x78, v75) := by
  first | rw [K_X8_note_c3] | simp only [K_X8_note_c3]
set_option maxRecDepth 100000 in
theorem kx_X8_note_10 {G : Gm} {w : Mw} {v : Mv} {h0 : Nat} {x_0 : Int32} {x_1 : Int32} {x_2 : Int32} {x_3 : Int32} {x14 : Int32} {x24 : Int32} {x37 : Int32} {x50 : Int32} (a0 : x14 = F_X8_isThing G w v h0 x_0) (a1 : x24 = F_X8_in G w v x_1 (1 : Int32) (30 : Int32)) (a2 : x37 = F_X8_in G w v x_2 (0 : Int32) (99 : Int32)) (a3 : x50 = F_X8_in G w v x_3 (0 : Int32) (99 : Int32)) (k0 : ¬ (x14 = (0 : Int32))) (k1 : ¬ (x24 = (0 : Int32))) (k2 : ¬ (x37 = (0 : Int32))) (k3 : x50 = (0 : Int32)) : K_X8_note_e G w v h0 x_0 x_1 x_2 x_3 = K_X8_note_39 G w h0 v := by
  subst a3; subst a2; subst a1; subst a0; first | rw [K_X8_note_e, if_neg k0, if_neg k1, if_neg k2, if_pos k3] | simp only [K_X8_note_e, if_neg k0, if_neg k1, if_neg k2, if_pos k3]
abbrev rm_X8_note : Room := { frames := 2, cells := 0, slots := 0, locals := 43 }
set_option maxHeartbeats 4000000 in
set_option maxRecDepth 100000 in
theorem ct_X8_note (l : Launch) (D : va_G) (dA : Nat → ClassId) (G : Gm) (v : Mv) (w : Mw) (hOk : Ok G v w) (h0 : Nat) (S0 : S_X8 G h0) (x_0 : Int32) (x_1 : Int32) (x_2 : Int32) (x_3 : Int32) : CtI l yX8_note cX8_note 5 (some .int) rm_X8_note D dA G [.ref h0, .int x_0, .int x_1, .int x_2, .int x_3] v w (fun r v1 w1 => Ok G v1 w1 ∧ True ∧ True ∧ (w1 = w ∧ (r, v1) = F_X8_note G w v h0 x_0 x_1 x_2 x_3) ∧ Fr G [103, 1084] v v1) := by
  refine CtI.of RX8 [(0, .ref h0), (1, .int x_0), (2, .int x_1), (3, .int x_2), (4, .int x_3)] (Nat.le_of_ble_eq_true rfl) rfl (by decide) rfl ?_
  intro p e s m args below meth c E hr
  have J39 : K_X8_note_39 G w h0 v = F_X8_note G w v h0 x_0 x_1 x_2 x_3 → J p l e rm_X8_note s m args below meth c 0 0 (MQ below (QcI D dA G (fun r v1 w1 => Ok G v1 w1 ∧ True ∧ True ∧ (w1 = w ∧ (r, v1) = F_X8_note G w v h0 x_0 x_1 x_2 x_3) ∧ Fr G [103, 1084] v v1)) args s 0 0 (dm G)) D dA G (dm G) s.heap 5 v w [(0, .ref h0)] 39 [] := by
    intro hK
    refine J_aload_n E dX8_note_39 0 rfl ?_
    refine J_callVI E cal_X8_bad wd999 rfl (S_X8.h S0) [] [] (ct_X8_bad l D dA G v w (hOk) h0 S0) rfl rfl (Nat.le_of_ble_eq_true rfl) ⟨rfl, rfl⟩ ⟨Nat.le_of_ble_eq_true rfl, Nat.le_of_ble_eq_true rfl⟩ dX8_note_40 (fun x4 v1 w2 p3 => ?_)
    have ew9 : w = w2 := p3.2.2.2.1.1.symm
    subst ew9
    have o5 := p3.1
    have k6 : True := trivial
    have f7 : Fr G [103, 1084] v v1 := Fr.tr Fr.rf (p3.2.2.2.2) (by decide)
    have b8 : Bd x4 (-2) (-2) := p3.2.2.1
    have e9 : x4 = (F_X8_bad G w v h0).1 := congrArg Prod.fst (p3.2.2.2.1).2
    have e10 : v1 = (F_X8_bad G w v h0).2 := congrArg Prod.snd (p3.2.2.2.1).2
    have hK : K_X8_note_c1 G w h0 v1 x4 = F_X8_note G w v h0 x_0 x_1 x_2 x_3 := ((kx_X8_note_1 (e9) (e10)).symm.trans hK)
    exact J_iret E hr dX8_note_43 ⟨o5, k6, trivial, ⟨⟨rfl, ((kx_X8_note_2).symm.trans hK)⟩, f7⟩⟩
  have hK : K_X8_note_e G w v h0 x_0 x_1 x_2 x_3 = F_X8_note G w v h0 x_0 x_1 x_2 x_3 := rfl
  refine J_aload_n E dX8_note_0 0 rfl ?_
  refine J_iload_n E dX8_note_1 1 rfl ?_
  refine J_callVI E cal_X8_isThing wd1124 rfl (S_X8.h S0) [.int x_0] [] (ct_X8_isThing l D dA G v w (hOk) h0 S0 x_0) rfl rfl (Nat.le_of_ble_eq_true rfl) ⟨rfl, rfl⟩ ⟨Nat.le_of_ble_eq_true rfl, Nat.le_of_ble_eq_true rfl⟩ dX8_note_2 (fun x14 v11 w12 p13 => ?_)
  rw [p13.1, p13.2.1]
  have b15 : Bd x14 0 1 := p13.2.2.1
  have e16 : x14 = F_X8_isThing G w v h0 x_0 := (p13.2.2.2.2)
  refine J_if_eq E 39 dX8_note_5 (by decide) (fun c17 => ?_) (fun c17 => ?_)
  · have b18 : Bd x14 0 0 := Bd.eq_l c17 b15 (Bd.lit 0 0 (by decide)) 0 0 (by decide)
    exact J.sub [0] rfl (J39 ((kx_X8_note_3 (e16) (c17)).symm.trans hK))
  · have b19 : Bd x14 1 1 := (Bd.ne_lo c17 b15 (Bd.lit 0 0 (by decide))).w _ _ (by decide)
    have b20 : Bd x_0 0 6 := (p13.2.2.2.1).resolve_left c17
    refine J_iload_n E dX8_note_8 2 rfl ?_
    refine J_iconst E 1 dX8_note_9 (by decide) ?_
    refine J_bipush E 30 dX8_note_10 (by decide) ?_
    refine J_callSI E cal_X8_in wd996 [.int x_1, .int 1, .int 30] [] (ct_X8_in l D dA G v w (hOk) x_1 1 30) rfl rfl (Nat.le_of_ble_eq_true rfl) ⟨rfl, rfl⟩ ⟨Nat.le_of_ble_eq_true rfl, Nat.le_of_ble_eq_true rfl⟩ dX8_note_12 (fun x24 v21 w22 p23 => ?_)
    rw [p23.1, p23.2.1]
    have b25 : Bd x24 0 1 := p23.2.2.1
    have e26 : x24 = F_X8_in G w v x_1 (1 : Int32) (30 : Int32) := (p23.2.2.2.2.2)
    refine J_if_eq E 39 dX8_note_15 (by decide) (fun c27 => ?_) (fun c27 => ?_)
    · have b28 : Bd x24 0 0 := Bd.eq_l c27 b25 (Bd.lit 0 0 (by decide)) 0 0 (by decide)
      have g29 : ¬ (1 ≤ x_1 ∧ x_1 ≤ 30) := (p23.2.2.2.2.1).resolve_left (fun h9 => h9 c27)
      exact J.sub [0] rfl (J39 ((kx_X8_note_4 (e16) (e26) (c17) (c27)).symm.trans hK))
    · have b30 : Bd x24 1 1 := (Bd.ne_lo c27 b25 (Bd.lit 0 0 (by decide))).w _ _ (by decide)
      have g31 := (p23.2.2.2.1).resolve_left c27
      have b32 : Bd x_1 1 I1 := Bd.le_r g31.1 (Bd.lit 1 1 (by decide)) (Bd.any x_1) 1 (by decide)
      have b33 : Bd x_1 1 30 := Bd.le_l g31.2 b32 (Bd.lit 30 30 (by decide)) 30 (by decide)
      refine J_iload_n E dX8_note_18 3 rfl ?_
      refine J_iconst E 0 dX8_note_19 (by decide) ?_
      refine J_bipush E 99 dX8_note_20 (by decide) ?_
      refine J_callSI E cal_X8_in wd996 [.int x_2, .int 0, .int 99] [] (ct_X8_in l D dA G v w (hOk) x_2 0 99) rfl rfl (Nat.le_of_ble_eq_true rfl) ⟨rfl, rfl⟩ ⟨Nat.le_of_ble_eq_true rfl, Nat.le_of_ble_eq_true rfl⟩ dX8_note_22 (fun x37 v34 w35 p36 => ?_)
      rw [p36.1, p36.2.1]
      have b38 : Bd x37 0 1 := p36.2.2.1
      have e39 : x37 = F_X8_in G w v x_2 (0 : Int32) (99 : Int32) := (p36.2.2.2.2.2)
      refine J_if_eq E 39 dX8_note_25 (by decide) (fun c40 => ?_) (fun c40 => ?_)
      · have b41 : Bd x37 0 0 := Bd.eq_l c40 b38 (Bd.lit 0 0 (by decide)) 0 0 (by decide)
        have g42 : ¬ (0 ≤ x_2 ∧ x_2 ≤ 99) := (p36.2.2.2.2.1).resolve_left (fun h9 => h9 c40)
        exact J.sub [0] rfl (J39 ((kx_X8_note_5 (e16) (e26) (e39) (c17) (c27) (c40)).symm.trans hK))
      · have b43 : Bd x37 1 1 := (Bd.ne_lo c40 b38 (Bd.lit 0 0 (by decide))).w _ _ (by decide)
        have g44 := (p36.2.2.2.1).resolve_left c40
        have b45 : Bd x_2 0 I1 := Bd.le_r g44.1 (Bd.lit 0 0 (by decide)) (Bd.any x_2) 0 (by decide)
        have b46 : Bd x_2 0 99 := Bd.le_l g44.2 b45 (Bd.lit 99 99 (by decide)) 99 (by decide)
        refine J_iload E dX8_note_28 4 rfl ?_
        refine J_iconst E 0 dX8_note_30 (by decide) ?_
        refine J_bipush E 99 dX8_note_31 (by decide) ?_
        refine J_callSI E cal_X8_in wd996 [.int x_3, .int 0, .int 99] [] (ct_X8_in l D dA G v w (hOk) x_3 0 99) rfl rfl (Nat.le_of_ble_eq_true rfl) ⟨rfl, rfl⟩ ⟨Nat.le_of_ble_eq_true rfl, Nat.le_of_ble_eq_true rfl⟩ dX8_note_33 (fun x50 v47 w48 p49 => ?_)
        rw [p49.1, p49.2.1]
        have b51 : Bd x50 0 1 := p49.2.2.1
        have e52 : x50 = F_X8_in G w v x_3 (0 : Int32) (99 : Int32) := (p49.2.2.2.2.2)
        refine J_if_ne E 44 dX8_note_36 (by decide) (fun c53 => ?_) (fun c53 => ?_)
        · have b54 : Bd x50 1 1 := (Bd.ne_lo c53 b51 (Bd.lit 0 0 (by decide))).w _ _ (by decide)
          have g55 := (p49.2.2.2.1).resolve_left c53
          have b56 : Bd x_3 0 I1 := Bd.le_r g55.1 (Bd.lit 0 0 (by decide)) (Bd.any x_3) 0 (by decide)
          have b57 : Bd x_3 0 99 := Bd.le_l g55.2 b56 (Bd.lit 99 99 (by decide)) 99 (by decide)
          refine J_aload_n E dX8_note_44 0 rfl ?_
          refine J_getR E in_X8 rfl (S_X8.h S0) 1 (by decide) wd936 rfl dX8_note_45 ?_
          refine J_iconst E 3 dX8_note_48 (by decide) ?_
          refine J_iald1 E (S_X8.f1 S0) (Bd.in (Bd.lit 3 3 (by decide)) (by decide)) dX8_note_49 (fun x58 e59 => ?_)
          have b60 : Bd x58 0 6 := Bd.e (Ok.ld hOk (S_X8.f1 S0) (Bd.lit 3 3 (by decide)) 3 1 0 6 (by decide) (by decide +kernel)) e59
          have e61 : x58 = v (rf G h0 1) 3 := by rw [e59, Bd.ix (Bd.lit 3 3 (by decide)) 3 rfl]
          refine J_bipush E 6 dX8_note_50 (by decide) ?_
          refine J_icmp_ne E 62 dX8_note_52 (by decide) (fun c62 => ?_) (fun c62 => ?_)
          · have b63 : Bd x58 0 5 := (Bd.ne_hi c62 b60 (Bd.lit 6 6 (by decide))).w _ _ (by decide)
            refine J_aload_n E dX8_note_62 0 rfl ?_
            refine J_bipush E 70 dX8_note_63 (by decide) ?_
            refine J_iconst E 3 dX8_note_65 (by decide) ?_
            refine J_iload_n E dX8_note_66 1 rfl ?_
            refine J_iload_n E dX8_note_67 2 rfl ?_
            refine J_iload_n E dX8_note_68 3 rfl ?_
            refine J_iload E dX8_note_69 4 rfl ?_
            refine J_callVI E cal_X8_tell4 wd1240 rfl (S_X8.h S0) [.int 70, .int 3, .int x_0, .int x_1, .int x_2, .int x_3] [] (ct_X8_tell4_70_3 l D dA G v w (hOk) h0 S0 x_0 b20 x_1 b33 x_2 b46 x_3 b57 x58 (e61) b63) rfl rfl (Nat.le_of_ble_eq_true rfl) ⟨rfl, rfl⟩ ⟨Nat.le_of_ble_eq_true rfl, Nat.le_of_ble_eq_true rfl⟩ dX8_note_71 (fun x67 v64 w65 p66 => ?_)
            have ew9 : w = w65 := p66.2.2.2.1.1.symm
            subst ew9
            have o68 := p66.1
            have k69 : True := trivial
            have f70 : Fr G [103, 1084] v v64 := Fr.tr Fr.rf (p66.2.2.2.2) (by decide)
            have b71 : Bd x67 1 6 := p66.2.2.1
            have e72 : x67 = (F_X8_tell4_70_3 G w v h0 x_0 x_1 x_2 x_3).1 := congrArg Prod.fst (p66.2.2.2.1).2
            have e73 : v64 = (F_X8_tell4_70_3 G w v h0 x_0 x_1 x_2 x_3).2 := congrArg Prod.snd (p66.2.2.2.1).2
            have hK : K_X8_note_c2 G w h0 v64 x67 = F_X8_note G w v h0 x_0 x_1 x_2 x_3 := ((kx_X8_note_6 (e16) (e26) (e39) (e52) (e59) (e72) (e73) (c17) (c27) (c40) (c53) (c62)).symm.trans hK)
            exact J_iret E hr dX8_note_74 ⟨o68, k69, trivial, ⟨⟨rfl, ((kx_X8_note_7).symm.trans hK)⟩, f70⟩⟩
          · have b74 : Bd x58 6 6 := Bd.eq_l c62 b60 (Bd.lit 6 6 (by decide)) 6 6 (by decide)
            refine J_aload_n E dX8_note_55 0 rfl ?_
            refine J_callVI E cal_X8_full wd1003 rfl (S_X8.h S0) [] [] (ct_X8_full l D dA G v w (hOk) h0 S0) rfl rfl (Nat.le_of_ble_eq_true rfl) ⟨rfl, rfl⟩ ⟨Nat.le_of_ble_eq_true rfl, Nat.le_of_ble_eq_true rfl⟩ dX8_note_56 (fun x78 v75 w76 p77 => ?_)
            have ew9 : w = w76 := p77.2.2.2.1.1.symm
            subst ew9
            have o79 := p77.1
            have k80 : True := trivial
            have f81 : Fr G [103, 1084] v v75 := Fr.tr Fr.rf (p77.2.2.2.2) (by decide)
            have b82 : Bd x78 (-4) (-4) := p77.2.2.1
            have e83 : x78 = (F_X8_full G w v h0).1 := congrArg Prod.fst (p77.2.2.2.1).2
            have e84 : v75 = (F_X8_full G w v h0).2 := congrArg Prod.snd (p77.2.2.2.1).2
            have hK : K_X8_note_c3 G w h0 v75 x78 = F_X8_note G w v h0 x_0 x_1 x_2 x_3 := ((kx_X8_note_8 (e16) (e26) (e39) (e52) (e59) (e83) (e84) (c17) (c27) (c40) (c53) (c62)).symm.trans hK)
            refine J_goto E 74 dX8_note_59 (by decide) ?_
            exact J_iret E hr dX8_note_74 ⟨o79, k80, trivial, ⟨⟨rfl, ((kx_X8_note_9).symm.trans hK)⟩, f81⟩⟩
        · have b85 : Bd x50 0 0 := Bd.eq_l c53 b51 (Bd.lit 0 0 (by decide)) 0 0 (by decide)
          have g86 : ¬ (0 ≤ x_3 ∧ x_3 ≤ 99) := (p49.2.2.2.2.1).resolve_left (fun h9 => h9 c53)
          exact J.sub [0] rfl (J39 ((kx_X8_note_10 (e16) (e26) (e39) (e52) (c17) (c27) (c40) (c53)).symm.trans hK))

def K_X8_mark_c1 (G : Gm) (w : Mw) (h0 : Nat) (v1 : Mv) (x4 : Int32) : Int32 × Mv :=
  (x4, v1)
def K_X8_mark_39 (G : Gm) (w : Mw) (h0 : Nat) (v : Mv) : Int32 × Mv :=
  K_X8_mark_c1 G w h0 ((F_X8_bad G w v h0).2) ((F_X8_bad G w v h0).1)
def K_X8_mark_c2 (G : Gm) (w : Mw) (h0 : Nat) (v64 : Mv) (x67 : Int32) : Int32 × Mv :=
  (x67, v64)
def K_X8_mark_c3 (G : Gm) (w : Mw) (h0 : Nat) (v75 : Mv) (x78 : Int32) : Int32 × Mv :=
  (x78, v75)
def K_X8_mark_e (G : Gm) (w : Mw) (v : Mv) (h0 : Nat) (x_0 : Int32) (x_1 : Int32) (x_2 : Int32) (x_3 : Int32) : Int32 × Mv :=
  if (F_X8_isOne G w v h0 x_0) = (0 : Int32) then (K_X8_mark_39 G w h0 v) else (if (F_X8_in G w v x_1 (1 : Int32) (9 : Int32)) = (0 : Int32) then (K_X8_mark_39 G w h0 v) else (if (F_X8_in G w v x_2 (0 : Int32) (99 : Int32)) = (0 : Int32) then (K_X8_mark_39 G w h0 v) else (if (F_X8_in G w v x_3 (0 : Int32) (99 : Int32)) = (0 : Int32) then (K_X8_mark_39 G w h0 v) else (if (v (rf G h0 1) (Int32.toNatClampNeg (4 : Int32))) = (6 : Int32) then (K_X8_mark_c3 G w h0 ((F_X8_full G w v h0).2) ((F_X8_full G w v h0).1)) else (K_X8_mark_c2 G w h0 ((F_X8_tell4_94_4 G w v h0 x_0 x_1 x_2 x_3).2) ((F_X8_tell4_94_4 G w v h0 x_0 x_1 x_2 x_3).1))))))
def F_X8_mark (G : Gm) (w : Mw) (v : Mv) (h0 : Nat) (x_0 : Int32) (x_1 : Int32) (x_2 : Int32) (x_3 : Int32) : Int32 × Mv := K_X8_mark_e G w v h0 x_0 x_1 x_2 x_3
set_option maxRecDepth 100000 in
theorem kx_X8_mark_1 {G : Gm} {w : Mw} {h0 : Nat} {v : Mv} {v1 : Mv} {x4 : Int32} (a0 : x4 = (F_X8_bad G w v h0).1) (a1 : v1 = (F_X8_bad G w v h0).2)  : K_X8_mark_39 G w h0 v = K_X8_mark_c1 G w h0 v1 x4 := by
  subst a1; subst a0; first | rw [K_X8_mark_39] | simp only [K_X8_mark_39]
set_option maxRecDepth 100000 in
theorem kx_X8_mark_2 {G : Gm} {w : Mw} {h0 : Nat} {v1 : Mv} {x4 : Int32}   : K_X8_mark_c1 G w h0 v1 x4 = (x4, v1) := by
  first | rw [K_X8_mark_c1] | simp only [K_X8_mark_c1]
set_option maxRecDepth 100000 in
theorem kx_X8_mark_3 {G : Gm} {w : Mw} {v : Mv} {h0 : Nat} {x_0 : Int32} {x_1 : Int32} {x_2 : Int32} {x_3 : Int32} {x14 : Int32} (a0 : x14 = F_X8_isOne G w v h0 x_0) (k0 : x14 = (0 : Int32)) : K_X8_mark_e G w v h0 x_0 x_1 x_2 x_3 = K_X8_mark_39 G w h0 v := by
  subst a0; first | rw [K_X8_mark_e, if_pos k0] | simp only [K_X8_mark_e, if_pos k0]
set_option maxRecDepth 100000 in
theorem kx_X8_mark_4 {G : Gm} {w : Mw} {v : Mv} {h0 : Nat} {x_0 : Int32} {x_1 : Int32} {x_2 : Int32} {x_3 : Int32} {x14 : Int32} {x24 : Int32} (a0 : x14 = F_X8_isOne G w v h0 x_0) (a1 : x24 = F_X8_in G w v x_1 (1 : Int32) (9 : Int32)) (k0 : ¬ (x14 = (0 : Int32))) (k1 : x24 = (0 : Int32)) : K_X8_mark_e G w v h0 x_0 x_1 x_2 x_3 = K_X8_mark_39 G w h0 v := by
  subst a1; subst a0; first | rw [K_X8_mark_e, if_neg k0, if_pos k1] | simp only [K_X8_mark_e, if_neg k0, if_pos k1]
set_option maxRecDepth 100000 in
theorem kx_X8_mark_5 {G : Gm} {w : Mw} {v : Mv} {h0 : Nat} {x_0 : Int32} {x_1 : Int32} {x_2 : Int32} {x_3 : Int32} {x14 : Int32} {x24 : Int32} {x37 : Int32} (a0 : x14 = F_X8_isOne G w v h0 x_0) (a1 : x24 = F_X8_in G w v x_1 (1 : Int32) (9 : Int32)) (a2 : x37 = F_X8_in G w v x_2 (0 : Int32) (99 : Int32)) (k0 : ¬ (x14 = (0 : Int32))) (k1 : ¬ (x24 = (0 : Int32))) (k2 : x37 = (0 : Int32)) : K_X8_mark_e G w v h0 x_0 x_1 x_2 x_3 = K_X8_mark_39 G w h0 v := by
  subst a2; subst a1; subst a0; first | rw [K_X8_mark_e, if_neg k0, if_neg k1, if_pos k2] | simp only [K_X8_mark_e, if_neg k0, if_neg k1, if_pos k2]
set_option maxRecDepth 100000 in
theorem kx_X8_mark_6 {G : Gm} {w : Mw} {v : Mv} {h0 : Nat} {x_0 : Int32} {x_1 : Int32} {x_2 : Int32} {x_3 : Int32} {v64 : Mv} {x67 : Int32} {x14 : Int32} {x24 : Int32} {x37 : Int32} {x50 : Int32} {x58 : Int32} (a0 : x14 = F_X8_isOne G w v h0 x_0) (a1 : x24 = F_X8_in G w v x_1 (1 : Int32) (9 : Int32)) (a2 : x37 = F_X8_in G w v x_2 (0 : Int32) (99 : Int32)) (a3 : x50 = F_X8_in G w v x_3 (0 : Int32) (99 : Int32)) (a4 : x58 = v (rf G h0 1) (Int32.toNatClampNeg (4 : Int32))) (a5 : x67 = (F_X8_tell4_94_4 G w v h0 x_0 x_1 x_2 x_3).1) (a6 : v64 = (F_X8_tell4_94_4 G w v h0 x_0 x_1 x_2 x_3).2) (k0 : ¬ (x14 = (0 : Int32))) (k1 : ¬ (x24 = (0 : Int32))) (k2 : ¬ (x37 = (0 : Int32))) (k3 : ¬ (x50 = (0 : Int32))) (k4 : ¬ (x58 = (6 : Int32))) : K_X8_mark_e G w v h0 x_0 x_1 x_2 x_3 = K_X8_mark_c2 G w h0 v64 x67 := by
  subst a6; subst a5; subst a4; subst a3; subst a2; subst a1; subst a0; first | rw [K_X8_mark_e, if_neg k0, if_neg k1, if_neg k2, if_neg k3, if_neg k4] | simp only [K_X8_mark_e, if_neg k0, if_neg k1, if_neg k2, if_neg k3, if_neg k4]
set_option maxRecDepth 100000 in
theorem kx_X8_mark_7 {G : Gm} {w : Mw} {h0 : Nat} {v64 : Mv} {x67 : Int32}   : K_X8_mark_c2 G w h0 v64 x67 = (x67, v64) := by
  first | rw [K_X8_mark_c2] | simp only [K_X8_mark_c2]
set_option maxRecDepth 100000 in
theorem kx_X8_mark_8 {G : Gm} {w : Mw} {v : Mv} {h0 : Nat} {x_0 : Int32} {x_1 : Int32} {x_2 : Int32} {x_3 : Int32} {v75 : Mv} {x78 : Int32} {x14 : Int32} {x24 : Int32} {x37 : Int32} {x50 : Int32} {x58 : Int32} (a0 : x14 = F_X8_isOne G w v h0 x_0) (a1 : x24 = F_X8_in G w v x_1 (1 : Int32) (9 : Int32)) (a2 : x37 = F_X8_in G w v x_2 (0 : Int32) (99 : Int32)) (a3 : x50 = F_X8_in G w v x_3 (0 : Int32) (99 : Int32)) (a4 : x58 = v (rf G h0 1) (Int32.toNatClampNeg (4 : Int32))) (a5 : x78 = (F_X8_full G w v h0).1) (a6 : v75 = (F_X8_full G w v h0).2) (k0 : ¬ (x14 = (0 : Int32))) (k1 : ¬ (x24 = (0 : Int32))) (k2 : ¬ (x37 = (0 : Int32))) (k3 : ¬ (x50 = (0 : Int32))) (k4 : x58 = (6 : Int32)) : K_X8_mark_e G w v h0 x_0 x_1 x_2 x_3 = K_X8_mark_c3 G w h0 v75 x78 := by
  subst a6; subst a5; subst a4; subst a3; subst a2; subst a1; subst a0; first | rw [K_X8_mark_e, if_neg k0, if_neg k1, if_neg k2, if_neg k3, if_pos k4] | simp only [K_X8_mark_e, if_neg k0, if_neg k1, if_neg k2, if_neg k3, if_pos k4]
set_option maxRecDepth 100000 in
theorem kx_X8_mark_9 {G : Gm} {w : Mw} {h0 : Nat} {v75 : Mv} {x78 : Int32}   : K_X8_mark_c3 G w h0 v75 x78 = (x78, v75) := by
  first | rw [K_X8_mark_c3] | simp only [K_X8_mark_c3]
set_option maxRecDepth 100000 in
theorem kx_X8_mark_10 {G : Gm} {w : Mw} {v : Mv} {h0 : Nat} {x_0 : Int32} {x_1 : Int32} {x_2 : Int32} {x_3 : Int32} {x14 : Int32} {x24 : Int32} {x37 : Int32} {x50 : Int32} (a0 : x14 = F_X8_isOne G w v h0 x_0) (a1 : x24 = F_X8_in G w v x_1 (1 : Int32) (9 : Int32)) (a2 : x37 = F_X8_in G w v x_2 (0 : Int32) (99 : Int32)) (a3 : x50 = F_X8_in G w v x_3 (0 : Int32) (99 : Int32)) (k0 : ¬ (x14 = (0 : Int32))) (k1 : ¬ (x24 = (0 : Int32))) (k2 : ¬ (x37 = (0 : Int32))) (k3 : x50 = (0 : Int32)) : K_X8_mark_e G w v h0 x_0 x_1 x_2 x_3 = K_X8_mark_39 G w h0 v := by
  subst a3; subst a2; subst a1; subst a0; first | rw [K_X8_mark_e, if_neg k0, if_neg k1, if_neg k2, if_pos k3] | simp only [K_X8_mark_e, if_neg k0, if_neg k1, if_neg k2, if_pos k3]
abbrev rm_X8_mark : Room := { frames := 2, cells := 0, slots := 0, locals := 43 }
set_option maxHeartbeats 4000000 in
set_option maxRecDepth 100000 in
theorem ct_X8_mark (l : Launch) (D : va_G) (dA : Nat → ClassId) (G : Gm) (v : Mv) (w : Mw) (hOk : Ok G v w) (h0 : Nat) (S0 : S_X8 G h0) (x_0 : Int32) (x_1 : Int32) (x_2 : Int32) (x_3 : Int32) : CtI l yX8_mark cX8_mark 5 (some .int) rm_X8_mark D dA G [.ref h0, .int x_0, .int x_1, .int x_2, .int x_3] v w (fun r v1 w1 => Ok G v1 w1 ∧ True ∧ True ∧ (w1 = w ∧ (r, v1) = F_X8_mark G w v h0 x_0 x_1 x_2 x_3) ∧ Fr G [103, 1084] v v1) := by
  refine CtI.of RX8 [(0, .ref h0), (1, .int x_0), (2, .int x_1), (3, .int x_2), (4, .int x_3)] (Nat.le_of_ble_eq_true rfl) rfl (by decide) rfl ?_
  intro p e s m args below meth c E hr
  have J39 : K_X8_mark_39 G w h0 v = F_X8_mark G w v h0 x_0 x_1 x_2 x_3 → J p l e rm_X8_mark s m args below meth c 0 0 (MQ below (QcI D dA G (fun r v1 w1 => Ok G v1 w1 ∧ True ∧ True ∧ (w1 = w ∧ (r, v1) = F_X8_mark G w v h0 x_0 x_1 x_2 x_3) ∧ Fr G [103, 1084] v v1)) args s 0 0 (dm G)) D dA G (dm G) s.heap 5 v w [(0, .ref h0)] 39 [] := by
    intro hK
    refine J_aload_n E dX8_mark_39 0 rfl ?_
    refine J_callVI E cal_X8_bad wd999 rfl (S_X8.h S0) [] [] (ct_X8_bad l D dA G v w (hOk) h0 S0) rfl rfl (Nat.le_of_ble_eq_true rfl) ⟨rfl, rfl⟩ ⟨Nat.le_of_ble_eq_true rfl, Nat.le_of_ble_eq_true rfl⟩ dX8_mark_40 (fun x4 v1 w2 p3 => ?_)
    have ew9 : w = w2 := p3.2.2.2.1.1.symm
    subst ew9
    have o5 := p3.1
    have k6 : True := trivial
    have f7 : Fr G [103, 1084] v v1 := Fr.tr Fr.rf (p3.2.2.2.2) (by decide)
    have b8 : Bd x4 (-2) (-2) := p3.2.2.1
    have e9 : x4 = (F_X8_bad G w v h0).1 := congrArg Prod.fst (p3.2.2.2.1).2
    have e10 : v1 = (F_X8_bad G w v h0).2 := congrArg Prod.snd (p3.2.2.2.1).2
    have hK : K_X8_mark_c1 G w h0 v1 x4 = F_X8_mark G w v h0 x_0 x_1 x_2 x_3 := ((kx_X8_mark_1 (e9) (e10)).symm.trans hK)
    exact J_iret E hr dX8_mark_43 ⟨o5, k6, trivial, ⟨⟨rfl, ((kx_X8_mark_2).symm.trans hK)⟩, f7⟩⟩
  have hK : K_X8_mark_e G w v h0 x_0 x_1 x_2 x_3 = F_X8_mark G w v h0 x_0 x_1 x_2 x_3 := rfl
  refine J_aload_n E dX8_mark_0 0 rfl ?_
  refine J_iload_n E dX8_mark_1 1 rfl ?_
  refine J_callVI E cal_X8_isOne wd1120 rfl (S_X8.h S0) [.int x_0] [] (ct_X8_isOne l D dA G v w (hOk) h0 S0 x_0) rfl rfl (Nat.le_of_ble_eq_true rfl) ⟨rfl, rfl⟩ ⟨Nat.le_of_ble_eq_true rfl, Nat.le_of_ble_eq_true rfl⟩ dX8_mark_2 (fun x14 v11 w12 p13 => ?_)
  rw [p13.1, p13.2.1]
  have b15 : Bd x14 0 1 := p13.2.2.1
  have e16 : x14 = F_X8_isOne G w v h0 x_0 := (p13.2.2.2.2)
  refine J_if_eq E 39 dX8_mark_5 (by decide) (fun c17 => ?_) (fun c17 => ?_)
  · have b18 : Bd x14 0 0 := Bd.eq_l c17 b15 (Bd.lit 0 0 (by decide)) 0 0 (by decide)
    exact J.sub [0] rfl (J39 ((kx_X8_mark_3 (e16) (c17)).symm.trans hK))
  · have b19 : Bd x14 1 1 := (Bd.ne_lo c17 b15 (Bd.lit 0 0 (by decide))).w _ _ (by decide)
    have b20 : Bd x_0 0 6 := (p13.2.2.2.1).resolve_left c17
    refine J_iload_n E dX8_mark_8 2 rfl ?_
    refine J_iconst E 1 dX8_mark_9 (by decide) ?_
    refine J_bipush E 9 dX8_mark_10 (by decide) ?_
    refine J_callSI E cal_X8_in wd996 [.int x_1, .int 1, .int 9] [] (ct_X8_in l D dA G v w (hOk) x_1 1 9) rfl rfl (Nat.le_of_ble_eq_true rfl) ⟨rfl, rfl⟩ ⟨Nat.le_of_ble_eq_true rfl, Nat.le_of_ble_eq_true rfl⟩ dX8_mark_12 (fun x24 v21 w22 p23 => ?_)
    rw [p23.1, p23.2.1]
    have b25 : Bd x24 0 1 := p23.2.2.1
    have e26 : x24 = F_X8_in G w v x_1 (1 : Int32) (9 : Int32) := (p23.2.2.2.2.2)
    refine J_if_eq E 39 dX8_mark_15 (by decide) (fun c27 => ?_) (fun c27 => ?_)
    · have b28 : Bd x24 0 0 := Bd.eq_l c27 b25 (Bd.lit 0 0 (by decide)) 0 0 (by decide)
      have g29 : ¬ (1 ≤ x_1 ∧ x_1 ≤ 9) := (p23.2.2.2.2.1).resolve_left (fun h9 => h9 c27)
      exact J.sub [0] rfl (J39 ((kx_X8_mark_4 (e16) (e26) (c17) (c27)).symm.trans hK))
    · have b30 : Bd x24 1 1 := (Bd.ne_lo c27 b25 (Bd.lit 0 0 (by decide))).w _ _ (by decide)
      have g31 := (p23.2.2.2.1).resolve_left c27
      have b32 : Bd x_1 1 I1 := Bd.le_r g31.1 (Bd.lit 1 1 (by decide)) (Bd.any x_1) 1 (by decide)
      have b33 : Bd x_1 1 9 := Bd.le_l g31.2 b32 (Bd.lit 9 9 (by decide)) 9 (by decide)
      refine J_iload_n E dX8_mark_18 3 rfl ?_
      refine J_iconst E 0 dX8_mark_19 (by decide) ?_
      refine J_bipush E 99 dX8_mark_20 (by decide) ?_
      refine J_callSI E cal_X8_in wd996 [.int x_2, .int 0, .int 99] [] (ct_X8_in l D dA G v w (hOk) x_2 0 99) rfl rfl (Nat.le_of_ble_eq_true rfl) ⟨rfl, rfl⟩ ⟨Nat.le_of_ble_eq_true rfl, Nat.le_of_ble_eq_true rfl⟩ dX8_mark_22 (fun x37 v34 w35 p36 => ?_)
      rw [p36.1, p36.2.1]
      have b38 : Bd x37 0 1 := p36.2.2.1
      have e39 : x37 = F_X8_in G w v x_2 (0 : Int32) (99 : Int32) := (p36.2.2.2.2.2)
      refine J_if_eq E 39 dX8_mark_25 (by decide) (fun c40 => ?_) (fun c40 => ?_)
      · have b41 : Bd x37 0 0 := Bd.eq_l c40 b38 (Bd.lit 0 0 (by decide)) 0 0 (by decide)
        have g42 : ¬ (0 ≤ x_2 ∧ x_2 ≤ 99) := (p36.2.2.2.2.1).resolve_left (fun h9 => h9 c40)
        exact J.sub [0] rfl (J39 ((kx_X8_mark_5 (e16) (e26) (e39) (c17) (c27) (c40)).symm.trans hK))
      · have b43 : Bd x37 1 1 := (Bd.ne_lo c40 b38 (Bd.lit 0 0 (by decide))).w _ _ (by decide)
        have g44 := (p36.2.2.2.1).resolve_left c40
        have b45 : Bd x_2 0 I1 := Bd.le_r g44.1 (Bd.lit 0 0 (by decide)) (Bd.any x_2) 0 (by decide)
        have b46 : Bd x_2 0 99 := Bd.le_l g44.2 b45 (Bd.lit 99 99 (by decide)) 99 (by decide)
        refine J_iload E dX8_mark_28 4 rfl ?_
        refine J_iconst E 0 dX8_mark_30 (by decide) ?_
        refine J_bipush E 99 dX8_mark_31 (by decide) ?_
        refine J_callSI E cal_X8_in wd996 [.int x_3, .int 0, .int 99] [] (ct_X8_in l D dA G v w (hOk) x_3 0 99) rfl rfl (Nat.le_of_ble_eq_true rfl) ⟨rfl, rfl⟩ ⟨Nat.le_of_ble_eq_true rfl, Nat.le_of_ble_eq_true rfl⟩ dX8_mark_33 (fun x50 v47 w48 p49 => ?_)
        rw [p49.1, p49.2.1]
        have b51 : Bd x50 0 1 := p49.2.2.1
        have e52 : x50 = F_X8_in G w v x_3 (0 : Int32) (99 : Int32) := (p49.2.2.2.2.2)
        refine J_if_ne E 44 dX8_mark_36 (by decide) (fun c53 => ?_) (fun c53 => ?_)
        · have b54 : Bd x50 1 1 := (Bd.ne_lo c53 b51 (Bd.lit 0 0 (by decide))).w _ _ (by decide)
          have g55 := (p49.2.2.2.1).resolve_left c53
          have b56 : Bd x_3 0 I1 := Bd.le_r g55.1 (Bd.lit 0 0 (by decide)) (Bd.any x_3) 0 (by decide)
          have b57 : Bd x_3 0 99 := Bd.le_l g55.2 b56 (Bd.lit 99 99 (by decide)) 99 (by decide)
          refine J_aload_n E dX8_mark_44 0 rfl ?_
          refine J_getR E in_X8 rfl (S_X8.h S0) 1 (by decide) wd936 rfl dX8_mark_45 ?_
          refine J_iconst E 4 dX8_mark_48 (by decide) ?_
          refine J_iald1 E (S_X8.f1 S0) (Bd.in (Bd.lit 4 4 (by decide)) (by decide)) dX8_mark_49 (fun x58 e59 => ?_)
          have b60 : Bd x58 0 6 := Bd.e (Ok.ld hOk (S_X8.f1 S0) (Bd.lit 4 4 (by decide)) 4 1 0 6 (by decide) (by decide +kernel)) e59
          have e61 : x58 = v (rf G h0 1) 4 := by rw [e59, Bd.ix (Bd.lit 4 4 (by decide)) 4 rfl]
          refine J_bipush E 6 dX8_mark_50 (by decide) ?_
          refine J_icmp_ne E 62 dX8_mark_52 (by decide) (fun c62 => ?_) (fun c62 => ?_)
          · have b63 : Bd x58 0 5 := (Bd.ne_hi c62 b60 (Bd.lit 6 6 (by decide))).w _ _ (by decide)
            refine J_aload_n E dX8_mark_62 0 rfl ?_
            refine J_bipush E 94 dX8_mark_63 (by decide) ?_
            refine J_iconst E 4 dX8_mark_65 (by decide) ?_
            refine J_iload_n E dX8_mark_66 1 rfl ?_
            refine J_iload_n E dX8_mark_67 2 rfl ?_
            refine J_iload_n E dX8_mark_68 3 rfl ?_
            refine J_iload E dX8_mark_69 4 rfl ?_
            refine J_callVI E cal_X8_tell4 wd1240 rfl (S_X8.h S0) [.int 94, .int 4, .int x_0, .int x_1, .int x_2, .int x_3] [] (ct_X8_tell4_94_4 l D dA G v w (hOk) h0 S0 x_0 b20 x_1 b33 x_2 b46 x_3 b57 x58 (e61) b63) rfl rfl (Nat.le_of_ble_eq_true rfl) ⟨rfl, rfl⟩ ⟨Nat.le_of_ble_eq_true rfl, Nat.le_of_ble_eq_true rfl⟩ dX8_mark_71 (fun x67 v64 w65 p66 => ?_)
            have ew9 : w = w65 := p66.2.2.2.1.1.symm
            subst ew9
            have o68 := p66.1
            have k69 : True := trivial
            have f70 : Fr G [103, 1084] v v64 := Fr.tr Fr.rf (p66.2.2.2.2) (by decide)
            have b71 : Bd x67 1 6 := p66.2.2.1
            have e72 : x67 = (F_X8_tell4_94_4 G w v h0 x_0 x_1 x_2 x_3).1 := congrArg Prod.fst (p66.2.2.2.1).2
            have e73 : v64 = (F_X8_tell4_94_4 G w v h0 x_0 x_1 x_2 x_3).2 := congrArg Prod.snd (p66.2.2.2.1).2
            have hK : K_X8_mark_c2 G w h0 v64 x67 = F_X8_mark G w v h0 x_0 x_1 x_2 x_3 := ((kx_X8_mark_6 (e16) (e26) (e39) (e52) (e59) (e72) (e73) (c17) (c27) (c40) (c53) (c62)).symm.trans hK)
            exact J_iret E hr dX8_mark_74 ⟨o68, k69, trivial, ⟨⟨rfl, ((kx_X8_mark_7).symm.trans hK)⟩, f70⟩⟩
          · have b74 : Bd x58 6 6 := Bd.eq_l c62 b60 (Bd.lit 6 6 (by decide)) 6 6 (by decide)
            refine J_aload_n E dX8_mark_55 0 rfl ?_
            refine J_callVI E cal_X8_full wd1003 rfl (S_X8.h S0) [] [] (ct_X8_full l D dA G v w (hOk) h0 S0) rfl rfl (Nat.le_of_ble_eq_true rfl) ⟨rfl, rfl⟩ ⟨Nat.le_of_ble_eq_true rfl, Nat.le_of_ble_eq_true rfl⟩ dX8_mark_56 (fun x78 v75 w76 p77 => ?_)
            have ew9 : w = w76 := p77.2.2.2.1.1.symm
            subst ew9
            have o79 := p77.1
            have k80 : True := trivial
            have f81 : Fr G [103, 1084] v v75 := Fr.tr Fr.rf (p77.2.2.2.2) (by decide)
            have b82 : Bd x78 (-4) (-4) := p77.2.2.1
            have e83 : x78 = (F_X8_full G w v h0).1 := congrArg Prod.fst (p77.2.2.2.1).2
            have e84 : v75 = (F_X8_full G w v h0).2 := congrArg Prod.snd (p77.2.2.2.1).2
            have hK : K_X8_mark_c3 G w h0 v75 x78 = F_X8_mark G w v h0 x_0 x_1 x_2 x_3 := ((kx_X8_mark_8 (e16) (e26) (e39) (e52) (e59) (e83) (e84) (c17) (c27) (c40) (c53) (c62)).symm.trans hK)
            refine J_goto E 74 dX8_mark_59 (by decide) ?_
            exact J_iret E hr dX8_mark_74 ⟨o79, k80, trivial, ⟨⟨rfl, ((kx_X8_mark_9).symm.trans hK)⟩, f81⟩⟩
        · have b85 : Bd x50 0 0 := Bd.eq_l c53 b51 (Bd.lit 0 0 (by decide)) 0 0 (by decide)
          have g86 : ¬ (0 ≤ x_3 ∧ x_3 ≤ 99) := (p49.2.2.2.2.1).resolve_left (fun h9 => h9 c53)
          exact J.sub [0] rfl (J39 ((kx_X8_mark_10 (e16) (e26) (e39) (e52) (c17) (c27) (c40) (c53)).symm.trans hK))

def K_X8_forget_57 (G : Gm) (w : Mw) (h0 : Nat) : Nat → Mv → Int32 → Int32 → Int32 → Int32 × Mv
  | 0, _, _, _, _ => ((0 : Int32), (fun _ _ => 0 : Mv))
  | n57 + 1, v1, x5, x7, x9 =>
    if ((4 : Int32) * x5) ≤ x9 then ((x5, v1)) else ((K_X8_forget_57 G w h0 n57) (stv v1 (rf G h0 1) (Int32.toNatClampNeg (x7 + x9)) (0 : Int32)) x5 x7 (x9 + (1 : Int32)))
def K_X8_forget_44 (G : Gm) (w : Mw) (h0 : Nat) (v : Mv) (x_0 : Int32) (x29 : Int32) (x31 : Int32) : Int32 × Mv :=
  K_X8_forget_57 G w h0 61 (stv v (rf G h0 1) (Int32.toNatClampNeg ((2 : Int32) + x_0)) (0 : Int32)) x29 x31 (0 : Int32)
def K_X8_forget_c1 (G : Gm) (w : Mw) (h0 : Nat) (v66 : Mv) (x69 : Int32) : Int32 × Mv :=
  (x69, v66)
def K_X8_forget_e (G : Gm) (w : Mw) (v : Mv) (h0 : Nat) (x_0 : Int32) : Int32 × Mv :=
  if (F_X8_in G w v x_0 (0 : Int32) (2 : Int32)) = (0 : Int32) then (K_X8_forget_c1 G w h0 ((F_X8_bad G w v h0).2) ((F_X8_bad G w v h0).1)) else (if x_0 = (0 : Int32) then (K_X8_forget_44 G w h0 v x_0 (v (rf G h0 1) (Int32.toNatClampNeg ((2 : Int32) + x_0))) (50 : Int32)) else (if x_0 = (1 : Int32) then (K_X8_forget_44 G w h0 v x_0 (v (rf G h0 1) (Int32.toNatClampNeg ((2 : Int32) + x_0))) (70 : Int32)) else (K_X8_forget_44 G w h0 v x_0 (v (rf G h0 1) (Int32.toNatClampNeg ((2 : Int32) + x_0))) (94 : Int32))))
def F_X8_forget (G : Gm) (w : Mw) (v : Mv) (h0 : Nat) (x_0 : Int32) : Int32 × Mv := K_X8_forget_e G w v h0 x_0
set_option maxRecDepth 100000 in
theorem kx_X8_forget_1 {G : Gm} {w : Mw} {h0 : Nat} {n57 : Nat} {v1 : Mv} {x5 : Int32} {x7 : Int32} {x9 : Int32} {x11 : Int32} (a0 : x11 = (4 : Int32) * x5) (k0 : x11 ≤ x9) : K_X8_forget_57 G w h0 (n57 + 1) v1 x5 x7 x9 = (x5, v1) := by
  subst a0; first | rw [K_X8_forget_57, if_pos k0] | simp only [K_X8_forget_57, if_pos k0]
set_option maxRecDepth 100000 in
theorem kx_X8_forget_2 {G : Gm} {w : Mw} {h0 : Nat} {n57 : Nat} {v1 : Mv} {x5 : Int32} {x7 : Int32} {x9 : Int32} {v20 : Mv} {x25 : Int32} {x17 : Int32} {x11 : Int32} (a0 : x11 = (4 : Int32) * x5) (a1 : x17 = x7 + x9) (a2 : v20 = stv v1 (rf G h0 1) (Int32.toNatClampNeg x17) (0 : Int32)) (a3 : x25 = x9 + (1 : Int32)) (k0 : ¬ (x11 ≤ x9)) : K_X8_forget_57 G w h0 (n57 + 1) v1 x5 x7 x9 = (K_X8_forget_57 G w h0 n57) v20 x5 x7 x25 := by
  subst a3; subst a2; subst a1; subst a0; first | rw [K_X8_forget_57, if_neg k0] | simp only [K_X8_forget_57, if_neg k0]
set_option maxRecDepth 100000 in
theorem kx_X8_forget_3 {G : Gm} {w : Mw} {h0 : Nat} {v : Mv} {x_0 : Int32} {x29 : Int32} {x31 : Int32} {v36 : Mv} {x33 : Int32} (a0 : x33 = (2 : Int32) + x_0) (a1 : v36 = stv v (rf G h0 1) (Int32.toNatClampNeg x33) (0 : Int32))  : K_X8_forget_44 G w h0 v x_0 x29 x31 = K_X8_forget_57 G w h0 61 v36 x29 x31 (0 : Int32) := by
  subst a1; subst a0; first | rw [K_X8_forget_44] | simp only [K_X8_forget_44]
set_option maxRecDepth 100000 in
theorem kx_X8_forget_4 {G : Gm} {w : Mw} {v : Mv} {h0 : Nat} {x_0 : Int32} {x55 : Int32} {x52 : Int32} {x44 : Int32} (a0 : x44 = F_X8_in G w v x_0 (0 : Int32) (2 : Int32)) (a1 : x52 = (2 : Int32) + x_0) (a2 : x55 = v (rf G h0 1) (Int32.toNatClampNeg x52)) (k0 : ¬ (x44 = (0 : Int32))) (k1 : ¬ (x_0 = (0 : Int32))) (k2 : ¬ (x_0 = (1 : Int32))) : K_X8_forget_e G w v h0 x_0 = K_X8_forget_44 G w h0 v x_0 x55 (94 : Int32) := by
  subst a2; subst a1; subst a0; first | rw [K_X8_forget_e, if_neg k0, if_neg k1, if_neg k2] | simp only [K_X8_forget_e, if_neg k0, if_neg k1, if_neg k2]
set_option maxRecDepth 100000 in
theorem kx_X8_forget_5 {G : Gm} {w : Mw} {v : Mv} {h0 : Nat} {x_0 : Int32} {x55 : Int32} {x52 : Int32} {x44 : Int32} (a0 : x44 = F_X8_in G w v x_0 (0 : Int32) (2 : Int32)) (a1 : x52 = (2 : Int32) + x_0) (a2 : x55 = v (rf G h0 1) (Int32.toNatClampNeg x52)) (k0 : ¬ (x44 = (0 : Int32))) (k1 : ¬ (x_0 = (0 : Int32))) (k2 : x_0 = (1 : Int32)) : K_X8_forget_e G w v h0 x_0 = K_X8_forget_44 G w h0 v x_0 x55 (70 : Int32) := by
  subst a2; subst a1; subst a0; first | rw [K_X8_forget_e, if_neg k0, if_neg k1, if_pos k2] | simp only [K_X8_forget_e, if_neg k0, if_neg k1, if_pos k2]
set_option maxRecDepth 100000 in
theorem kx_X8_forget_6 {G : Gm} {w : Mw} {v : Mv} {h0 : Nat} {x_0 : Int32} {x55 : Int32} {x52 : Int32} {x44 : Int32} (a0 : x44 = F_X8_in G w v x_0 (0 : Int32) (2 : Int32)) (a1 : x52 = (2 : Int32) + x_0) (a2 : x55 = v (rf G h0 1) (Int32.toNatClampNeg x52)) (k0 : ¬ (x44 = (0 : Int32))) (k1 : x_0 = (0 : Int32)) : K_X8_forget_e G w v h0 x_0 = K_X8_forget_44 G w h0 v x_0 x55 (50 : Int32) := by
  subst a2; subst a1; subst a0; first | rw [K_X8_forget_e, if_neg k0, if_pos k1] | simp only [K_X8_forget_e, if_neg k0, if_pos k1]
set_option maxRecDepth 100000 in
theorem kx_X8_forget_7 {G : Gm} {w : Mw} {v : Mv} {h0 : Nat} {x_0 : Int32} {v66 : Mv} {x69 : Int32} {x44 : Int32} (a0 : x44 = F_X8_in G w v x_0 (0 : Int32) (2 : Int32)) (a1 : x69 = (F_X8_bad G w v h0).1) (a2 : v66 = (F_X8_bad G w v h0).2) (k0 : x44 = (0 : Int32)) : K_X8_forget_e G w v h0 x_0 = K_X8_forget_c1 G w h0 v66 x69 := by
  subst a2; subst a1; subst a0; first | rw [K_X8_forget_e, if_pos k0] | simp only [K_X8_forget_e, if_pos k0]
set_option maxRecDepth 100000 in
theorem kx_X8_forget_8 {G : Gm} {w : Mw} {h0 : Nat} {v66 : Mv} {x69 : Int32}   : K_X8_forget_c1 G w h0 v66 x69 = (x69, v66) := by
  first | rw [K_X8_forget_c1] | simp only [K_X8_forget_c1]
abbrev rm_X8_forget : Room := { frames := 1, cells := 0, slots := 0, locals := 22 }
set_option maxHeartbeats 4000000 in
set_option maxRecDepth 100000 in
theorem ct_X8_forget (l : Launch) (D : va_G) (dA : Nat → ClassId) (G : Gm) (v : Mv) (w : Mw) (hOk : Ok G v w) (h0 : Nat) (S0 : S_X8 G h0) (x_0 : Int32) : CtI l yX8_forget cX8_forget 5 (some .int) rm_X8_forget D dA G [.ref h0, .int x_0] v w (fun r v1 w1 => Ok G v1 w1 ∧ True ∧ True ∧ (w1 = w ∧ (r, v1) = F_X8_forget G w v h0 x_0) ∧ Fr G [103, 1084] v v1) := by
  refine CtI.of RX8 [(0, .ref h0), (1, .int x_0)] (Nat.le_of_ble_eq_true rfl) rfl (by decide) rfl ?_
  intro p e s m args below meth c E hr
  have J57 : ∀ n57 : Nat, ∀ (v1 : Mv), Ok G v1 w → True → Fr G [103, 1084] v v1 → ∀ x5 : Int32, Bd x5 0 6 → ∀ x7 : Int32, Bd x7 50 94 → ∀ x9 : Int32, Bd x9 0 60 → Mu x9 60 n57 → K_X8_forget_57 G w h0 n57 v1 x5 x7 x9 = F_X8_forget G w v h0 x_0 → J p l e rm_X8_forget s m args below meth c 0 0 (MQ below (QcI D dA G (fun r v1 w1 => Ok G v1 w1 ∧ True ∧ True ∧ (w1 = w ∧ (r, v1) = F_X8_forget G w v h0 x_0) ∧ Fr G [103, 1084] v v1)) args s 0 0 (dm G)) D dA G (dm G) s.heap 5 v1 w [(0, .ref h0), (2, .int x5), (3, .int x7), (4, .int x9)] 57 [] := by
    intro n57
    induction n57 with
    | zero => intro v1 o2 k3 f4 x5 b6 x7 b8 x9 b10 hm hK; exact hm.zero b10 (by decide)
    | succ n57 ih57 =>
      intro v1 o2 k3 f4 x5 b6 x7 b8 x9 b10 hmu57 hK
      refine J_iload E dX8_forget_57 3 rfl ?_
      refine J_iconst E 4 dX8_forget_59 (by decide) ?_
      refine J_iload_n E dX8_forget_60 1 rfl ?_
      refine J_imul E dX8_forget_61 (fun x11 e12 => ?_)
      have b13 : Bd x11 0 24 := Bd.mul e12 (Bd.lit 4 4 (by decide)) b6 (by decide)
      refine J_icmp_ge E 81 dX8_forget_62 (by decide) (fun c14 => ?_) (fun c14 => ?_)
      · refine J_iload_n E dX8_forget_81 1 rfl ?_
        exact J_iret E hr dX8_forget_82 ⟨o2, k3, trivial, ⟨⟨rfl, ((kx_X8_forget_1 (e12) (c14)).symm.trans hK)⟩, f4⟩⟩
      · have b15 : Bd x9 0 23 := Bd.lt_l (nle c14) b10 b13 23 (by decide)
        have b16 : Bd x11 1 24 := Bd.lt_r (nle c14) b10 b13 1 (by decide)
        refine J_aload_n E dX8_forget_65 0 rfl ?_
        refine J_getR E in_X8 rfl (S_X8.h S0) 1 (by decide) wd936 rfl dX8_forget_66 ?_
        refine J_iload_n E dX8_forget_69 2 rfl ?_
        refine J_iload E dX8_forget_70 3 rfl ?_
        refine J_iadd E dX8_forget_72 (fun x17 e18 => ?_)
        have b19 : Bd x17 50 117 := (Bd.add e18 b8 b15 (by decide)).w _ _ (by decide)
        refine J_iconst E 0 dX8_forget_73 (by decide) ?_
        refine J_iast1 E (S_X8.f1 S0) (Bd.in b19 (by decide)) dX8_forget_74 (fun v20 e21 => ?_)
        have o22 : Ok G v20 w := by rw [e21]; exact Ok.sw o2 (S_X8.f1 S0) b19 (Bd.lit 0 0 (by decide)) 50 68 (by decide) (by decide +kernel)
        have k23 : True := trivial
        have f24 : Fr G [103, 1084] v v20 := Fr.st f4 e21 (S_X8.f1 S0) rfl
        refine J_iinc E 3 1 (fun z => [(4, .int z), (0, .ref h0), (2, .int x5), (3, .int x7)]) dX8_forget_75 rfl (by decide) (by decide) (fun _ => rfl) (fun x25 e26 => ?_)
        have b27 : Bd x25 1 24 := (Bd.add e26 b15 (Bd.lit 1 1 (by decide)) (by decide)).w _ _ (by decide)
        refine J_goto E 57 dX8_forget_78 (by decide) ?_
        exact J.sub [1, 2, 3, 0] rfl (ih57 v20 (o22) (k23) f24 x5 b6 x7 b8 x25 (b27.w 0 60 (by decide)) (Mu.step hmu57 e26 b15 (Bd.lit 1 1 (by decide)) (by decide)) ((kx_X8_forget_2 (e12) (e18) (e21) (e26) (c14)).symm.trans hK))
  have J44 : Bd x_0 0 2 → ∀ x29 : Int32, Bd x29 0 6 → ∀ x31 : Int32, Bd x31 50 94 → K_X8_forget_44 G w h0 v x_0 x29 x31 = F_X8_forget G w v h0 x_0 → J p l e rm_X8_forget s m args below meth c 0 0 (MQ below (QcI D dA G (fun r v1 w1 => Ok G v1 w1 ∧ True ∧ True ∧ (w1 = w ∧ (r, v1) = F_X8_forget G w v h0 x_0) ∧ Fr G [103, 1084] v v1)) args s 0 0 (dm G)) D dA G (dm G) s.heap 5 v w [(0, .ref h0), (1, .int x_0), (2, .int x29)] 44 [.int x31] := by
    intro b28 x29 b30 x31 b32 hK
    refine J_istore_n E [(3, .int x31), (0, .ref h0), (1, .int x_0), (2, .int x29)] dX8_forget_44 rfl (by decide) rfl ?_
    refine J_aload_n E dX8_forget_45 1 rfl ?_
    refine J_getR E in_X8 rfl (S_X8.h S0) 1 (by decide) wd936 rfl dX8_forget_46 ?_
    refine J_iconst E 2 dX8_forget_49 (by decide) ?_
    refine J_iload_n E dX8_forget_50 2 rfl ?_
    refine J_iadd E dX8_forget_51 (fun x33 e34 => ?_)
    have b35 : Bd x33 2 4 := (Bd.add e34 (Bd.lit 2 2 (by decide)) b28 (by decide)).w _ _ (by decide)
    refine J_iconst E 0 dX8_forget_52 (by decide) ?_
    refine J_iast1 E (S_X8.f1 S0) (Bd.in b35 (by decide)) dX8_forget_53 (fun v36 e37 => ?_)
    have o38 : Ok G v36 w := by rw [e37]; exact Ok.sw hOk (S_X8.f1 S0) b35 (Bd.lit 0 0 (by decide)) 2 3 (by decide) (by decide +kernel)
    have k39 : True := trivial
    have f40 : Fr G [103, 1084] v v36 := Fr.st Fr.rf e37 (S_X8.f1 S0) rfl
    refine J_iconst E 0 dX8_forget_54 (by decide) ?_
    refine J_istore E [(4, .int 0), (3, .int x31), (0, .ref h0), (1, .int x_0), (2, .int x29)] dX8_forget_55 (by decide) rfl ?_
    exact J.sub [2, 4, 1, 0] rfl (J57 61 v36 (o38) (k39) f40 x29 b30 x31 b32 0 ((Bd.lit 0 0 (by decide)).w 0 60 (by decide)) (Mu.start _ (Bd.lit 0 0 (by decide)) (by decide)) ((kx_X8_forget_3 (e34) (e37)).symm.trans hK))
  have hK : K_X8_forget_e G w v h0 x_0 = F_X8_forget G w v h0 x_0 := rfl
  refine J_iload_n E dX8_forget_0 1 rfl ?_
  refine J_iconst E 0 dX8_forget_1 (by decide) ?_
  refine J_iconst E 2 dX8_forget_2 (by decide) ?_
  refine J_callSI E cal_X8_in wd996 [.int x_0, .int 0, .int 2] [] (ct_X8_in l D dA G v w (hOk) x_0 0 2) rfl rfl (Nat.le_of_ble_eq_true rfl) ⟨rfl, rfl⟩ ⟨Nat.le_of_ble_eq_true rfl, Nat.le_of_ble_eq_true rfl⟩ dX8_forget_3 (fun x44 v41 w42 p43 => ?_)
  rw [p43.1, p43.2.1]
  have b45 : Bd x44 0 1 := p43.2.2.1
  have e46 : x44 = F_X8_in G w v x_0 (0 : Int32) (2 : Int32) := (p43.2.2.2.2.2)
  refine J_if_ne E 14 dX8_forget_6 (by decide) (fun c47 => ?_) (fun c47 => ?_)
  · have b48 : Bd x44 1 1 := (Bd.ne_lo c47 b45 (Bd.lit 0 0 (by decide))).w _ _ (by decide)
    have g49 := (p43.2.2.2.1).resolve_left c47
    have b50 : Bd x_0 0 I1 := Bd.le_r g49.1 (Bd.lit 0 0 (by decide)) (Bd.any x_0) 0 (by decide)
    have b51 : Bd x_0 0 2 := Bd.le_l g49.2 b50 (Bd.lit 2 2 (by decide)) 2 (by decide)
    refine J_aload_n E dX8_forget_14 0 rfl ?_
    refine J_getR E in_X8 rfl (S_X8.h S0) 1 (by decide) wd936 rfl dX8_forget_15 ?_
    refine J_iconst E 2 dX8_forget_18 (by decide) ?_
    refine J_iload_n E dX8_forget_19 1 rfl ?_
    refine J_iadd E dX8_forget_20 (fun x52 e53 => ?_)
    have b54 : Bd x52 2 4 := (Bd.add e53 (Bd.lit 2 2 (by decide)) b51 (by decide)).w _ _ (by decide)
    refine J_iald1 E (S_X8.f1 S0) (Bd.in b54 (by decide)) dX8_forget_21 (fun x55 e56 => ?_)
    have b57 : Bd x55 0 6 := Bd.e (Ok.ld hOk (S_X8.f1 S0) b54 2 3 0 6 (by decide) (by decide +kernel)) e56
    refine J_istore_n E [(2, .int x55), (0, .ref h0), (1, .int x_0)] dX8_forget_22 rfl (by decide) rfl ?_
    refine J_iload_n E dX8_forget_23 2 rfl ?_
    refine J_if_ne E 32 dX8_forget_24 (by decide) (fun c58 => ?_) (fun c58 => ?_)
    · have b59 : Bd x_0 1 2 := (Bd.ne_lo c58 b51 (Bd.lit 0 0 (by decide))).w _ _ (by decide)
      refine J_iload_n E dX8_forget_32 2 rfl ?_
      refine J_iconst E 1 dX8_forget_33 (by decide) ?_
      refine J_icmp_ne E 42 dX8_forget_34 (by decide) (fun c60 => ?_) (fun c60 => ?_)
      · have b61 : Bd x_0 2 2 := (Bd.ne_lo c60 b59 (Bd.lit 1 1 (by decide))).w _ _ (by decide)
        refine J_bipush E 94 dX8_forget_42 (by decide) ?_
        exact J.sub [1, 2, 0] rfl (J44 (b61.w 0 2 (by decide)) x55 b57 94 ((Bd.lit 94 94 (by decide)).w 50 94 (by decide)) ((kx_X8_forget_4 (e46) (e53) (e56) (c47) (c58) (c60)).symm.trans hK))
      · have b62 : Bd x_0 1 1 := Bd.eq_l c60 b59 (Bd.lit 1 1 (by decide)) 1 1 (by decide)
        refine J_bipush E 70 dX8_forget_37 (by decide) ?_
        refine J_goto E 44 dX8_forget_39 (by decide) ?_
        exact J.sub [1, 2, 0] rfl (J44 (b62.w 0 2 (by decide)) x55 b57 70 ((Bd.lit 70 70 (by decide)).w 50 94 (by decide)) ((kx_X8_forget_5 (e46) (e53) (e56) (c47) (c58) (c60)).symm.trans hK))
    · have b63 : Bd x_0 0 0 := Bd.eq_l c58 b51 (Bd.lit 0 0 (by decide)) 0 0 (by decide)
      refine J_bipush E 50 dX8_forget_27 (by decide) ?_
      refine J_goto E 44 dX8_forget_29 (by decide) ?_
      exact J.sub [1, 2, 0] rfl (J44 (b63.w 0 2 (by decide)) x55 b57 50 ((Bd.lit 50 50 (by decide)).w 50 94 (by decide)) ((kx_X8_forget_6 (e46) (e53) (e56) (c47) (c58)).symm.trans hK))
  · have b64 : Bd x44 0 0 := Bd.eq_l c47 b45 (Bd.lit 0 0 (by decide)) 0 0 (by decide)
    have g65 : ¬ (0 ≤ x_0 ∧ x_0 ≤ 2) := (p43.2.2.2.2.1).resolve_left (fun h9 => h9 c47)
    refine J_aload_n E dX8_forget_9 0 rfl ?_
    refine J_callVI E cal_X8_bad wd999 rfl (S_X8.h S0) [] [] (ct_X8_bad l D dA G v w (hOk) h0 S0) rfl rfl (Nat.le_of_ble_eq_true rfl) ⟨rfl, rfl⟩ ⟨Nat.le_of_ble_eq_true rfl, Nat.le_of_ble_eq_true rfl⟩ dX8_forget_10 (fun x69 v66 w67 p68 => ?_)
    have ew9 : w = w67 := p68.2.2.2.1.1.symm
    subst ew9
    have o70 := p68.1
    have k71 : True := trivial
    have f72 : Fr G [103, 1084] v v66 := Fr.tr Fr.rf (p68.2.2.2.2) (by decide)
    have b73 : Bd x69 (-2) (-2) := p68.2.2.1
    have e74 : x69 = (F_X8_bad G w v h0).1 := congrArg Prod.fst (p68.2.2.2.1).2
    have e75 : v66 = (F_X8_bad G w v h0).2 := congrArg Prod.snd (p68.2.2.2.1).2
    have hK : K_X8_forget_c1 G w h0 v66 x69 = F_X8_forget G w v h0 x_0 := ((kx_X8_forget_7 (e46) (e74) (e75) (c47)).symm.trans hK)
    exact J_iret E hr dX8_forget_13 ⟨o70, k71, trivial, ⟨⟨rfl, ((kx_X8_forget_8).symm.trans hK)⟩, f72⟩⟩

def K_X8_kindsOf_175 (G : Gm) (w : Mw) (h0 : Nat) (rec18 : Mv → Int32 → Int32 → Int32 → Int32 → Int32 → Int32) (v : Mv) (x_0 : Int32) (x_1 : Int32) (x5 : Int32) (x7 : Int32) (x13 : Int32) (x15 : Int32) : Int32 :=
  rec18 v x_0 x_1 (x15 ||| x13) x5 (x7 + (1 : Int32))
def K_X8_kindsOf_153 (G : Gm) (w : Mw) (h0 : Nat) (rec18 : Mv → Int32 → Int32 → Int32 → Int32 → Int32 → Int32) (rec30 : Mv → Int32 → Int32 → Int32 → Int32 → Int32 → Int32 → Int32 → Int32) (v : Mv) (x_0 : Int32) (x_1 : Int32) (x3 : Int32) (x5 : Int32) (x7 : Int32) (x30 : Int32) (x38 : Int32) : Int32 :=
  rec30 v x_0 x_1 x3 x5 x7 x38 (x30 + (1 : Int32))
def K_X8_kindsOf_152 (G : Gm) (w : Mw) (h0 : Nat) (rec18 : Mv → Int32 → Int32 → Int32 → Int32 → Int32 → Int32) (rec30 : Mv → Int32 → Int32 → Int32 → Int32 → Int32 → Int32 → Int32 → Int32) (v : Mv) (x_0 : Int32) (x_1 : Int32) (x3 : Int32) (x5 : Int32) (x7 : Int32) (x30 : Int32) : Int32 :=
  K_X8_kindsOf_153 G w h0 rec18 rec30 v x_0 x_1 x3 x5 x7 x30 (0 : Int32)
def K_X8_kindsOf_148 (G : Gm) (w : Mw) (h0 : Nat) (rec18 : Mv → Int32 → Int32 → Int32 → Int32 → Int32 → Int32) (rec30 : Mv → Int32 → Int32 → Int32 → Int32 → Int32 → Int32 → Int32 → Int32) (v : Mv) (x_0 : Int32) (x_1 : Int32) (x3 : Int32) (x5 : Int32) (x7 : Int32) (x30 : Int32) : Int32 :=
  K_X8_kindsOf_153 G w h0 rec18 rec30 v x_0 x_1 x3 x5 x7 x30 (1 : Int32)
def K_X8_kindsOf_106 (G : Gm) (w : Mw) (h0 : Nat) (rec18 : Mv → Int32 → Int32 → Int32 → Int32 → Int32 → Int32) (rec30 : Mv → Int32 → Int32 → Int32 → Int32 → Int32 → Int32 → Int32 → Int32) (v : Mv) (x_0 : Int32) (x_1 : Int32) (x3 : Int32) (x5 : Int32) (x7 : Int32) (x28 : Int32) (x30 : Int32) (x62 : Int32) : Int32 :=
  if x28 = (0 : Int32) then (K_X8_kindsOf_152 G w h0 rec18 rec30 v x_0 x_1 x3 x5 x7 x30) else (if (v (rf G h0 1) (Int32.toNatClampNeg (x5 + ((4 : Int32) * x30)))) = x_0 then (if x62 = (v (rf G h0 1) (Int32.toNatClampNeg ((x5 + ((4 : Int32) * x30)) + (3 : Int32)))) then (K_X8_kindsOf_148 G w h0 rec18 rec30 v x_0 x_1 x3 x5 x7 x30) else (K_X8_kindsOf_152 G w h0 rec18 rec30 v x_0 x_1 x3 x5 x7 x30)) else (K_X8_kindsOf_148 G w h0 rec18 rec30 v x_0 x_1 x3 x5 x7 x30))
def K_X8_kindsOf_45 (G : Gm) (w : Mw) (h0 : Nat) (rec18 : Mv → Int32 → Int32 → Int32 → Int32 → Int32 → Int32) (rec30 : Mv → Int32 → Int32 → Int32 → Int32 → Int32 → Int32 → Int32 → Int32) (v : Mv) (x_0 : Int32) (x_1 : Int32) (x3 : Int32) (x5 : Int32) (x7 : Int32) (x28 : Int32) (x30 : Int32) (x95 : Int32) : Int32 :=
  if (v (rf G h0 1) (Int32.toNatClampNeg x95)) ≤ x30 then (if x28 = (0 : Int32) then (K_X8_kindsOf_175 G w h0 rec18 v x_0 x_1 x5 x7 (0 : Int32) x3) else (K_X8_kindsOf_175 G w h0 rec18 v x_0 x_1 x5 x7 ((1 : Int32) <<< (x7 &&& 31)) x3)) else (if x_1 = (0 : Int32) then (K_X8_kindsOf_106 G w h0 rec18 rec30 v x_0 x_1 x3 x5 x7 x28 x30 (F_X8_liftsBy G w v x7 (v (rf G h0 1) (Int32.toNatClampNeg ((x5 + ((4 : Int32) * x30)) + (1 : Int32)))) (v (rf G h0 1) (Int32.toNatClampNeg ((x5 + ((4 : Int32) * x30)) + (2 : Int32)))))) else (K_X8_kindsOf_106 G w h0 rec18 rec30 v x_0 x_1 x3 x5 x7 x28 x30 (F_X8_weighsBy G w v x7 (v (rf G h0 1) (Int32.toNatClampNeg ((x5 + ((4 : Int32) * x30)) + (1 : Int32)))) (v (rf G h0 1) (Int32.toNatClampNeg ((x5 + ((4 : Int32) * x30)) + (2 : Int32)))))))
def K_X8_kindsOf_30 (G : Gm) (w : Mw) (h0 : Nat) (rec18 : Mv → Int32 → Int32 → Int32 → Int32 → Int32 → Int32) : Nat → Mv → Int32 → Int32 → Int32 → Int32 → Int32 → Int32 → Int32 → Int32
  | 0, _, _, _, _, _, _, _, _ => (0 : Int32)
  | n30 + 1, v, x_0, x_1, x3, x5, x7, x28, x30 =>
    if x_1 = (0 : Int32) then (K_X8_kindsOf_45 G w h0 rec18 (K_X8_kindsOf_30 G w h0 rec18 n30) v x_0 x_1 x3 x5 x7 x28 x30 (4 : Int32)) else (K_X8_kindsOf_45 G w h0 rec18 (K_X8_kindsOf_30 G w h0 rec18 n30) v x_0 x_1 x3 x5 x7 x28 x30 (3 : Int32))
def K_X8_kindsOf_18 (G : Gm) (w : Mw) (h0 : Nat) : Nat → Mv → Int32 → Int32 → Int32 → Int32 → Int32 → Int32
  | 0, _, _, _, _, _, _ => (0 : Int32)
  | n18 + 1, v, x_0, x_1, x3, x5, x7 =>
    if (5 : Int32) < x7 then (x3) else (K_X8_kindsOf_30 G w h0 (K_X8_kindsOf_18 G w h0 n18) 7 v x_0 x_1 x3 x5 x7 (1 : Int32) (0 : Int32))
def K_X8_kindsOf_13 (G : Gm) (w : Mw) (h0 : Nat) (v : Mv) (x_0 : Int32) (x_1 : Int32) (x152 : Int32) (x154 : Int32) : Int32 :=
  K_X8_kindsOf_18 G w h0 7 v x_0 x_1 x152 x154 (0 : Int32)
def K_X8_kindsOf_e (G : Gm) (w : Mw) (v : Mv) (h0 : Nat) (x_0 : Int32) (x_1 : Int32) : Int32 :=
  if x_1 = (0 : Int32) then (K_X8_kindsOf_13 G w h0 v x_0 x_1 (0 : Int32) (94 : Int32)) else (K_X8_kindsOf_13 G w h0 v x_0 x_1 (0 : Int32) (70 : Int32))
def F_X8_kindsOf (G : Gm) (w : Mw) (v : Mv) (h0 : Nat) (x_0 : Int32) (x_1 : Int32) : Int32 := K_X8_kindsOf_e G w v h0 x_0 x_1
set_option maxRecDepth 100000 in
theorem kx_X8_kindsOf_1 {G : Gm} {w : Mw} {h0 : Nat} {rec18 : Mv → Int32 → Int32 → Int32 → Int32 → Int32 → Int32} {v : Mv} {x_0 : Int32} {x_1 : Int32} {x5 : Int32} {x7 : Int32} {x13 : Int32} {x15 : Int32} {x17 : Int32} {x20 : Int32} (a0 : x17 = x15 ||| x13) (a1 : x20 = x7 + (1 : Int32))  : K_X8_kindsOf_175 G w h0 rec18 v x_0 x_1 x5 x7 x13 x15 = rec18 v x_0 x_1 x17 x5 x20 := by
  subst a1; subst a0; first | rw [K_X8_kindsOf_175] | simp only [K_X8_kindsOf_175]
set_option maxRecDepth 100000 in
theorem kx_X8_kindsOf_2 {G : Gm} {w : Mw} {h0 : Nat} {rec18 : Mv → Int32 → Int32 → Int32 → Int32 → Int32 → Int32} {rec30 : Mv → Int32 → Int32 → Int32 → Int32 → Int32 → Int32 → Int32 → Int32} {v : Mv} {x_0 : Int32} {x_1 : Int32} {x3 : Int32} {x5 : Int32} {x7 : Int32} {x30 : Int32} {x38 : Int32} {x40 : Int32} (a0 : x40 = x30 + (1 : Int32))  : K_X8_kindsOf_153 G w h0 rec18 rec30 v x_0 x_1 x3 x5 x7 x30 x38 = rec30 v x_0 x_1 x3 x5 x7 x38 x40 := by
  subst a0; first | rw [K_X8_kindsOf_153] | simp only [K_X8_kindsOf_153]
set_option maxRecDepth 100000 in
theorem kx_X8_kindsOf_3 {G : Gm} {w : Mw} {h0 : Nat} {rec18 : Mv → Int32 → Int32 → Int32 → Int32 → Int32 → Int32} {rec30 : Mv → Int32 → Int32 → Int32 → Int32 → Int32 → Int32 → Int32 → Int32} {v : Mv} {x_0 : Int32} {x_1 : Int32} {x3 : Int32} {x5 : Int32} {x7 : Int32} {x30 : Int32}   : K_X8_kindsOf_152 G w h0 rec18 rec30 v x_0 x_1 x3 x5 x7 x30 = K_X8_kindsOf_153 G w h0 rec18 rec30 v x_0 x_1 x3 x5 x7 x30 (0 : Int32) := by
  first | rw [K_X8_kindsOf_152] | simp only [K_X8_kindsOf_152]
set_option maxRecDepth 100000 in
theorem kx_X8_kindsOf_4 {G : Gm} {w : Mw} {h0 : Nat} {rec18 : Mv → Int32 → Int32 → Int32 → Int32 → Int32 → Int32} {rec30 : Mv → Int32 → Int32 → Int32 → Int32 → Int32 → Int32 → Int32 → Int32} {v : Mv} {x_0 : Int32} {x_1 : Int32} {x3 : Int32} {x5 : Int32} {x7 : Int32} {x30 : Int32}   : K_X8_kindsOf_148 G w h0 rec18 rec30 v x_0 x_1 x3 x5 x7 x30 = K_X8_kindsOf_153 G w h0 rec18 rec30 v x_0 x_1 x3 x5 x7 x30 (1 : Int32) := by
  first | rw [K_X8_kindsOf_148] | simp only [K_X8_kindsOf_148]
set_option maxRecDepth 100000 in
theorem kx_X8_kindsOf_5 {G : Gm} {w : Mw} {h0 : Nat} {rec18 : Mv → Int32 → Int32 → Int32 → Int32 → Int32 → Int32} {rec30 : Mv → Int32 → Int32 → Int32 → Int32 → Int32 → Int32 → Int32 → Int32} {v : Mv} {x_0 : Int32} {x_1 : Int32} {x3 : Int32} {x5 : Int32} {x7 : Int32} {x28 : Int32} {x30 : Int32} {x62 : Int32}  (k0 : x28 = (0 : Int32)) : K_X8_kindsOf_106 G w h0 rec18 rec30 v x_0 x_1 x3 x5 x7 x28 x30 x62 = K_X8_kindsOf_152 G w h0 rec18 rec30 v x_0 x_1 x3 x5 x7 x30 := by
  first | rw [K_X8_kindsOf_106, if_pos k0] | simp only [K_X8_kindsOf_106, if_pos k0]
set_option maxRecDepth 100000 in
theorem kx_X8_kindsOf_6 {G : Gm} {w : Mw} {h0 : Nat} {rec18 : Mv → Int32 → Int32 → Int32 → Int32 → Int32 → Int32} {rec30 : Mv → Int32 → Int32 → Int32 → Int32 → Int32 → Int32 → Int32 → Int32} {v : Mv} {x_0 : Int32} {x_1 : Int32} {x3 : Int32} {x5 : Int32} {x7 : Int32} {x28 : Int32} {x30 : Int32} {x62 : Int32} {x66 : Int32} {x69 : Int32} {x72 : Int32} (a0 : x66 = (4 : Int32) * x30) (a1 : x69 = x5 + x66) (a2 : x72 = v (rf G h0 1) (Int32.toNatClampNeg x69)) (k0 : ¬ (x28 = (0 : Int32))) (k1 : ¬ (x72 = x_0)) : K_X8_kindsOf_106 G w h0 rec18 rec30 v x_0 x_1 x3 x5 x7 x28 x30 x62 = K_X8_kindsOf_148 G w h0 rec18 rec30 v x_0 x_1 x3 x5 x7 x30 := by
  subst a2; subst a1; subst a0; first | rw [K_X8_kindsOf_106, if_neg k0, if_neg k1] | simp only [K_X8_kindsOf_106, if_neg k0, if_neg k1]
set_option maxRecDepth 100000 in
theorem kx_X8_kindsOf_7 {G : Gm} {w : Mw} {h0 : Nat} {rec18 : Mv → Int32 → Int32 → Int32 → Int32 → Int32 → Int32} {rec30 : Mv → Int32 → Int32 → Int32 → Int32 → Int32 → Int32 → Int32 → Int32} {v : Mv} {x_0 : Int32} {x_1 : Int32} {x3 : Int32} {x5 : Int32} {x7 : Int32} {x28 : Int32} {x30 : Int32} {x62 : Int32} {x66 : Int32} {x69 : Int32} {x76 : Int32} {x79 : Int32} {x82 : Int32} {x72 : Int32} {x85 : Int32} (a0 : x66 = (4 : Int32) * x30) (a1 : x69 = x5 + x66) (a2 : x72 = v (rf G h0 1) (Int32.toNatClampNeg x69)) (a3 : x76 = (4 : Int32) * x30) (a4 : x79 = x5 + x76) (a5 : x82 = x79 + (3 : Int32)) (a6 : x85 = v (rf G h0 1) (Int32.toNatClampNeg x82)) (k0 : ¬ (x28 = (0 : Int32))) (k1 : x72 = x_0) (k2 : ¬ (x62 = x85)) : K_X8_kindsOf_106 G w h0 rec18 rec30 v x_0 x_1 x3 x5 x7 x28 x30 x62 = K_X8_kindsOf_152 G w h0 rec18 rec30 v x_0 x_1 x3 x5 x7 x30 := by
  subst a6; subst a5; subst a4; subst a3; subst a2; subst a1; subst a0; first | rw [K_X8_kindsOf_106, if_neg k0, if_pos k1, if_neg k2] | simp only [K_X8_kindsOf_106, if_neg k0, if_pos k1, if_neg k2]
set_option maxRecDepth 100000 in
theorem kx_X8_kindsOf_8 {G : Gm} {w : Mw} {h0 : Nat} {rec18 : Mv → Int32 → Int32 → Int32 → Int32 → Int32 → Int32} {rec30 : Mv → Int32 → Int32 → Int32 → Int32 → Int32 → Int32 → Int32 → Int32} {v : Mv} {x_0 : Int32} {x_1 : Int32} {x3 : Int32} {x5 : Int32} {x7 : Int32} {x28 : Int32} {x30 : Int32} {x62 : Int32} {x66 : Int32} {x69 : Int32} {x76 : Int32} {x79 : Int32} {x82 : Int32} {x72 : Int32} {x85 : Int32} (a0 : x66 = (4 : Int32) * x30) (a1 : x69 = x5 + x66) (a2 : x72 = v (rf G h0 1) (Int32.toNatClampNeg x69)) (a3 : x76 = (4 : Int32) * x30) (a4 : x79 = x5 + x76) (a5 : x82 = x79 + (3 : Int32)) (a6 : x85 = v (rf G h0 1) (Int32.toNatClampNeg x82)) (k0 : ¬ (x28 = (0 : Int32))) (k1 : x72 = x_0) (k2 : x62 = x85) : K_X8_kindsOf_106 G w h0 rec18 rec30 v x_0 x_1 x3 x5 x7 x28 x30 x62 = K_X8_kindsOf_148 G w h0 rec18 rec30 v x_0 x_1 x3 x5 x7 x30 := by
  subst a6; subst a5; subst a4; subst a3; subst a2; subst a1; subst a0; first | rw [K_X8_kindsOf_106, if_neg k0, if_pos k1, if_pos k2] | simp only [K_X8_kindsOf_106, if_neg k0, if_pos k1, if_pos k2]
set_option maxRecDepth 100000 in
theorem kx_X8_kindsOf_9 {G : Gm} {w : Mw} {h0 : Nat} {rec18 : Mv → Int32 → Int32 → Int32 → Int32 → Int32 → Int32} {rec30 : Mv → Int32 → Int32 → Int32 → Int32 → Int32 → Int32 → Int32 → Int32} {v : Mv} {x_0 : Int32} {x_1 : Int32} {x3 : Int32} {x5 : Int32} {x7 : Int32} {x28 : Int32} {x30 : Int32} {x95 : Int32} {x97 : Int32} (a0 : x97 = v (rf G h0 1) (Int32.toNatClampNeg x95)) (k0 : x97 ≤ x30) (k1 : x28 = (0 : Int32)) : K_X8_kindsOf_45 G w h0 rec18 rec30 v x_0 x_1 x3 x5 x7 x28 x30 x95 = K_X8_kindsOf_175 G w h0 rec18 v x_0 x_1 x5 x7 (0 : Int32) x3 := by
  subst a0; first | rw [K_X8_kindsOf_45, if_pos k0, if_pos k1] | simp only [K_X8_kindsOf_45, if_pos k0, if_pos k1]
set_option maxRecDepth 100000 in
theorem kx_X8_kindsOf_10 {G : Gm} {w : Mw} {h0 : Nat} {rec18 : Mv → Int32 → Int32 → Int32 → Int32 → Int32 → Int32} {rec30 : Mv → Int32 → Int32 → Int32 → Int32 → Int32 → Int32 → Int32 → Int32} {v : Mv} {x_0 : Int32} {x_1 : Int32} {x3 : Int32} {x5 : Int32} {x7 : Int32} {x28 : Int32} {x30 : Int32} {x95 : Int32} {x104 : Int32} {x97 : Int32} (a0 : x97 = v (rf G h0 1) (Int32.toNatClampNeg x95)) (a1 : x104 = (1 : Int32) <<< (x7 &&& 31)) (k0 : x97 ≤ x30) (k1 : ¬ (x28 = (0 : Int32))) : K_X8_kindsOf_45 G w h0 rec18 rec30 v x_0 x_1 x3 x5 x7 x28 x30 x95 = K_X8_kindsOf_175 G w h0 rec18 v x_0 x_1 x5 x7 x104 x3 := by
  subst a1; subst a0; first | rw [K_X8_kindsOf_45, if_pos k0, if_neg k1] | simp only [K_X8_kindsOf_45, if_pos k0, if_neg k1]
set_option maxRecDepth 100000 in
theorem kx_X8_kindsOf_11 {G : Gm} {w : Mw} {h0 : Nat} {rec18 : Mv → Int32 → Int32 → Int32 → Int32 → Int32 → Int32} {rec30 : Mv → Int32 → Int32 → Int32 → Int32 → Int32 → Int32 → Int32 → Int32} {v : Mv} {x_0 : Int32} {x_1 : Int32} {x3 : Int32} {x5 : Int32} {x7 : Int32} {x28 : Int32} {x30 : Int32} {x95 : Int32} {x136 : Int32} {x109 : Int32} {x112 : Int32} {x115 : Int32} {x120 : Int32} {x123 : Int32} {x126 : Int32} {x118 : Int32} {x129 : Int32} {x97 : Int32} (a0 : x97 = v (rf G h0 1) (Int32.toNatClampNeg x95)) (a1 : x109 = (4 : Int32) * x30) (a2 : x112 = x5 + x109) (a3 : x115 = x112 + (1 : Int32)) (a4 : x118 = v (rf G h0 1) (Int32.toNatClampNeg x115)) (a5 : x120 = (4 : Int32) * x30) (a6 : x123 = x5 + x120) (a7 : x126 = x123 + (2 : Int32)) (a8 : x129 = v (rf G h0 1) (Int32.toNatClampNeg x126)) (a9 : x136 = F_X8_liftsBy G w v x7 x118 x129) (k0 : ¬ (x97 ≤ x30)) (k1 : x_1 = (0 : Int32)) : K_X8_kindsOf_45 G w h0 rec18 rec30 v x_0 x_1 x3 x5 x7 x28 x30 x95 = K_X8_kindsOf_106 G w h0 rec18 rec30 v x_0 x_1 x3 x5 x7 x28 x30 x136 := by
  subst a9; subst a8; subst a7; subst a6; subst a5; subst a4; subst a3; subst a2; subst a1; subst a0; first | rw [K_X8_kindsOf_45, if_neg k0, if_pos k1] | simp only [K_X8_kindsOf_45, if_neg k0, if_pos k1]
set_option maxRecDepth 100000 in
theorem kx_X8_kindsOf_12 {G : Gm} {w : Mw} {h0 : Nat} {rec18 : Mv → Int32 → Int32 → Int32 → Int32 → Int32 → Int32} {rec30 : Mv → Int32 → Int32 → Int32 → Int32 → Int32 → Int32 → Int32 → Int32} {v : Mv} {x_0 : Int32} {x_1 : Int32} {x3 : Int32} {x5 : Int32} {x7 : Int32} {x28 : Int32} {x30 : Int32} {x95 : Int32} {x142 : Int32} {x109 : Int32} {x112 : Int32} {x115 : Int32} {x120 : Int32} {x123 : Int32} {x126 : Int32} {x118 : Int32} {x129 : Int32} {x97 : Int32} (a0 : x97 = v (rf G h0 1) (Int32.toNatClampNeg x95)) (a1 : x109 = (4 : Int32) * x30) (a2 : x112 = x5 + x109) (a3 : x115 = x112 + (1 : Int32)) (a4 : x118 = v (rf G h0 1) (Int32.toNatClampNeg x115)) (a5 : x120 = (4 : Int32) * x30) (a6 : x123 = x5 + x120) (a7 : x126 = x123 + (2 : Int32)) (a8 : x129 = v (rf G h0 1) (Int32.toNatClampNeg x126)) (a9 : x142 = F_X8_weighsBy G w v x7 x118 x129) (k0 : ¬ (x97 ≤ x30)) (k1 : ¬ (x_1 = (0 : Int32))) : K_X8_kindsOf_45 G w h0 rec18 rec30 v x_0 x_1 x3 x5 x7 x28 x30 x95 = K_X8_kindsOf_106 G w h0 rec18 rec30 v x_0 x_1 x3 x5 x7 x28 x30 x142 := by
  subst a9; subst a8; subst a7; subst a6; subst a5; subst a4; subst a3; subst a2; subst a1; subst a0; first | rw [K_X8_kindsOf_45, if_neg k0, if_neg k1] | simp only [K_X8_kindsOf_45, if_neg k0, if_neg k1]
set_option maxRecDepth 100000 in
theorem kx_X8_kindsOf_13 {G : Gm} {w : Mw} {h0 : Nat} {rec18 : Mv → Int32 → Int32 → Int32 → Int32 → Int32 → Int32} {n30 : Nat} {v : Mv} {x_0 : Int32} {x_1 : Int32} {x3 : Int32} {x5 : Int32} {x7 : Int32} {x28 : Int32} {x30 : Int32}  (k0 : x_1 = (0 : Int32)) : K_X8_kindsOf_30 G w h0 rec18 (n30 + 1) v x_0 x_1 x3 x5 x7 x28 x30 = K_X8_kindsOf_45 G w h0 rec18 (K_X8_kindsOf_30 G w h0 rec18 n30) v x_0 x_1 x3 x5 x7 x28 x30 (4 : Int32) := by
  first | rw [K_X8_kindsOf_30, if_pos k0] | simp only [K_X8_kindsOf_30, if_pos k0]
set_option maxRecDepth 100000 in
theorem kx_X8_kindsOf_14 {G : Gm} {w : Mw} {h0 : Nat} {rec18 : Mv → Int32 → Int32 → Int32 → Int32 → Int32 → Int32} {n30 : Nat} {v : Mv} {x_0 : Int32} {x_1 : Int32} {x3 : Int32} {x5 : Int32} {x7 : Int32} {x28 : Int32} {x30 : Int32}  (k0 : ¬ (x_1 = (0 : Int32))) : K_X8_kindsOf_30 G w h0 rec18 (n30 + 1) v x_0 x_1 x3 x5 x7 x28 x30 = K_X8_kindsOf_45 G w h0 rec18 (K_X8_kindsOf_30 G w h0 rec18 n30) v x_0 x_1 x3 x5 x7 x28 x30 (3 : Int32) := by
  first | rw [K_X8_kindsOf_30, if_neg k0] | simp only [K_X8_kindsOf_30, if_neg k0]
set_option maxRecDepth 100000 in
theorem kx_X8_kindsOf_15 {G : Gm} {w : Mw} {h0 : Nat} {n18 : Nat} {v : Mv} {x_0 : Int32} {x_1 : Int32} {x3 : Int32} {x5 : Int32} {x7 : Int32}  (k0 : (5 : Int32) < x7) : K_X8_kindsOf_18 G w h0 (n18 + 1) v x_0 x_1 x3 x5 x7 = x3 := by
  first | rw [K_X8_kindsOf_18, if_pos k0] | simp only [K_X8_kindsOf_18, if_pos k0]
set_option maxRecDepth 100000 in
theorem kx_X8_kindsOf_16 {G : Gm} {w : Mw} {h0 : Nat} {n18 : Nat} {v : Mv} {x_0 : Int32} {x_1 : Int32} {x3 : Int32} {x5 : Int32} {x7 : Int32}  (k0 : ¬ ((5 : Int32) < x7)) : K_X8_kindsOf_18 G w h0 (n18 + 1) v x_0 x_1 x3 x5 x7 = K_X8_kindsOf_30 G w h0 (K_X8_kindsOf_18 G w h0 n18) 7 v x_0 x_1 x3 x5 x7 (1 : Int32) (0 : Int32) := by
  first | rw [K_X8_kindsOf_18, if_neg k0] | simp only [K_X8_kindsOf_18, if_neg k0]
set_option maxRecDepth 100000 in
theorem kx_X8_kindsOf_17 {G : Gm} {w : Mw} {h0 : Nat} {v : Mv} {x_0 : Int32} {x_1 : Int32} {x152 : Int32} {x154 : Int32}   : K_X8_kindsOf_13 G w h0 v x_0 x_1 x152 x154 = K_X8_kindsOf_18 G w h0 7 v x_0 x_1 x152 x154 (0 : Int32) := by
  first | rw [K_X8_kindsOf_13] | simp only [K_X8_kindsOf_13]
set_option maxRecDepth 100000 in
theorem kx_X8_kindsOf_18 {G : Gm} {w : Mw} {v : Mv} {h0 : Nat} {x_0 : Int32} {x_1 : Int32}  (k0 : x_1 = (0 : Int32)) : K_X8_kindsOf_e G w v h0 x_0 x_1 = K_X8_kindsOf_13 G w h0 v x_0 x_1 (0 : Int32) (94 : Int32) := by
  first | rw [K_X8_kindsOf_e, if_pos k0] | simp only [K_X8_kindsOf_e, if_pos k0]
set_option maxRecDepth 100000 in
theorem kx_X8_kindsOf_19 {G : Gm} {w : Mw} {v : Mv} {h0 : Nat} {x_0 : Int32} {x_1 : Int32}  (k0 : ¬ (x_1 = (0 : Int32))) : K_X8_kindsOf_e G w v h0 x_0 x_1 = K_X8_kindsOf_13 G w h0 v x_0 x_1 (0 : Int32) (70 : Int32) := by
  first | rw [K_X8_kindsOf_e, if_neg k0] | simp only [K_X8_kindsOf_e, if_neg k0]
abbrev rm_X8_kindsOf : Room := { frames := 1, cells := 0, slots := 0, locals := 24 }
set_option maxHeartbeats 4000000 in
set_option maxRecDepth 100000 in
theorem ct_X8_kindsOf (l : Launch) (D : va_G) (dA : Nat → ClassId) (G : Gm) (v : Mv) (w : Mw) (hOk : Ok G v w) (h0 : Nat) (S0 : S_X8 G h0) (x_0 : Int32) (bx_0 : Bd x_0 0 6) (x_1 : Int32) (bx_1 : Bd x_1 0 1) : CtI l yX8_kindsOf cX8_kindsOf 11 (some .int) rm_X8_kindsOf D dA G [.ref h0, .int x_0, .int x_1] v w (fun r v1 w1 => v1 = v ∧ w1 = w ∧ Bd r 0 127 ∧ r = F_X8_kindsOf G w v h0 x_0 x_1) := by
  refine CtI.of RX8 [(0, .ref h0), (1, .int x_0), (2, .int x_1)] (Nat.le_of_ble_eq_true rfl) rfl (by decide) rfl ?_
  intro p e s m args below meth c E hr
  have J18 : ∀ n18 : Nat, Bd x_0 0 6 → Bd x_1 0 1 → ∀ x3 : Int32, Bd x3 0 127 → ∀ x5 : Int32, Bd x5 70 94 → ∀ x7 : Int32, Bd x7 0 6 → Mu x7 6 n18 → K_X8_kindsOf_18 G w h0 n18 v x_0 x_1 x3 x5 x7 = F_X8_kindsOf G w v h0 x_0 x_1 → J p l e rm_X8_kindsOf s m args below meth c 0 0 (MQ below (QcI D dA G (fun r v1 w1 => v1 = v ∧ w1 = w ∧ Bd r 0 127 ∧ r = F_X8_kindsOf G w v h0 x_0 x_1)) args s 0 0 (dm G)) D dA G (dm G) s.heap 11 v w [(0, .ref h0), (1, .int x_0), (2, .int x_1), (3, .int x3), (4, .int x5), (5, .int x7)] 18 [] := by
    intro n18
    induction n18 with
    | zero => intro b1 b2 x3 b4 x5 b6 x7 b8 hm hK; exact hm.zero b8 (by decide)
    | succ n18 ih18 =>
      intro b1 b2 x3 b4 x5 b6 x7 b8 hmu18 hK
      have J175 : Bd x_0 0 6 → Bd x_1 0 1 → Bd x5 70 94 → Bd x7 0 5 → ∀ x13 : Int32, Bd x13 0 60 → ∀ x15 : Int32, Bd x15 0 127 → K_X8_kindsOf_175 G w h0 (K_X8_kindsOf_18 G w h0 n18) v x_0 x_1 x5 x7 x13 x15 = F_X8_kindsOf G w v h0 x_0 x_1 → J p l e rm_X8_kindsOf s m args below meth c 0 0 (MQ below (QcI D dA G (fun r v1 w1 => v1 = v ∧ w1 = w ∧ Bd r 0 127 ∧ r = F_X8_kindsOf G w v h0 x_0 x_1)) args s 0 0 (dm G)) D dA G (dm G) s.heap 11 v w [(0, .ref h0), (1, .int x_0), (2, .int x_1), (4, .int x5), (5, .int x7)] 175 [.int x13, .int x15] := by
        intro b9 b10 b11 b12 x13 b14 x15 b16 hK
        refine J_ior E dX8_kindsOf_175 (fun x17 e18 => ?_)
        have b19 : Bd x17 0 127 := Bd.or e18 b16 b14 7 (by decide)
        refine J_istore_n E [(3, .int x17), (0, .ref h0), (1, .int x_0), (2, .int x_1), (4, .int x5), (5, .int x7)] dX8_kindsOf_176 rfl (by decide) rfl ?_
        refine J_iinc E 5 1 (fun z => [(5, .int z), (3, .int x17), (0, .ref h0), (1, .int x_0), (2, .int x_1), (4, .int x5)]) dX8_kindsOf_177 rfl (by decide) (by decide) (fun _ => rfl) (fun x20 e21 => ?_)
        have b22 : Bd x20 1 6 := (Bd.add e21 b12 (Bd.lit 1 1 (by decide)) (by decide)).w _ _ (by decide)
        refine J_goto E 18 dX8_kindsOf_180 (by decide) ?_
        exact J.sub [2, 3, 4, 1, 5, 0] rfl (ih18 b9 b10 x17 b19 x5 b11 x20 (b22.w 0 6 (by decide)) (Mu.step hmu18 e21 b12 (Bd.lit 1 1 (by decide)) (by decide)) ((kx_X8_kindsOf_1 (e18) (e21)).symm.trans hK))
      have J30 : ∀ n30 : Nat, Bd x_0 0 6 → Bd x_1 0 1 → Bd x3 0 127 → Bd x5 70 94 → Bd x7 0 5 → ∀ x28 : Int32, Bd x28 0 1 → ∀ x30 : Int32, Bd x30 0 6 → Mu x30 6 n30 → K_X8_kindsOf_30 G w h0 (K_X8_kindsOf_18 G w h0 n18) n30 v x_0 x_1 x3 x5 x7 x28 x30 = F_X8_kindsOf G w v h0 x_0 x_1 → J p l e rm_X8_kindsOf s m args below meth c 0 0 (MQ below (QcI D dA G (fun r v1 w1 => v1 = v ∧ w1 = w ∧ Bd r 0 127 ∧ r = F_X8_kindsOf G w v h0 x_0 x_1)) args s 0 0 (dm G)) D dA G (dm G) s.heap 11 v w [(0, .ref h0), (1, .int x_0), (2, .int x_1), (3, .int x3), (4, .int x5), (5, .int x7), (6, .int x28), (7, .int x30)] 30 [] := by
        intro n30
        induction n30 with
        | zero => intro b23 b24 b25 b26 b27 x28 b29 x30 b31 hm hK; exact hm.zero b31 (by decide)
        | succ n30 ih30 =>
          intro b23 b24 b25 b26 b27 x28 b29 x30 b31 hmu30 hK
          have J153 : Bd x_0 0 6 → Bd x_1 0 1 → Bd x3 0 127 → Bd x5 70 94 → Bd x7 0 5 → Bd x30 0 5 → ∀ x38 : Int32, Bd x38 0 1 → K_X8_kindsOf_153 G w h0 (K_X8_kindsOf_18 G w h0 n18) (K_X8_kindsOf_30 G w h0 (K_X8_kindsOf_18 G w h0 n18) n30) v x_0 x_1 x3 x5 x7 x30 x38 = F_X8_kindsOf G w v h0 x_0 x_1 → J p l e rm_X8_kindsOf s m args below meth c 0 0 (MQ below (QcI D dA G (fun r v1 w1 => v1 = v ∧ w1 = w ∧ Bd r 0 127 ∧ r = F_X8_kindsOf G w v h0 x_0 x_1)) args s 0 0 (dm G)) D dA G (dm G) s.heap 11 v w [(0, .ref h0), (1, .int x_0), (2, .int x_1), (3, .int x3), (4, .int x5), (5, .int x7), (7, .int x30)] 153 [.int x38] := by
            intro b32 b33 b34 b35 b36 b37 x38 b39 hK
            refine J_istore E [(6, .int x38), (0, .ref h0), (1, .int x_0), (2, .int x_1), (3, .int x3), (4, .int x5), (5, .int x7), (7, .int x30)] dX8_kindsOf_153 (by decide) rfl ?_
            refine J_iinc E 7 1 (fun z => [(7, .int z), (6, .int x38), (0, .ref h0), (1, .int x_0), (2, .int x_1), (3, .int x3), (4, .int x5), (5, .int x7)]) dX8_kindsOf_155 rfl (by decide) (by decide) (fun _ => rfl) (fun x40 e41 => ?_)
            have b42 : Bd x40 1 6 := (Bd.add e41 b37 (Bd.lit 1 1 (by decide)) (by decide)).w _ _ (by decide)
            refine J_goto E 30 dX8_kindsOf_158 (by decide) ?_
            exact J.sub [2, 3, 4, 5, 6, 7, 1, 0] rfl (ih30 b32 b33 b34 b35 b36 x38 b39 x40 (b42.w 0 6 (by decide)) (Mu.step hmu30 e41 b37 (Bd.lit 1 1 (by decide)) (by decide)) ((kx_X8_kindsOf_2 (e41)).symm.trans hK))
          have J152 : Bd x_0 0 6 → Bd x_1 0 1 → Bd x3 0 127 → Bd x5 70 94 → Bd x7 0 5 → Bd x30 0 5 → K_X8_kindsOf_152 G w h0 (K_X8_kindsOf_18 G w h0 n18) (K_X8_kindsOf_30 G w h0 (K_X8_kindsOf_18 G w h0 n18) n30) v x_0 x_1 x3 x5 x7 x30 = F_X8_kindsOf G w v h0 x_0 x_1 → J p l e rm_X8_kindsOf s m args below meth c 0 0 (MQ below (QcI D dA G (fun r v1 w1 => v1 = v ∧ w1 = w ∧ Bd r 0 127 ∧ r = F_X8_kindsOf G w v h0 x_0 x_1)) args s 0 0 (dm G)) D dA G (dm G) s.heap 11 v w [(0, .ref h0), (1, .int x_0), (2, .int x_1), (3, .int x3), (4, .int x5), (5, .int x7), (7, .int x30)] 152 [] := by
            intro b43 b44 b45 b46 b47 b48 hK
            refine J_iconst E 0 dX8_kindsOf_152 (by decide) ?_
            exact J.sub [0, 1, 2, 3, 4, 5, 6] rfl (J153 b43 b44 b45 b46 b47 b48 0 ((Bd.lit 0 0 (by decide)).w 0 1 (by decide)) ((kx_X8_kindsOf_3).symm.trans hK))
          have J148 : Bd x_0 0 6 → Bd x_1 0 1 → Bd x3 0 127 → Bd x5 70 94 → Bd x7 0 5 → Bd x30 0 5 → K_X8_kindsOf_148 G w h0 (K_X8_kindsOf_18 G w h0 n18) (K_X8_kindsOf_30 G w h0 (K_X8_kindsOf_18 G w h0 n18) n30) v x_0 x_1 x3 x5 x7 x30 = F_X8_kindsOf G w v h0 x_0 x_1 → J p l e rm_X8_kindsOf s m args below meth c 0 0 (MQ below (QcI D dA G (fun r v1 w1 => v1 = v ∧ w1 = w ∧ Bd r 0 127 ∧ r = F_X8_kindsOf G w v h0 x_0 x_1)) args s 0 0 (dm G)) D dA G (dm G) s.heap 11 v w [(0, .ref h0), (1, .int x_0), (2, .int x_1), (3, .int x3), (4, .int x5), (5, .int x7), (7, .int x30)] 148 [] := by
            intro b49 b50 b51 b52 b53 b54 hK
            refine J_iconst E 1 dX8_kindsOf_148 (by decide) ?_
            refine J_goto E 153 dX8_kindsOf_149 (by decide) ?_
            exact J.sub [0, 1, 2, 3, 4, 5, 6] rfl (J153 b49 b50 b51 b52 b53 b54 1 ((Bd.lit 1 1 (by decide)).w 0 1 (by decide)) ((kx_X8_kindsOf_4).symm.trans hK))
          have J106 : Bd x_0 0 6 → Bd x_1 0 1 → Bd x3 0 127 → Bd x5 70 94 → Bd x7 0 5 → Bd x28 0 1 → Bd x30 0 5 → ∀ x62 : Int32, K_X8_kindsOf_106 G w h0 (K_X8_kindsOf_18 G w h0 n18) (K_X8_kindsOf_30 G w h0 (K_X8_kindsOf_18 G w h0 n18) n30) v x_0 x_1 x3 x5 x7 x28 x30 x62 = F_X8_kindsOf G w v h0 x_0 x_1 → J p l e rm_X8_kindsOf s m args below meth c 0 0 (MQ below (QcI D dA G (fun r v1 w1 => v1 = v ∧ w1 = w ∧ Bd r 0 127 ∧ r = F_X8_kindsOf G w v h0 x_0 x_1)) args s 0 0 (dm G)) D dA G (dm G) s.heap 11 v w [(0, .ref h0), (1, .int x_0), (2, .int x_1), (3, .int x3), (4, .int x5), (5, .int x7), (6, .int x28), (7, .int x30)] 106 [.int x62] := by
            intro b55 b56 b57 b58 b59 b60 b61 x62 hK
            refine J_istore E [(10, .int x62), (0, .ref h0), (1, .int x_0), (2, .int x_1), (3, .int x3), (4, .int x5), (5, .int x7), (6, .int x28), (7, .int x30)] dX8_kindsOf_106 (by decide) rfl ?_
            refine J_iload E dX8_kindsOf_108 7 rfl ?_
            refine J_if_eq E 152 dX8_kindsOf_110 (by decide) (fun c63 => ?_) (fun c63 => ?_)
            · have b64 : Bd x28 0 0 := Bd.eq_l c63 b60 (Bd.lit 0 0 (by decide)) 0 0 (by decide)
              exact J.sub [1, 2, 3, 4, 5, 6, 8] rfl (J152 b55 b56 b57 b58 b59 b61 ((kx_X8_kindsOf_5 (c63)).symm.trans hK))
            · have b65 : Bd x28 1 1 := (Bd.ne_lo c63 b60 (Bd.lit 0 0 (by decide))).w _ _ (by decide)
              refine J_aload_n E dX8_kindsOf_113 1 rfl ?_
              refine J_getR E in_X8 rfl (S_X8.h S0) 1 (by decide) wd936 rfl dX8_kindsOf_114 ?_
              refine J_iload E dX8_kindsOf_117 5 rfl ?_
              refine J_iconst E 4 dX8_kindsOf_119 (by decide) ?_
              refine J_iload E dX8_kindsOf_120 8 rfl ?_
              refine J_imul E dX8_kindsOf_122 (fun x66 e67 => ?_)
              have b68 : Bd x66 0 20 := Bd.mul e67 (Bd.lit 4 4 (by decide)) b61 (by decide)
              refine J_iadd E dX8_kindsOf_123 (fun x69 e70 => ?_)
              have b71 : Bd x69 70 114 := (Bd.add e70 b58 b68 (by decide)).w _ _ (by decide)
              refine J_iald1 E (S_X8.f1 S0) (Bd.in b71 (by decide)) dX8_kindsOf_124 (fun x72 e73 => ?_)
              refine J_iload_n E dX8_kindsOf_125 2 rfl ?_
              refine J_icmp_ne E 148 dX8_kindsOf_126 (by decide) (fun c74 => ?_) (fun c74 => ?_)
              · exact J.sub [1, 2, 3, 4, 5, 6, 8] rfl (J148 b55 b56 b57 b58 b59 b61 ((kx_X8_kindsOf_6 (e67) (e70) (e73) (c63) (c74)).symm.trans hK))
              · have b75 : Bd x72 0 6 := Bd.eq_l c74 (Bd.any x72) b55 0 6 (by decide)
                refine J_iload E dX8_kindsOf_129 0 rfl ?_
                refine J_aload_n E dX8_kindsOf_131 1 rfl ?_
                refine J_getR E in_X8 rfl (S_X8.h S0) 1 (by decide) wd936 rfl dX8_kindsOf_132 ?_
                refine J_iload E dX8_kindsOf_135 5 rfl ?_
                refine J_iconst E 4 dX8_kindsOf_137 (by decide) ?_
                refine J_iload E dX8_kindsOf_138 8 rfl ?_
                refine J_imul E dX8_kindsOf_140 (fun x76 e77 => ?_)
                have b78 : Bd x76 0 20 := Bd.mul e77 (Bd.lit 4 4 (by decide)) b61 (by decide)
                refine J_iadd E dX8_kindsOf_141 (fun x79 e80 => ?_)
                have b81 : Bd x79 70 114 := (Bd.add e80 b58 b78 (by decide)).w _ _ (by decide)
                refine J_iconst E 3 dX8_kindsOf_142 (by decide) ?_
                refine J_iadd E dX8_kindsOf_143 (fun x82 e83 => ?_)
                have b84 : Bd x82 73 117 := (Bd.add e83 b81 (Bd.lit 3 3 (by decide)) (by decide)).w _ _ (by decide)
                refine J_iald1 E (S_X8.f1 S0) (Bd.in b84 (by decide)) dX8_kindsOf_144 (fun x85 e86 => ?_)
                refine J_icmp_ne E 152 dX8_kindsOf_145 (by decide) (fun c87 => ?_) (fun c87 => ?_)
                · exact J.sub [1, 2, 3, 4, 5, 6, 8] rfl (J152 b55 b56 b57 b58 b59 b61 ((kx_X8_kindsOf_7 (e67) (e70) (e73) (e77) (e80) (e83) (e86) (c63) (c74) (c87)).symm.trans hK))
                · exact J.sub [1, 2, 3, 4, 5, 6, 8] rfl (J148 b55 b56 b57 b58 b59 b61 ((kx_X8_kindsOf_8 (e67) (e70) (e73) (e77) (e80) (e83) (e86) (c63) (c74) (c87)).symm.trans hK))
          have J45 : Bd x_0 0 6 → Bd x_1 0 1 → Bd x3 0 127 → Bd x5 70 94 → Bd x7 0 5 → Bd x28 0 1 → Bd x30 0 6 → ∀ x95 : Int32, Bd x95 3 4 → K_X8_kindsOf_45 G w h0 (K_X8_kindsOf_18 G w h0 n18) (K_X8_kindsOf_30 G w h0 (K_X8_kindsOf_18 G w h0 n18) n30) v x_0 x_1 x3 x5 x7 x28 x30 x95 = F_X8_kindsOf G w v h0 x_0 x_1 → J p l e rm_X8_kindsOf s m args below meth c 0 0 (MQ below (QcI D dA G (fun r v1 w1 => v1 = v ∧ w1 = w ∧ Bd r 0 127 ∧ r = F_X8_kindsOf G w v h0 x_0 x_1)) args s 0 0 (dm G)) D dA G (dm G) s.heap 11 v w [(0, .ref h0), (1, .int x_0), (2, .int x_1), (3, .int x3), (4, .int x5), (5, .int x7), (6, .int x28), (7, .int x30)] 45 [.int x95, .ref (rf G h0 1), .int x30] := by
            intro b88 b89 b90 b91 b92 b93 b94 x95 b96 hK
            refine J_iald1 E (S_X8.f1 S0) (Bd.in b96 (by decide)) dX8_kindsOf_45 (fun x97 e98 => ?_)
            have b99 : Bd x97 0 6 := Bd.e (Ok.ld hOk (S_X8.f1 S0) b96 3 2 0 6 (by decide) (by decide +kernel)) e98
            refine J_icmp_ge E 161 dX8_kindsOf_46 (by decide) (fun c100 => ?_) (fun c100 => ?_)
            · refine J_iload_n E dX8_kindsOf_161 3 rfl ?_
              refine J_iload E dX8_kindsOf_162 6 rfl ?_
              refine J_if_eq E 174 dX8_kindsOf_164 (by decide) (fun c101 => ?_) (fun c101 => ?_)
              · have b102 : Bd x28 0 0 := Bd.eq_l c101 b93 (Bd.lit 0 0 (by decide)) 0 0 (by decide)
                refine J_iconst E 0 dX8_kindsOf_174 (by decide) ?_
                exact J.sub [0, 1, 2, 4, 5] rfl (J175 b88 b89 b91 b92 0 ((Bd.lit 0 0 (by decide)).w 0 60 (by decide)) x3 b90 ((kx_X8_kindsOf_9 (e98) (c100) (c101)).symm.trans hK))
              · have b103 : Bd x28 1 1 := (Bd.ne_lo c101 b93 (Bd.lit 0 0 (by decide))).w _ _ (by decide)
                refine J_iconst E 1 dX8_kindsOf_167 (by decide) ?_
                refine J_iload E dX8_kindsOf_168 5 rfl ?_
                refine J_ishl E dX8_kindsOf_170 (fun x104 e105 => ?_)
                have b106 : Bd x104 1 32 := Bd.shl1 e105 b92 5 (by decide)
                refine J_goto E 175 dX8_kindsOf_171 (by decide) ?_
                exact J.sub [0, 1, 2, 4, 5] rfl (J175 b88 b89 b91 b92 x104 (b106.w 0 60 (by decide)) x3 b90 ((kx_X8_kindsOf_10 (e98) (e105) (c100) (c101)).symm.trans hK))
            · have b107 : Bd x30 0 5 := Bd.lt_l (nle c100) b94 b99 5 (by decide)
              have b108 : Bd x97 1 6 := Bd.lt_r (nle c100) b94 b99 1 (by decide)
              refine J_aload_n E dX8_kindsOf_49 0 rfl ?_
              refine J_getR E in_X8 rfl (S_X8.h S0) 1 (by decide) wd936 rfl dX8_kindsOf_50 ?_
              refine J_iload E dX8_kindsOf_53 4 rfl ?_
              refine J_iconst E 4 dX8_kindsOf_55 (by decide) ?_
              refine J_iload E dX8_kindsOf_56 7 rfl ?_
              refine J_imul E dX8_kindsOf_58 (fun x109 e110 => ?_)
              have b111 : Bd x109 0 20 := Bd.mul e110 (Bd.lit 4 4 (by decide)) b107 (by decide)
              refine J_iadd E dX8_kindsOf_59 (fun x112 e113 => ?_)
              have b114 : Bd x112 70 114 := (Bd.add e113 b91 b111 (by decide)).w _ _ (by decide)
              refine J_iconst E 1 dX8_kindsOf_60 (by decide) ?_
              refine J_iadd E dX8_kindsOf_61 (fun x115 e116 => ?_)
              have b117 : Bd x115 71 115 := (Bd.add e116 b114 (Bd.lit 1 1 (by decide)) (by decide)).w _ _ (by decide)
              refine J_iald1 E (S_X8.f1 S0) (Bd.in b117 (by decide)) dX8_kindsOf_62 (fun x118 e119 => ?_)
              refine J_istore E [(8, .int x118), (0, .ref h0), (1, .int x_0), (2, .int x_1), (3, .int x3), (4, .int x5), (5, .int x7), (6, .int x28), (7, .int x30)] dX8_kindsOf_63 (by decide) rfl ?_
              refine J_aload_n E dX8_kindsOf_65 1 rfl ?_
              refine J_getR E in_X8 rfl (S_X8.h S0) 1 (by decide) wd936 rfl dX8_kindsOf_66 ?_
              refine J_iload E dX8_kindsOf_69 5 rfl ?_
              refine J_iconst E 4 dX8_kindsOf_71 (by decide) ?_
              refine J_iload E dX8_kindsOf_72 8 rfl ?_
              refine J_imul E dX8_kindsOf_74 (fun x120 e121 => ?_)
              have b122 : Bd x120 0 20 := Bd.mul e121 (Bd.lit 4 4 (by decide)) b107 (by decide)
              refine J_iadd E dX8_kindsOf_75 (fun x123 e124 => ?_)
              have b125 : Bd x123 70 114 := (Bd.add e124 b91 b122 (by decide)).w _ _ (by decide)
              refine J_iconst E 2 dX8_kindsOf_76 (by decide) ?_
              refine J_iadd E dX8_kindsOf_77 (fun x126 e127 => ?_)
              have b128 : Bd x126 72 116 := (Bd.add e127 b125 (Bd.lit 2 2 (by decide)) (by decide)).w _ _ (by decide)
              refine J_iald1 E (S_X8.f1 S0) (Bd.in b128 (by decide)) dX8_kindsOf_78 (fun x129 e130 => ?_)
              refine J_istore E [(9, .int x129), (8, .int x118), (0, .ref h0), (1, .int x_0), (2, .int x_1), (3, .int x3), (4, .int x5), (5, .int x7), (6, .int x28), (7, .int x30)] dX8_kindsOf_79 (by decide) rfl ?_
              refine J_iload_n E dX8_kindsOf_81 4 rfl ?_
              refine J_if_eq E 97 dX8_kindsOf_82 (by decide) (fun c131 => ?_) (fun c131 => ?_)
              · have b132 : Bd x_1 0 0 := Bd.eq_l c131 b89 (Bd.lit 0 0 (by decide)) 0 0 (by decide)
                refine J_iload E dX8_kindsOf_97 7 rfl ?_
                refine J_iload E dX8_kindsOf_99 1 rfl ?_
                refine J_iload E dX8_kindsOf_101 0 rfl ?_
                refine J_callSI E cal_X8_liftsBy wd1109 [.int x7, .int x118, .int x129] [] (ct_X8_liftsBy l D dA G v w (hOk) x7 x118 x129) rfl rfl (Nat.le_of_ble_eq_true rfl) ⟨rfl, rfl⟩ ⟨Nat.le_of_ble_eq_true rfl, Nat.le_of_ble_eq_true rfl⟩ dX8_kindsOf_103 (fun x136 v133 w134 p135 => ?_)
                rw [p135.1, p135.2.1]
                have e137 : x136 = F_X8_liftsBy G w v x7 x118 x129 := (p135.2.2.2)
                exact J.sub [2, 3, 4, 5, 6, 7, 8, 9] rfl (J106 b88 (b132.w 0 1 (by decide)) b90 b91 b92 b93 b107 x136 ((kx_X8_kindsOf_11 (e98) (e110) (e113) (e116) (e119) (e121) (e124) (e127) (e130) (e137) (c100) (c131)).symm.trans hK))
              · have b138 : Bd x_1 1 1 := (Bd.ne_lo c131 b89 (Bd.lit 0 0 (by decide))).w _ _ (by decide)
                refine J_iload E dX8_kindsOf_85 7 rfl ?_
                refine J_iload E dX8_kindsOf_87 1 rfl ?_
                refine J_iload E dX8_kindsOf_89 0 rfl ?_
                refine J_callSI E cal_X8_weighsBy wd1102 [.int x7, .int x118, .int x129] [] (ct_X8_weighsBy l D dA G v w (hOk) x7 x118 x129) rfl rfl (Nat.le_of_ble_eq_true rfl) ⟨rfl, rfl⟩ ⟨Nat.le_of_ble_eq_true rfl, Nat.le_of_ble_eq_true rfl⟩ dX8_kindsOf_91 (fun x142 v139 w140 p141 => ?_)
                rw [p141.1, p141.2.1]
                have e143 : x142 = F_X8_weighsBy G w v x7 x118 x129 := (p141.2.2.2)
                refine J_goto E 106 dX8_kindsOf_94 (by decide) ?_
                exact J.sub [2, 3, 4, 5, 6, 7, 8, 9] rfl (J106 b88 (b138.w 0 1 (by decide)) b90 b91 b92 b93 b107 x142 ((kx_X8_kindsOf_12 (e98) (e110) (e113) (e116) (e119) (e121) (e124) (e127) (e130) (e143) (c100) (c131)).symm.trans hK))
          refine J_iload E dX8_kindsOf_30 7 rfl ?_
          refine J_aload_n E dX8_kindsOf_32 0 rfl ?_
          refine J_getR E in_X8 rfl (S_X8.h S0) 1 (by decide) wd936 rfl dX8_kindsOf_33 ?_
          refine J_iload_n E dX8_kindsOf_36 2 rfl ?_
          refine J_if_eq E 44 dX8_kindsOf_37 (by decide) (fun c144 => ?_) (fun c144 => ?_)
          · have b145 : Bd x_1 0 0 := Bd.eq_l c144 b24 (Bd.lit 0 0 (by decide)) 0 0 (by decide)
            refine J_iconst E 4 dX8_kindsOf_44 (by decide) ?_
            exact J.sub [0, 1, 2, 3, 4, 5, 6, 7] rfl (J45 b23 (b145.w 0 1 (by decide)) b25 b26 b27 b29 b31 4 ((Bd.lit 4 4 (by decide)).w 3 4 (by decide)) ((kx_X8_kindsOf_13 (c144)).symm.trans hK))
          · have b146 : Bd x_1 1 1 := (Bd.ne_lo c144 b24 (Bd.lit 0 0 (by decide))).w _ _ (by decide)
            refine J_iconst E 3 dX8_kindsOf_40 (by decide) ?_
            refine J_goto E 45 dX8_kindsOf_41 (by decide) ?_
            exact J.sub [0, 1, 2, 3, 4, 5, 6, 7] rfl (J45 b23 (b146.w 0 1 (by decide)) b25 b26 b27 b29 b31 3 ((Bd.lit 3 3 (by decide)).w 3 4 (by decide)) ((kx_X8_kindsOf_14 (c144)).symm.trans hK))
      refine J_iload E dX8_kindsOf_18 5 rfl ?_
      refine J_iconst E 5 dX8_kindsOf_20 (by decide) ?_
      refine J_icmp_gt E 183 dX8_kindsOf_21 (by decide) (fun c147 => ?_) (fun c147 => ?_)
      · have b148 : Bd x7 6 6 := Bd.lt_r c147 (Bd.lit 5 5 (by decide)) b8 6 (by decide)
        refine J_iload_n E dX8_kindsOf_183 3 rfl ?_
        exact J_iret E hr dX8_kindsOf_184 ⟨rfl, rfl, b4, ((kx_X8_kindsOf_15 (c147)).symm.trans hK)⟩
      · have b149 : Bd x7 0 5 := Bd.le_l (nlt c147) b8 (Bd.lit 5 5 (by decide)) 5 (by decide)
        refine J_iconst E 1 dX8_kindsOf_24 (by decide) ?_
        refine J_istore E [(6, .int 1), (0, .ref h0), (1, .int x_0), (2, .int x_1), (3, .int x3), (4, .int x5), (5, .int x7)] dX8_kindsOf_25 (by decide) rfl ?_
        refine J_iconst E 0 dX8_kindsOf_27 (by decide) ?_
        refine J_istore E [(7, .int 0), (6, .int 1), (0, .ref h0), (1, .int x_0), (2, .int x_1), (3, .int x3), (4, .int x5), (5, .int x7)] dX8_kindsOf_28 (by decide) rfl ?_
        exact J.sub [2, 3, 4, 5, 6, 7, 1, 0] rfl (J30 7 b1 b2 b4 b6 b149 1 ((Bd.lit 1 1 (by decide)).w 0 1 (by decide)) 0 ((Bd.lit 0 0 (by decide)).w 0 6 (by decide)) (Mu.start _ (Bd.lit 0 0 (by decide)) (by decide)) ((kx_X8_kindsOf_16 (c147)).symm.trans hK))
  have J13 : Bd x_0 0 6 → Bd x_1 0 1 → ∀ x152 : Int32, Bd x152 0 0 → ∀ x154 : Int32, Bd x154 70 94 → K_X8_kindsOf_13 G w h0 v x_0 x_1 x152 x154 = F_X8_kindsOf G w v h0 x_0 x_1 → J p l e rm_X8_kindsOf s m args below meth c 0 0 (MQ below (QcI D dA G (fun r v1 w1 => v1 = v ∧ w1 = w ∧ Bd r 0 127 ∧ r = F_X8_kindsOf G w v h0 x_0 x_1)) args s 0 0 (dm G)) D dA G (dm G) s.heap 11 v w [(0, .ref h0), (1, .int x_0), (2, .int x_1), (3, .int x152)] 13 [.int x154] := by
    intro b150 b151 x152 b153 x154 b155 hK
    refine J_istore E [(4, .int x154), (0, .ref h0), (1, .int x_0), (2, .int x_1), (3, .int x152)] dX8_kindsOf_13 (by decide) rfl ?_
    refine J_iconst E 0 dX8_kindsOf_15 (by decide) ?_
    refine J_istore E [(5, .int 0), (4, .int x154), (0, .ref h0), (1, .int x_0), (2, .int x_1), (3, .int x152)] dX8_kindsOf_16 (by decide) rfl ?_
    exact J.sub [2, 3, 4, 5, 1, 0] rfl (J18 7 b150 b151 x152 (b153.w 0 127 (by decide)) x154 b155 0 ((Bd.lit 0 0 (by decide)).w 0 6 (by decide)) (Mu.start _ (Bd.lit 0 0 (by decide)) (by decide)) ((kx_X8_kindsOf_17).symm.trans hK))
  have hK : K_X8_kindsOf_e G w v h0 x_0 x_1 = F_X8_kindsOf G w v h0 x_0 x_1 := rfl
  refine J_iconst E 0 dX8_kindsOf_0 (by decide) ?_
  refine J_istore_n E [(3, .int 0), (0, .ref h0), (1, .int x_0), (2, .int x_1)] dX8_kindsOf_1 rfl (by decide) rfl ?_
  refine J_iload_n E dX8_kindsOf_2 3 rfl ?_
  refine J_if_eq E 11 dX8_kindsOf_3 (by decide) (fun c156 => ?_) (fun c156 => ?_)
  · have b157 : Bd x_1 0 0 := Bd.eq_l c156 bx_1 (Bd.lit 0 0 (by decide)) 0 0 (by decide)
    refine J_bipush E 94 dX8_kindsOf_11 (by decide) ?_
    exact J.sub [1, 2, 3, 0] rfl (J13 bx_0 (b157.w 0 1 (by decide)) 0 (Bd.lit 0 0 (by decide)) 94 ((Bd.lit 94 94 (by decide)).w 70 94 (by decide)) ((kx_X8_kindsOf_18 (c156)).symm.trans hK))
  · have b158 : Bd x_1 1 1 := (Bd.ne_lo c156 bx_1 (Bd.lit 0 0 (by decide))).w _ _ (by decide)
    refine J_bipush E 70 dX8_kindsOf_6 (by decide) ?_
    refine J_goto E 13 dX8_kindsOf_8 (by decide) ?_
    exact J.sub [1, 2, 3, 0] rfl (J13 bx_0 (b158.w 0 1 (by decide)) 0 (Bd.lit 0 0 (by decide)) 70 ((Bd.lit 70 70 (by decide)).w 70 94 (by decide)) ((kx_X8_kindsOf_19 (c156)).symm.trans hK))

def K_X8_is_c1 (G : Gm) (w : Mw) (h0 : Nat) (v9 : Mv) (x12 : Int32) : Int32 × Mv :=
  (x12, v9)
def K_X8_is_e (G : Gm) (w : Mw) (v : Mv) (h0 : Nat) (x_0 : Int32) : Int32 × Mv :=
  if (F_X8_isThing G w v h0 x_0) = (0 : Int32) then (K_X8_is_c1 G w h0 ((F_X8_bad G w v h0).2) ((F_X8_bad G w v h0).1)) else (((F_X8_kindsOf G w v h0 x_0 (1 : Int32)), v))
def F_X8_is (G : Gm) (w : Mw) (v : Mv) (h0 : Nat) (x_0 : Int32) : Int32 × Mv := K_X8_is_e G w v h0 x_0
set_option maxRecDepth 100000 in
theorem kx_X8_is_1 {G : Gm} {w : Mw} {v : Mv} {h0 : Nat} {x_0 : Int32} {v9 : Mv} {x12 : Int32} {x4 : Int32} (a0 : x4 = F_X8_isThing G w v h0 x_0) (a1 : x12 = (F_X8_bad G w v h0).1) (a2 : v9 = (F_X8_bad G w v h0).2) (k0 : x4 = (0 : Int32)) : K_X8_is_e G w v h0 x_0 = K_X8_is_c1 G w h0 v9 x12 := by
  subst a2; subst a1; subst a0; first | rw [K_X8_is_e, if_pos k0] | simp only [K_X8_is_e, if_pos k0]
set_option maxRecDepth 100000 in
theorem kx_X8_is_2 {G : Gm} {w : Mw} {h0 : Nat} {v9 : Mv} {x12 : Int32}   : K_X8_is_c1 G w h0 v9 x12 = (x12, v9) := by
  first | rw [K_X8_is_c1] | simp only [K_X8_is_c1]
set_option maxRecDepth 100000 in
theorem kx_X8_is_3 {G : Gm} {w : Mw} {v : Mv} {h0 : Nat} {x_0 : Int32} {x24 : Int32} {x4 : Int32} (a0 : x4 = F_X8_isThing G w v h0 x_0) (a1 : x24 = F_X8_kindsOf G w v h0 x_0 (1 : Int32)) (k0 : ¬ (x4 = (0 : Int32))) : K_X8_is_e G w v h0 x_0 = (x24, v) := by
  subst a1; subst a0; first | rw [K_X8_is_e, if_neg k0] | simp only [K_X8_is_e, if_neg k0]
abbrev rm_X8_is : Room := { frames := 2, cells := 0, slots := 0, locals := 54 }
set_option maxHeartbeats 4000000 in
set_option maxRecDepth 100000 in
theorem ct_X8_is (l : Launch) (D : va_G) (dA : Nat → ClassId) (G : Gm) (v : Mv) (w : Mw) (hOk : Ok G v w) (h0 : Nat) (S0 : S_X8 G h0) (x_0 : Int32) : CtI l yX8_is cX8_is 2 (some .int) rm_X8_is D dA G [.ref h0, .int x_0] v w (fun r v1 w1 => Ok G v1 w1 ∧ Kp G v v1 ∧ True ∧ (w1 = w ∧ (r, v1) = F_X8_is G w v h0 x_0) ∧ Fr G [103] v v1) := by
  refine CtI.of RX8 [(0, .ref h0), (1, .int x_0)] (Nat.le_of_ble_eq_true rfl) rfl (by decide) rfl ?_
  intro p e s m args below meth c E hr
  have hK : K_X8_is_e G w v h0 x_0 = F_X8_is G w v h0 x_0 := rfl
  refine J_aload_n E dX8_is_0 0 rfl ?_
  refine J_iload_n E dX8_is_1 1 rfl ?_
  refine J_callVI E cal_X8_isThing wd1124 rfl (S_X8.h S0) [.int x_0] [] (ct_X8_isThing l D dA G v w (hOk) h0 S0 x_0) rfl rfl (Nat.le_of_ble_eq_true rfl) ⟨rfl, rfl⟩ ⟨Nat.le_of_ble_eq_true rfl, Nat.le_of_ble_eq_true rfl⟩ dX8_is_2 (fun x4 v1 w2 p3 => ?_)
  rw [p3.1, p3.2.1]
  have b5 : Bd x4 0 1 := p3.2.2.1
  have e6 : x4 = F_X8_isThing G w v h0 x_0 := (p3.2.2.2.2)
  refine J_if_eq E 17 dX8_is_5 (by decide) (fun c7 => ?_) (fun c7 => ?_)
  · have b8 : Bd x4 0 0 := Bd.eq_l c7 b5 (Bd.lit 0 0 (by decide)) 0 0 (by decide)
    refine J_aload_n E dX8_is_17 0 rfl ?_
    refine J_callVI E cal_X8_bad wd999 rfl (S_X8.h S0) [] [] (ct_X8_bad l D dA G v w (hOk) h0 S0) rfl rfl (Nat.le_of_ble_eq_true rfl) ⟨rfl, rfl⟩ ⟨Nat.le_of_ble_eq_true rfl, Nat.le_of_ble_eq_true rfl⟩ dX8_is_18 (fun x12 v9 w10 p11 => ?_)
    have ew9 : w = w10 := p11.2.2.2.1.1.symm
    subst ew9
    have o13 := p11.1
    have k14 : Kp G v v9 := (Kp.rf).tr p11.2.1
    have f15 : Fr G [103] v v9 := Fr.tr Fr.rf (p11.2.2.2.2) (by decide)
    have b16 : Bd x12 (-2) (-2) := p11.2.2.1
    have e17 : x12 = (F_X8_bad G w v h0).1 := congrArg Prod.fst (p11.2.2.2.1).2
    have e18 : v9 = (F_X8_bad G w v h0).2 := congrArg Prod.snd (p11.2.2.2.1).2
    have hK : K_X8_is_c1 G w h0 v9 x12 = F_X8_is G w v h0 x_0 := ((kx_X8_is_1 (e6) (e17) (e18) (c7)).symm.trans hK)
    exact J_iret E hr dX8_is_21 ⟨o13, k14, trivial, ⟨⟨rfl, ((kx_X8_is_2).symm.trans hK)⟩, f15⟩⟩
  · have b19 : Bd x4 1 1 := (Bd.ne_lo c7 b5 (Bd.lit 0 0 (by decide))).w _ _ (by decide)
    have b20 : Bd x_0 0 6 := (p3.2.2.2.1).resolve_left c7
    refine J_aload_n E dX8_is_8 0 rfl ?_
    refine J_iload_n E dX8_is_9 1 rfl ?_
    refine J_iconst E 1 dX8_is_10 (by decide) ?_
    refine J_callVI E cal_X8_kindsOf wd1272 rfl (S_X8.h S0) [.int x_0, .int 1] [] (ct_X8_kindsOf l D dA G v w (hOk) h0 S0 x_0 b20 1 ((Bd.lit 1 1 (by decide)).w 0 1 (by decide))) rfl rfl (Nat.le_of_ble_eq_true rfl) ⟨rfl, rfl⟩ ⟨Nat.le_of_ble_eq_true rfl, Nat.le_of_ble_eq_true rfl⟩ dX8_is_11 (fun x24 v21 w22 p23 => ?_)
    rw [p23.1, p23.2.1]
    have b25 : Bd x24 0 127 := p23.2.2.1
    have e26 : x24 = F_X8_kindsOf G w v h0 x_0 (1 : Int32) := (p23.2.2.2)
    refine J_goto E 21 dX8_is_14 (by decide) ?_
    exact J_iret E hr dX8_is_21 ⟨hOk, Kp.rf, trivial, ⟨⟨rfl, ((kx_X8_is_3 (e6) (e26) (c7)).symm.trans hK)⟩, Fr.rf⟩⟩

def K_X8_kinds_c1 (G : Gm) (w : Mw) (h0 : Nat) (v9 : Mv) (x12 : Int32) : Int32 × Mv :=
  (x12, v9)
def K_X8_kinds_e (G : Gm) (w : Mw) (v : Mv) (h0 : Nat) (x_0 : Int32) : Int32 × Mv :=
  if (F_X8_isOne G w v h0 x_0) = (0 : Int32) then (K_X8_kinds_c1 G w h0 ((F_X8_bad G w v h0).2) ((F_X8_bad G w v h0).1)) else (((F_X8_kindsOf G w v h0 x_0 (0 : Int32)), v))
def F_X8_kinds (G : Gm) (w : Mw) (v : Mv) (h0 : Nat) (x_0 : Int32) : Int32 × Mv := K_X8_kinds_e G w v h0 x_0
set_option maxRecDepth 100000 in
theorem kx_X8_kinds_1 {G : Gm} {w : Mw} {v : Mv} {h0 : Nat} {x_0 : Int32} {v9 : Mv} {x12 : Int32} {x4 : Int32} (a0 : x4 = F_X8_isOne G w v h0 x_0) (a1 : x12 = (F_X8_bad G w v h0).1) (a2 : v9 = (F_X8_bad G w v h0).2) (k0 : x4 = (0 : Int32)) : K_X8_kinds_e G w v h0 x_0 = K_X8_kinds_c1 G w h0 v9 x12 := by
  subst a2; subst a1; subst a0; first | rw [K_X8_kinds_e, if_pos k0] | simp only [K_X8_kinds_e, if_pos k0]
set_option maxRecDepth 100000 in
theorem kx_X8_kinds_2 {G : Gm} {w : Mw} {h0 : Nat} {v9 : Mv} {x12 : Int32}   : K_X8_kinds_c1 G w h0 v9 x12 = (x12, v9) := by
  first | rw [K_X8_kinds_c1] | simp only [K_X8_kinds_c1]
set_option maxRecDepth 100000 in
theorem kx_X8_kinds_3 {G : Gm} {w : Mw} {v : Mv} {h0 : Nat} {x_0 : Int32} {x24 : Int32} {x4 : Int32} (a0 : x4 = F_X8_isOne G w v h0 x_0) (a1 : x24 = F_X8_kindsOf G w v h0 x_0 (0 : Int32)) (k0 : ¬ (x4 = (0 : Int32))) : K_X8_kinds_e G w v h0 x_0 = (x24, v) := by
  subst a1; subst a0; first | rw [K_X8_kinds_e, if_neg k0] | simp only [K_X8_kinds_e, if_neg k0]
abbrev rm_X8_kinds : Room := { frames := 2, cells := 0, slots := 0, locals := 54 }
set_option maxHeartbeats 4000000 in
set_option maxRecDepth 100000 in
theorem ct_X8_kinds (l : Launch) (D : va_G) (dA : Nat → ClassId) (G : Gm) (v : Mv) (w : Mw) (hOk : Ok G v w) (h0 : Nat) (S0 : S_X8 G h0) (x_0 : Int32) : CtI l yX8_kinds cX8_kinds 2 (some .int) rm_X8_kinds D dA G [.ref h0, .int x_0] v w (fun r v1 w1 => Ok G v1 w1 ∧ Kp G v v1 ∧ True ∧ (w1 = w ∧ (r, v1) = F_X8_kinds G w v h0 x_0) ∧ Fr G [103] v v1) := by
  refine CtI.of RX8 [(0, .ref h0), (1, .int x_0)] (Nat.le_of_ble_eq_true rfl) rfl (by decide) rfl ?_
  intro p e s m args below meth c E hr
  have hK : K_X8_kinds_e G w v h0 x_0 = F_X8_kinds G w v h0 x_0 := rfl
  refine J_aload_n E dX8_kinds_0 0 rfl ?_
  refine J_iload_n E dX8_kinds_1 1 rfl ?_
  refine J_callVI E cal_X8_isOne wd1120 rfl (S_X8.h S0) [.int x_0] [] (ct_X8_isOne l D dA G v w (hOk) h0 S0 x_0) rfl rfl (Nat.le_of_ble_eq_true rfl) ⟨rfl, rfl⟩ ⟨Nat.le_of_ble_eq_true rfl, Nat.le_of_ble_eq_true rfl⟩ dX8_kinds_2 (fun x4 v1 w2 p3 => ?_)
  rw [p3.1, p3.2.1]
  have b5 : Bd x4 0 1 := p3.2.2.1
  have e6 : x4 = F_X8_isOne G w v h0 x_0 := (p3.2.2.2.2)
  refine J_if_eq E 17 dX8_kinds_5 (by decide) (fun c7 => ?_) (fun c7 => ?_)
  · have b8 : Bd x4 0 0 := Bd.eq_l c7 b5 (Bd.lit 0 0 (by decide)) 0 0 (by decide)
    refine J_aload_n E dX8_kinds_17 0 rfl ?_
    refine J_callVI E cal_X8_bad wd999 rfl (S_X8.h S0) [] [] (ct_X8_bad l D dA G v w (hOk) h0 S0) rfl rfl (Nat.le_of_ble_eq_true rfl) ⟨rfl, rfl⟩ ⟨Nat.le_of_ble_eq_true rfl, Nat.le_of_ble_eq_true rfl⟩ dX8_kinds_18 (fun x12 v9 w10 p11 => ?_)
    have ew9 : w = w10 := p11.2.2.2.1.1.symm
    subst ew9
    have o13 := p11.1
    have k14 : Kp G v v9 := (Kp.rf).tr p11.2.1
    have f15 : Fr G [103] v v9 := Fr.tr Fr.rf (p11.2.2.2.2) (by decide)
    have b16 : Bd x12 (-2) (-2) := p11.2.2.1
    have e17 : x12 = (F_X8_bad G w v h0).1 := congrArg Prod.fst (p11.2.2.2.1).2
    have e18 : v9 = (F_X8_bad G w v h0).2 := congrArg Prod.snd (p11.2.2.2.1).2
    have hK : K_X8_kinds_c1 G w h0 v9 x12 = F_X8_kinds G w v h0 x_0 := ((kx_X8_kinds_1 (e6) (e17) (e18) (c7)).symm.trans hK)
    exact J_iret E hr dX8_kinds_21 ⟨o13, k14, trivial, ⟨⟨rfl, ((kx_X8_kinds_2).symm.trans hK)⟩, f15⟩⟩
  · have b19 : Bd x4 1 1 := (Bd.ne_lo c7 b5 (Bd.lit 0 0 (by decide))).w _ _ (by decide)
    have b20 : Bd x_0 0 6 := (p3.2.2.2.1).resolve_left c7
    refine J_aload_n E dX8_kinds_8 0 rfl ?_
    refine J_iload_n E dX8_kinds_9 1 rfl ?_
    refine J_iconst E 0 dX8_kinds_10 (by decide) ?_
    refine J_callVI E cal_X8_kindsOf wd1272 rfl (S_X8.h S0) [.int x_0, .int 0] [] (ct_X8_kindsOf l D dA G v w (hOk) h0 S0 x_0 b20 0 ((Bd.lit 0 0 (by decide)).w 0 1 (by decide))) rfl rfl (Nat.le_of_ble_eq_true rfl) ⟨rfl, rfl⟩ ⟨Nat.le_of_ble_eq_true rfl, Nat.le_of_ble_eq_true rfl⟩ dX8_kinds_11 (fun x24 v21 w22 p23 => ?_)
    rw [p23.1, p23.2.1]
    have b25 : Bd x24 0 127 := p23.2.2.1
    have e26 : x24 = F_X8_kindsOf G w v h0 x_0 (0 : Int32) := (p23.2.2.2)
    refine J_goto E 21 dX8_kinds_14 (by decide) ?_
    exact J_iret E hr dX8_kinds_21 ⟨hOk, Kp.rf, trivial, ⟨⟨rfl, ((kx_X8_kinds_3 (e6) (e26) (c7)).symm.trans hK)⟩, Fr.rf⟩⟩

def K_X8_partBy_189 (G : Gm) (w : Mw) (h0 : Nat) (rec10 : Mv → Int32 → Int32 → Int32 → Int32 → Int32 → Int32 → Int32 → Int32) (v : Mv) (x_0 : Int32) (x_1 : Int32) (x_2 : Int32) (x_3 : Int32) (x11 : Int32) (x7 : Int32) (x14 : Int32) : Int32 :=
  rec10 v x_0 x_1 x_2 x_3 x11 x14 (x7 + (1 : Int32))
def K_X8_partBy_173 (G : Gm) (w : Mw) (h0 : Nat) (rec10 : Mv → Int32 → Int32 → Int32 → Int32 → Int32 → Int32 → Int32 → Int32) (v : Mv) (x_0 : Int32) (x_1 : Int32) (x_2 : Int32) (x_3 : Int32) (x5 : Int32) (x7 : Int32) (x23 : Int32) (x25 : Int32) : Int32 :=
  if x5 ≤ x23 then (K_X8_partBy_189 G w h0 rec10 v x_0 x_1 x_2 x_3 x25 x7 x5) else (K_X8_partBy_189 G w h0 rec10 v x_0 x_1 x_2 x_3 x25 x7 x23)
def K_X8_partBy_151 (G : Gm) (w : Mw) (h0 : Nat) (rec10 : Mv → Int32 → Int32 → Int32 → Int32 → Int32 → Int32 → Int32 → Int32) (rec26 : Mv → Int32 → Int32 → Int32 → Int32 → Int32 → Int32 → Int32 → Int32 → Int32 → Int32) (v : Mv) (x_0 : Int32) (x_1 : Int32) (x_2 : Int32) (x_3 : Int32) (x3 : Int32) (x5 : Int32) (x7 : Int32) (x37 : Int32) (x45 : Int32) : Int32 :=
  rec26 v x_0 x_1 x_2 x_3 x3 x5 x7 x45 (x37 + (1 : Int32))
def K_X8_partBy_128 (G : Gm) (w : Mw) (h0 : Nat) (rec10 : Mv → Int32 → Int32 → Int32 → Int32 → Int32 → Int32 → Int32 → Int32) (rec26 : Mv → Int32 → Int32 → Int32 → Int32 → Int32 → Int32 → Int32 → Int32 → Int32 → Int32) (rec64 : Mv → Int32 → Int32 → Int32 → Int32 → Int32 → Int32 → Int32 → Int32 → Int32 → Int32 → Int32 → Int32 → Int32) (v : Mv) (x_0 : Int32) (x_1 : Int32) (x_2 : Int32) (x_3 : Int32) (x3 : Int32) (x5 : Int32) (x7 : Int32) (x35 : Int32) (x37 : Int32) (x57 : Int32) (x59 : Int32) (x69 : Int32) (x71 : Int32) : Int32 :=
  rec64 v x_0 x_1 x_2 x_3 x3 x5 x7 x35 x37 x57 (x71 + x69) (x59 + (1 : Int32))
def K_X8_partBy_127 (G : Gm) (w : Mw) (h0 : Nat) (rec10 : Mv → Int32 → Int32 → Int32 → Int32 → Int32 → Int32 → Int32 → Int32) (rec26 : Mv → Int32 → Int32 → Int32 → Int32 → Int32 → Int32 → Int32 → Int32 → Int32 → Int32) (rec64 : Mv → Int32 → Int32 → Int32 → Int32 → Int32 → Int32 → Int32 → Int32 → Int32 → Int32 → Int32 → Int32 → Int32) (v : Mv) (x_0 : Int32) (x_1 : Int32) (x_2 : Int32) (x_3 : Int32) (x3 : Int32) (x5 : Int32) (x7 : Int32) (x35 : Int32) (x37 : Int32) (x57 : Int32) (x59 : Int32) (x85 : Int32) : Int32 :=
  K_X8_partBy_128 G w h0 rec10 rec26 rec64 v x_0 x_1 x_2 x_3 x3 x5 x7 x35 x37 x57 x59 (0 : Int32) x85
def K_X8_partBy_94 (G : Gm) (w : Mw) (h0 : Nat) (rec10 : Mv → Int32 → Int32 → Int32 → Int32 → Int32 → Int32 → Int32 → Int32) (rec26 : Mv → Int32 → Int32 → Int32 → Int32 → Int32 → Int32 → Int32 → Int32 → Int32 → Int32) (rec64 : Mv → Int32 → Int32 → Int32 → Int32 → Int32 → Int32 → Int32 → Int32 → Int32 → Int32 → Int32 → Int32 → Int32) (v : Mv) (x_0 : Int32) (x_1 : Int32) (x_2 : Int32) (x_3 : Int32) (x3 : Int32) (x5 : Int32) (x7 : Int32) (x35 : Int32) (x37 : Int32) (x57 : Int32) (x58 : Int32) (x59 : Int32) (x94 : Int32) : Int32 :=
  if (F_X8_has G w v x_0 x37) = (0 : Int32) then (K_X8_partBy_127 G w h0 rec10 rec26 rec64 v x_0 x_1 x_2 x_3 x3 x5 x7 x35 x37 x57 x59 x58) else (if (F_X8_has G w v x_0 x59) = (0 : Int32) then (K_X8_partBy_127 G w h0 rec10 rec26 rec64 v x_0 x_1 x_2 x_3 x3 x5 x7 x35 x37 x57 x59 x58) else (if x57 = x94 then (K_X8_partBy_128 G w h0 rec10 rec26 rec64 v x_0 x_1 x_2 x_3 x3 x5 x7 x35 x37 x57 x59 (1 : Int32) x58) else (K_X8_partBy_127 G w h0 rec10 rec26 rec64 v x_0 x_1 x_2 x_3 x3 x5 x7 x35 x37 x57 x59 x58)))
def K_X8_partBy_64 (G : Gm) (w : Mw) (h0 : Nat) (rec10 : Mv → Int32 → Int32 → Int32 → Int32 → Int32 → Int32 → Int32 → Int32) (rec26 : Mv → Int32 → Int32 → Int32 → Int32 → Int32 → Int32 → Int32 → Int32 → Int32 → Int32) : Nat → Mv → Int32 → Int32 → Int32 → Int32 → Int32 → Int32 → Int32 → Int32 → Int32 → Int32 → Int32 → Int32 → Int32
  | 0, _, _, _, _, _, _, _, _, _, _, _, _, _ => (0 : Int32)
  | n64 + 1, v, x_0, x_1, x_2, x_3, x3, x5, x7, x35, x37, x57, x58, x59 =>
    if (5 : Int32) < x59 then (if x58 ≤ x35 then (K_X8_partBy_151 G w h0 rec10 rec26 v x_0 x_1 x_2 x_3 x3 x5 x7 x37 x35) else (K_X8_partBy_151 G w h0 rec10 rec26 v x_0 x_1 x_2 x_3 x3 x5 x7 x37 x58)) else (if x_3 = (0 : Int32) then (K_X8_partBy_94 G w h0 rec10 rec26 (K_X8_partBy_64 G w h0 rec10 rec26 n64) v x_0 x_1 x_2 x_3 x3 x5 x7 x35 x37 x57 x58 x59 (F_X8_liftsBy G w v x59 x_1 x7)) else (K_X8_partBy_94 G w h0 rec10 rec26 (K_X8_partBy_64 G w h0 rec10 rec26 n64) v x_0 x_1 x_2 x_3 x3 x5 x7 x35 x37 x57 x58 x59 (F_X8_weighsBy G w v x59 x_1 x7)))
def K_X8_partBy_56 (G : Gm) (w : Mw) (h0 : Nat) (rec10 : Mv → Int32 → Int32 → Int32 → Int32 → Int32 → Int32 → Int32 → Int32) (rec26 : Mv → Int32 → Int32 → Int32 → Int32 → Int32 → Int32 → Int32 → Int32 → Int32 → Int32) (v : Mv) (x_0 : Int32) (x_1 : Int32) (x_2 : Int32) (x_3 : Int32) (x3 : Int32) (x5 : Int32) (x7 : Int32) (x35 : Int32) (x37 : Int32) (x139 : Int32) : Int32 :=
  K_X8_partBy_64 G w h0 rec10 rec26 7 v x_0 x_1 x_2 x_3 x3 x5 x7 x35 x37 x139 (0 : Int32) (0 : Int32)
def K_X8_partBy_26 (G : Gm) (w : Mw) (h0 : Nat) (rec10 : Mv → Int32 → Int32 → Int32 → Int32 → Int32 → Int32 → Int32 → Int32) : Nat → Mv → Int32 → Int32 → Int32 → Int32 → Int32 → Int32 → Int32 → Int32 → Int32 → Int32
  | 0, _, _, _, _, _, _, _, _, _, _ => (0 : Int32)
  | n26 + 1, v, x_0, x_1, x_2, x_3, x3, x5, x7, x35, x37 =>
    if (5 : Int32) < x37 then (if x5 ≤ x35 then (K_X8_partBy_173 G w h0 rec10 v x_0 x_1 x_2 x_3 x5 x7 x35 x3) else (K_X8_partBy_173 G w h0 rec10 v x_0 x_1 x_2 x_3 x5 x7 x35 x7)) else (if x_3 = (0 : Int32) then (K_X8_partBy_56 G w h0 rec10 (K_X8_partBy_26 G w h0 rec10 n26) v x_0 x_1 x_2 x_3 x3 x5 x7 x35 x37 (F_X8_liftsBy G w v x37 x_1 x7)) else (K_X8_partBy_56 G w h0 rec10 (K_X8_partBy_26 G w h0 rec10 n26) v x_0 x_1 x_2 x_3 x3 x5 x7 x35 x37 (F_X8_weighsBy G w v x37 x_1 x7)))
def K_X8_partBy_10 (G : Gm) (w : Mw) (h0 : Nat) : Nat → Mv → Int32 → Int32 → Int32 → Int32 → Int32 → Int32 → Int32 → Int32
  | 0, _, _, _, _, _, _, _, _ => (0 : Int32)
  | n10 + 1, v, x_0, x_1, x_2, x_3, x3, x5, x7 =>
    if x_2 < x7 then (x3) else (if x_0 = (0 : Int32) then (x3) else (K_X8_partBy_26 G w h0 (K_X8_partBy_10 G w h0 n10) 7 v x_0 x_1 x_2 x_3 x3 x5 x7 (0 : Int32) (0 : Int32)))
def K_X8_partBy_e (G : Gm) (w : Mw) (v : Mv) (h0 : Nat) (x_0 : Int32) (x_1 : Int32) (x_2 : Int32) (x_3 : Int32) : Int32 :=
  K_X8_partBy_10 G w h0 101 v x_0 x_1 x_2 x_3 (-1 : Int32) (100000 : Int32) (0 : Int32)
def F_X8_partBy (G : Gm) (w : Mw) (v : Mv) (h0 : Nat) (x_0 : Int32) (x_1 : Int32) (x_2 : Int32) (x_3 : Int32) : Int32 := K_X8_partBy_e G w v h0 x_0 x_1 x_2 x_3
set_option maxRecDepth 100000 in
theorem kx_X8_partBy_1 {G : Gm} {w : Mw} {h0 : Nat} {rec10 : Mv → Int32 → Int32 → Int32 → Int32 → Int32 → Int32 → Int32 → Int32} {v : Mv} {x_0 : Int32} {x_1 : Int32} {x_2 : Int32} {x_3 : Int32} {x11 : Int32} {x7 : Int32} {x14 : Int32} {x16 : Int32} (a0 : x16 = x7 + (1 : Int32))  : K_X8_partBy_189 G w h0 rec10 v x_0 x_1 x_2 x_3 x11 x7 x14 = rec10 v x_0 x_1 x_2 x_3 x11 x14 x16 := by
  subst a0; first | rw [K_X8_partBy_189] | simp only [K_X8_partBy_189]
set_option maxRecDepth 100000 in
theorem kx_X8_partBy_2 {G : Gm} {w : Mw} {h0 : Nat} {rec10 : Mv → Int32 → Int32 → Int32 → Int32 → Int32 → Int32 → Int32 → Int32} {v : Mv} {x_0 : Int32} {x_1 : Int32} {x_2 : Int32} {x_3 : Int32} {x5 : Int32} {x7 : Int32} {x23 : Int32} {x25 : Int32}  (k0 : x5 ≤ x23) : K_X8_partBy_173 G w h0 rec10 v x_0 x_1 x_2 x_3 x5 x7 x23 x25 = K_X8_partBy_189 G w h0 rec10 v x_0 x_1 x_2 x_3 x25 x7 x5 := by
  first | rw [K_X8_partBy_173, if_pos k0] | simp only [K_X8_partBy_173, if_pos k0]
set_option maxRecDepth 100000 in
theorem kx_X8_partBy_3 {G : Gm} {w : Mw} {h0 : Nat} {rec10 : Mv → Int32 → Int32 → Int32 → Int32 → Int32 → Int32 → Int32 → Int32} {v : Mv} {x_0 : Int32} {x_1 : Int32} {x_2 : Int32} {x_3 : Int32} {x5 : Int32} {x7 : Int32} {x23 : Int32} {x25 : Int32}  (k0 : ¬ (x5 ≤ x23)) : K_X8_partBy_173 G w h0 rec10 v x_0 x_1 x_2 x_3 x5 x7 x23 x25 = K_X8_partBy_189 G w h0 rec10 v x_0 x_1 x_2 x_3 x25 x7 x23 := by
  first | rw [K_X8_partBy_173, if_neg k0] | simp only [K_X8_partBy_173, if_neg k0]
set_option maxRecDepth 100000 in
theorem kx_X8_partBy_4 {G : Gm} {w : Mw} {h0 : Nat} {rec10 : Mv → Int32 → Int32 → Int32 → Int32 → Int32 → Int32 → Int32 → Int32} {rec26 : Mv → Int32 → Int32 → Int32 → Int32 → Int32 → Int32 → Int32 → Int32 → Int32 → Int32} {v : Mv} {x_0 : Int32} {x_1 : Int32} {x_2 : Int32} {x_3 : Int32} {x3 : Int32} {x5 : Int32} {x7 : Int32} {x37 : Int32} {x45 : Int32} {x47 : Int32} (a0 : x47 = x37 + (1 : Int32))  : K_X8_partBy_151 G w h0 rec10 rec26 v x_0 x_1 x_2 x_3 x3 x5 x7 x37 x45 = rec26 v x_0 x_1 x_2 x_3 x3 x5 x7 x45 x47 := by
  subst a0; first | rw [K_X8_partBy_151] | simp only [K_X8_partBy_151]
set_option maxRecDepth 100000 in
theorem kx_X8_partBy_5 {G : Gm} {w : Mw} {h0 : Nat} {rec10 : Mv → Int32 → Int32 → Int32 → Int32 → Int32 → Int32 → Int32 → Int32} {rec26 : Mv → Int32 → Int32 → Int32 → Int32 → Int32 → Int32 → Int32 → Int32 → Int32 → Int32} {rec64 : Mv → Int32 → Int32 → Int32 → Int32 → Int32 → Int32 → Int32 → Int32 → Int32 → Int32 → Int32 → Int32 → Int32} {v : Mv} {x_0 : Int32} {x_1 : Int32} {x_2 : Int32} {x_3 : Int32} {x3 : Int32} {x5 : Int32} {x7 : Int32} {x35 : Int32} {x37 : Int32} {x57 : Int32} {x59 : Int32} {x69 : Int32} {x71 : Int32} {x72 : Int32} {x74 : Int32} (a0 : x72 = x71 + x69) (a1 : x74 = x59 + (1 : Int32))  : K_X8_partBy_128 G w h0 rec10 rec26 rec64 v x_0 x_1 x_2 x_3 x3 x5 x7 x35 x37 x57 x59 x69 x71 = rec64 v x_0 x_1 x_2 x_3 x3 x5 x7 x35 x37 x57 x72 x74 := by
  subst a1; subst a0; first | rw [K_X8_partBy_128] | simp only [K_X8_partBy_128]
set_option maxRecDepth 100000 in
theorem kx_X8_partBy_6 {G : Gm} {w : Mw} {h0 : Nat} {rec10 : Mv → Int32 → Int32 → Int32 → Int32 → Int32 → Int32 → Int32 → Int32} {rec26 : Mv → Int32 → Int32 → Int32 → Int32 → Int32 → Int32 → Int32 → Int32 → Int32 → Int32} {rec64 : Mv → Int32 → Int32 → Int32 → Int32 → Int32 → Int32 → Int32 → Int32 → Int32 → Int32 → Int32 → Int32 → Int32} {v : Mv} {x_0 : Int32} {x_1 : Int32} {x_2 : Int32} {x_3 : Int32} {x3 : Int32} {x5 : Int32} {x7 : Int32} {x35 : Int32} {x37 : Int32} {x57 : Int32} {x59 : Int32} {x85 : Int32}   : K_X8_partBy_127 G w h0 rec10 rec26 rec64 v x_0 x_1 x_2 x_3 x3 x5 x7 x35 x37 x57 x59 x85 = K_X8_partBy_128 G w h0 rec10 rec26 rec64 v x_0 x_1 x_2 x_3 x3 x5 x7 x35 x37 x57 x59 (0 : Int32) x85 := by
  first | rw [K_X8_partBy_127] | simp only [K_X8_partBy_127]
set_option maxRecDepth 100000 in
theorem kx_X8_partBy_7 {G : Gm} {w : Mw} {h0 : Nat} {rec10 : Mv → Int32 → Int32 → Int32 → Int32 → Int32 → Int32 → Int32 → Int32} {rec26 : Mv → Int32 → Int32 → Int32 → Int32 → Int32 → Int32 → Int32 → Int32 → Int32 → Int32} {rec64 : Mv → Int32 → Int32 → Int32 → Int32 → Int32 → Int32 → Int32 → Int32 → Int32 → Int32 → Int32 → Int32 → Int32} {v : Mv} {x_0 : Int32} {x_1 : Int32} {x_2 : Int32} {x_3 : Int32} {x3 : Int32} {x5 : Int32} {x7 : Int32} {x35 : Int32} {x37 : Int32} {x57 : Int32} {x58 : Int32} {x59 : Int32} {x94 : Int32} {x98 : Int32} (a0 : x98 = F_X8_has G w v x_0 x37) (k0 : x98 = (0 : Int32)) : K_X8_partBy_94 G w h0 rec10 rec26 rec64 v x_0 x_1 x_2 x_3 x3 x5 x7 x35 x37 x57 x58 x59 x94 = K_X8_partBy_127 G w h0 rec10 rec26 rec64 v x_0 x_1 x_2 x_3 x3 x5 x7 x35 x37 x57 x59 x58 := by
  subst a0; first | rw [K_X8_partBy_94, if_pos k0] | simp only [K_X8_partBy_94, if_pos k0]
set_option maxRecDepth 100000 in
theorem kx_X8_partBy_8 {G : Gm} {w : Mw} {h0 : Nat} {rec10 : Mv → Int32 → Int32 → Int32 → Int32 → Int32 → Int32 → Int32 → Int32} {rec26 : Mv → Int32 → Int32 → Int32 → Int32 → Int32 → Int32 → Int32 → Int32 → Int32 → Int32} {rec64 : Mv → Int32 → Int32 → Int32 → Int32 → Int32 → Int32 → Int32 → Int32 → Int32 → Int32 → Int32 → Int32 → Int32} {v : Mv} {x_0 : Int32} {x_1 : Int32} {x_2 : Int32} {x_3 : Int32} {x3 : Int32} {x5 : Int32} {x7 : Int32} {x35 : Int32} {x37 : Int32} {x57 : Int32} {x58 : Int32} {x59 : Int32} {x94 : Int32} {x98 : Int32} {x107 : Int32} (a0 : x98 = F_X8_has G w v x_0 x37) (a1 : x107 = F_X8_has G w v x_0 x59) (k0 : ¬ (x98 = (0 : Int32))) (k1 : x107 = (0 : Int32)) : K_X8_partBy_94 G w h0 rec10 rec26 rec64 v x_0 x_1 x_2 x_3 x3 x5 x7 x35 x37 x57 x58 x59 x94 = K_X8_partBy_127 G w h0 rec10 rec26 rec64 v x_0 x_1 x_2 x_3 x3 x5 x7 x35 x37 x57 x59 x58 := by
  subst a1; subst a0; first | rw [K_X8_partBy_94, if_neg k0, if_pos k1] | simp only [K_X8_partBy_94, if_neg k0, if_pos k1]
set_option maxRecDepth 100000 in
theorem kx_X8_partBy_9 {G : Gm} {w : Mw} {h0 : Nat} {rec10 : Mv → Int32 → Int32 → Int32 → Int32 → Int32 → Int32 → Int32 → Int32} {rec26 : Mv → Int32 → Int32 → Int32 → Int32 → Int32 → Int32 → Int32 → Int32 → Int32 → Int32} {rec64 : Mv → Int32 → Int32 → Int32 → Int32 → Int32 → Int32 → Int32 → Int32 → Int32 → Int32 → Int32 → Int32 → Int32} {v : Mv} {x_0 : Int32} {x_1 : Int32} {x_2 : Int32} {x_3 : Int32} {x3 : Int32} {x5 : Int32} {x7 : Int32} {x35 : Int32} {x37 : Int32} {x57 : Int32} {x58 : Int32} {x59 : Int32} {x94 : Int32} {x98 : Int32} {x107 : Int32} (a0 : x98 = F_X8_has G w v x_0 x37) (a1 : x107 = F_X8_has G w v x_0 x59) (k0 : ¬ (x98 = (0 : Int32))) (k1 : ¬ (x107 = (0 : Int32))) (k2 : ¬ (x57 = x94)) : K_X8_partBy_94 G w h0 rec10 rec26 rec64 v x_0 x_1 x_2 x_3 x3 x5 x7 x35 x37 x57 x58 x59 x94 = K_X8_partBy_127 G w h0 rec10 rec26 rec64 v x_0 x_1 x_2 x_3 x3 x5 x7 x35 x37 x57 x59 x58 := by
  subst a1; subst a0; first | rw [K_X8_partBy_94, if_neg k0, if_neg k1, if_neg k2] | simp only [K_X8_partBy_94, if_neg k0, if_neg k1, if_neg k2]
set_option maxRecDepth 100000 in
theorem kx_X8_partBy_10 {G : Gm} {w : Mw} {h0 : Nat} {rec10 : Mv → Int32 → Int32 → Int32 → Int32 → Int32 → Int32 → Int32 → Int32} {rec26 : Mv → Int32 → Int32 → Int32 → Int32 → Int32 → Int32 → Int32 → Int32 → Int32 → Int32} {rec64 : Mv → Int32 → Int32 → Int32 → Int32 → Int32 → Int32 → Int32 → Int32 → Int32 → Int32 → Int32 → Int32 → Int32} {v : Mv} {x_0 : Int32} {x_1 : Int32} {x_2 : Int32} {x_3 : Int32} {x3 : Int32} {x5 : Int32} {x7 : Int32} {x35 : Int32} {x37 : Int32} {x57 : Int32} {x58 : Int32} {x59 : Int32} {x94 : Int32} {x98 : Int32} {x107 : Int32} (a0 : x98 = F_X8_has G w v x_0 x37) (a1 : x107 = F_X8_has G w v x_0 x59) (k0 : ¬ (x98 = (0 : Int32))) (k1 : ¬ (x107 = (0 : Int32))) (k2 : x57 = x94) : K_X8_partBy_94 G w h0 rec10 rec26 rec64 v x_0 x_1 x_2 x_3 x3 x5 x7 x35 x37 x57 x58 x59 x94 = K_X8_partBy_128 G w h0 rec10 rec26 rec64 v x_0 x_1 x_2 x_3 x3 x5 x7 x35 x37 x57 x59 (1 : Int32) x58 := by
  subst a1; subst a0; first | rw [K_X8_partBy_94, if_neg k0, if_neg k1, if_pos k2] | simp only [K_X8_partBy_94, if_neg k0, if_neg k1, if_pos k2]
set_option maxRecDepth 100000 in
theorem kx_X8_partBy_11 {G : Gm} {w : Mw} {h0 : Nat} {rec10 : Mv → Int32 → Int32 → Int32 → Int32 → Int32 → Int32 → Int32 → Int32} {rec26 : Mv → Int32 → Int32 → Int32 → Int32 → Int32 → Int32 → Int32 → Int32 → Int32 → Int32} {n64 : Nat} {v : Mv} {x_0 : Int32} {x_1 : Int32} {x_2 : Int32} {x_3 : Int32} {x3 : Int32} {x5 : Int32} {x7 : Int32} {x35 : Int32} {x37 : Int32} {x57 : Int32} {x58 : Int32} {x59 : Int32}  (k0 : (5 : Int32) < x59) (k1 : x58 ≤ x35) : K_X8_partBy_64 G w h0 rec10 rec26 (n64 + 1) v x_0 x_1 x_2 x_3 x3 x5 x7 x35 x37 x57 x58 x59 = K_X8_partBy_151 G w h0 rec10 rec26 v x_0 x_1 x_2 x_3 x3 x5 x7 x37 x35 := by
  first | rw [K_X8_partBy_64, if_pos k0, if_pos k1] | simp only [K_X8_partBy_64, if_pos k0, if_pos k1]
set_option maxRecDepth 100000 in
theorem kx_X8_partBy_12 {G : Gm} {w : Mw} {h0 : Nat} {rec10 : Mv → Int32 → Int32 → Int32 → Int32 → Int32 → Int32 → Int32 → Int32} {rec26 : Mv → Int32 → Int32 → Int32 → Int32 → Int32 → Int32 → Int32 → Int32 → Int32 → Int32} {n64 : Nat} {v : Mv} {x_0 : Int32} {x_1 : Int32} {x_2 : Int32} {x_3 : Int32} {x3 : Int32} {x5 : Int32} {x7 : Int32} {x35 : Int32} {x37 : Int32} {x57 : Int32} {x58 : Int32} {x59 : Int32}  (k0 : (5 : Int32) < x59) (k1 : ¬ (x58 ≤ x35)) : K_X8_partBy_64 G w h0 rec10 rec26 (n64 + 1) v x_0 x_1 x_2 x_3 x3 x5 x7 x35 x37 x57 x58 x59 = K_X8_partBy_151 G w h0 rec10 rec26 v x_0 x_1 x_2 x_3 x3 x5 x7 x37 x58 := by
  first | rw [K_X8_partBy_64, if_pos k0, if_neg k1] | simp only [K_X8_partBy_64, if_pos k0, if_neg k1]
set_option maxRecDepth 100000 in
theorem kx_X8_partBy_13 {G : Gm} {w : Mw} {h0 : Nat} {rec10 : Mv → Int32 → Int32 → Int32 → Int32 → Int32 → Int32 → Int32 → Int32} {rec26 : Mv → Int32 → Int32 → Int32 → Int32 → Int32 → Int32 → Int32 → Int32 → Int32 → Int32} {n64 : Nat} {v : Mv} {x_0 : Int32} {x_1 : Int32} {x_2 : Int32} {x_3 : Int32} {x3 : Int32} {x5 : Int32} {x7 : Int32} {x35 : Int32} {x37 : Int32} {x57 : Int32} {x58 : Int32} {x59 : Int32} {x124 : Int32} (a0 : x124 = F_X8_liftsBy G w v x59 x_1 x7) (k0 : ¬ ((5 : Int32) < x59)) (k1 : x_3 = (0 : Int32)) : K_X8_partBy_64 G w h0 rec10 rec26 (n64 + 1) v x_0 x_1 x_2 x_3 x3 x5 x7 x35 x37 x57 x58 x59 = K_X8_partBy_94 G w h0 rec10 rec26 (K_X8_partBy_64 G w h0 rec10 rec26 n64) v x_0 x_1 x_2 x_3 x3 x5 x7 x35 x37 x57 x58 x59 x124 := by
  subst a0; first | rw [K_X8_partBy_64, if_neg k0, if_pos k1] | simp only [K_X8_partBy_64, if_neg k0, if_pos k1]
set_option maxRecDepth 100000 in
theorem kx_X8_partBy_14 {G : Gm} {w : Mw} {h0 : Nat} {rec10 : Mv → Int32 → Int32 → Int32 → Int32 → Int32 → Int32 → Int32 → Int32} {rec26 : Mv → Int32 → Int32 → Int32 → Int32 → Int32 → Int32 → Int32 → Int32 → Int32 → Int32} {n64 : Nat} {v : Mv} {x_0 : Int32} {x_1 : Int32} {x_2 : Int32} {x_3 : Int32} {x3 : Int32} {x5 : Int32} {x7 : Int32} {x35 : Int32} {x37 : Int32} {x57 : Int32} {x58 : Int32} {x59 : Int32} {x130 : Int32} (a0 : x130 = F_X8_weighsBy G w v x59 x_1 x7) (k0 : ¬ ((5 : Int32) < x59)) (k1 : ¬ (x_3 = (0 : Int32))) : K_X8_partBy_64 G w h0 rec10 rec26 (n64 + 1) v x_0 x_1 x_2 x_3 x3 x5 x7 x35 x37 x57 x58 x59 = K_X8_partBy_94 G w h0 rec10 rec26 (K_X8_partBy_64 G w h0 rec10 rec26 n64) v x_0 x_1 x_2 x_3 x3 x5 x7 x35 x37 x57 x58 x59 x130 := by
  subst a0; first | rw [K_X8_partBy_64, if_neg k0, if_neg k1] | simp only [K_X8_partBy_64, if_neg k0, if_neg k1]
set_option maxRecDepth 100000 in
theorem kx_X8_partBy_15 {G : Gm} {w : Mw} {h0 : Nat} {rec10 : Mv → Int32 → Int32 → Int32 → Int32 → Int32 → Int32 → Int32 → Int32} {rec26 : Mv → Int32 → Int32 → Int32 → Int32 → Int32 → Int32 → Int32 → Int32 → Int32 → Int32} {v : Mv} {x_0 : Int32} {x_1 : Int32} {x_2 : Int32} {x_3 : Int32} {x3 : Int32} {x5 : Int32} {x7 : Int32} {x35 : Int32} {x37 : Int32} {x139 : Int32}   : K_X8_partBy_56 G w h0 rec10 rec26 v x_0 x_1 x_2 x_3 x3 x5 x7 x35 x37 x139 = K_X8_partBy_64 G w h0 rec10 rec26 7 v x_0 x_1 x_2 x_3 x3 x5 x7 x35 x37 x139 (0 : Int32) (0 : Int32) := by
  first | rw [K_X8_partBy_56] | simp only [K_X8_partBy_56]
set_option maxRecDepth 100000 in
theorem kx_X8_partBy_16 {G : Gm} {w : Mw} {h0 : Nat} {rec10 : Mv → Int32 → Int32 → Int32 → Int32 → Int32 → Int32 → Int32 → Int32} {n26 : Nat} {v : Mv} {x_0 : Int32} {x_1 : Int32} {x_2 : Int32} {x_3 : Int32} {x3 : Int32} {x5 : Int32} {x7 : Int32} {x35 : Int32} {x37 : Int32}  (k0 : (5 : Int32) < x37) (k1 : x5 ≤ x35) : K_X8_partBy_26 G w h0 rec10 (n26 + 1) v x_0 x_1 x_2 x_3 x3 x5 x7 x35 x37 = K_X8_partBy_173 G w h0 rec10 v x_0 x_1 x_2 x_3 x5 x7 x35 x3 := by
  first | rw [K_X8_partBy_26, if_pos k0, if_pos k1] | simp only [K_X8_partBy_26, if_pos k0, if_pos k1]
set_option maxRecDepth 100000 in
theorem kx_X8_partBy_17 {G : Gm} {w : Mw} {h0 : Nat} {rec10 : Mv → Int32 → Int32 → Int32 → Int32 → Int32 → Int32 → Int32 → Int32} {n26 : Nat} {v : Mv} {x_0 : Int32} {x_1 : Int32} {x_2 : Int32} {x_3 : Int32} {x3 : Int32} {x5 : Int32} {x7 : Int32} {x35 : Int32} {x37 : Int32}  (k0 : (5 : Int32) < x37) (k1 : ¬ (x5 ≤ x35)) : K_X8_partBy_26 G w h0 rec10 (n26 + 1) v x_0 x_1 x_2 x_3 x3 x5 x7 x35 x37 = K_X8_partBy_173 G w h0 rec10 v x_0 x_1 x_2 x_3 x5 x7 x35 x7 := by
  first | rw [K_X8_partBy_26, if_pos k0, if_neg k1] | simp only [K_X8_partBy_26, if_pos k0, if_neg k1]
set_option maxRecDepth 100000 in
theorem kx_X8_partBy_18 {G : Gm} {w : Mw} {h0 : Nat} {rec10 : Mv → Int32 → Int32 → Int32 → Int32 → Int32 → Int32 → Int32 → Int32} {n26 : Nat} {v : Mv} {x_0 : Int32} {x_1 : Int32} {x_2 : Int32} {x_3 : Int32} {x3 : Int32} {x5 : Int32} {x7 : Int32} {x35 : Int32} {x37 : Int32} {x151 : Int32} (a0 : x151 = F_X8_liftsBy G w v x37 x_1 x7) (k0 : ¬ ((5 : Int32) < x37)) (k1 : x_3 = (0 : Int32)) : K_X8_partBy_26 G w h0 rec10 (n26 + 1) v x_0 x_1 x_2 x_3 x3 x5 x7 x35 x37 = K_X8_partBy_56 G w h0 rec10 (K_X8_partBy_26 G w h0 rec10 n26) v x_0 x_1 x_2 x_3 x3 x5 x7 x35 x37 x151 := by
  subst a0; first | rw [K_X8_partBy_26, if_neg k0, if_pos k1] | simp only [K_X8_partBy_26, if_neg k0, if_pos k1]
set_option maxRecDepth 100000 in
theorem kx_X8_partBy_19 {G : Gm} {w : Mw} {h0 : Nat} {rec10 : Mv → Int32 → Int32 → Int32 → Int32 → Int32 → Int32 → Int32 → Int32} {n26 : Nat} {v : Mv} {x_0 : Int32} {x_1 : Int32} {x_2 : Int32} {x_3 : Int32} {x3 : Int32} {x5 : Int32} {x7 : Int32} {x35 : Int32} {x37 : Int32} {x157 : Int32} (a0 : x157 = F_X8_weighsBy G w v x37 x_1 x7) (k0 : ¬ ((5 : Int32) < x37)) (k1 : ¬ (x_3 = (0 : Int32))) : K_X8_partBy_26 G w h0 rec10 (n26 + 1) v x_0 x_1 x_2 x_3 x3 x5 x7 x35 x37 = K_X8_partBy_56 G w h0 rec10 (K_X8_partBy_26 G w h0 rec10 n26) v x_0 x_1 x_2 x_3 x3 x5 x7 x35 x37 x157 := by
  subst a0; first | rw [K_X8_partBy_26, if_neg k0, if_neg k1] | simp only [K_X8_partBy_26, if_neg k0, if_neg k1]
set_option maxRecDepth 100000 in
theorem kx_X8_partBy_20 {G : Gm} {w : Mw} {h0 : Nat} {n10 : Nat} {v : Mv} {x_0 : Int32} {x_1 : Int32} {x_2 : Int32} {x_3 : Int32} {x3 : Int32} {x5 : Int32} {x7 : Int32}  (k0 : x_2 < x7) : K_X8_partBy_10 G w h0 (n10 + 1) v x_0 x_1 x_2 x_3 x3 x5 x7 = x3 := by
  first | rw [K_X8_partBy_10, if_pos k0] | simp only [K_X8_partBy_10, if_pos k0]
set_option maxRecDepth 100000 in
theorem kx_X8_partBy_21 {G : Gm} {w : Mw} {h0 : Nat} {n10 : Nat} {v : Mv} {x_0 : Int32} {x_1 : Int32} {x_2 : Int32} {x_3 : Int32} {x3 : Int32} {x5 : Int32} {x7 : Int32}  (k0 : ¬ (x_2 < x7)) (k1 : x_0 = (0 : Int32)) : K_X8_partBy_10 G w h0 (n10 + 1) v x_0 x_1 x_2 x_3 x3 x5 x7 = x3 := by
  first | rw [K_X8_partBy_10, if_neg k0, if_pos k1] | simp only [K_X8_partBy_10, if_neg k0, if_pos k1]
set_option maxRecDepth 100000 in
theorem kx_X8_partBy_22 {G : Gm} {w : Mw} {h0 : Nat} {n10 : Nat} {v : Mv} {x_0 : Int32} {x_1 : Int32} {x_2 : Int32} {x_3 : Int32} {x3 : Int32} {x5 : Int32} {x7 : Int32}  (k0 : ¬ (x_2 < x7)) (k1 : ¬ (x_0 = (0 : Int32))) : K_X8_partBy_10 G w h0 (n10 + 1) v x_0 x_1 x_2 x_3 x3 x5 x7 = K_X8_partBy_26 G w h0 (K_X8_partBy_10 G w h0 n10) 7 v x_0 x_1 x_2 x_3 x3 x5 x7 (0 : Int32) (0 : Int32) := by
  first | rw [K_X8_partBy_10, if_neg k0, if_neg k1] | simp only [K_X8_partBy_10, if_neg k0, if_neg k1]
set_option maxRecDepth 100000 in
theorem kx_X8_partBy_23 {G : Gm} {w : Mw} {v : Mv} {h0 : Nat} {x_0 : Int32} {x_1 : Int32} {x_2 : Int32} {x_3 : Int32}   : K_X8_partBy_e G w v h0 x_0 x_1 x_2 x_3 = K_X8_partBy_10 G w h0 101 v x_0 x_1 x_2 x_3 (-1 : Int32) (100000 : Int32) (0 : Int32) := by
  first | rw [K_X8_partBy_e] | simp only [K_X8_partBy_e]
abbrev rm_X8_partBy : Room := { frames := 1, cells := 0, slots := 0, locals := 24 }
set_option maxHeartbeats 4000000 in
set_option maxRecDepth 100000 in
theorem ct_X8_partBy (l : Launch) (D : va_G) (dA : Nat → ClassId) (G : Gm) (v : Mv) (w : Mw) (hOk : Ok G v w) (h0 : Nat) (S0 : S_X8 G h0) (x_0 : Int32) (x_1 : Int32) (x_2 : Int32) (bx_2 : Bd x_2 60 99) (x_3 : Int32) (bx_3 : Bd x_3 0 1) : CtI l yX8_partBy cX8_partBy 14 (some .int) rm_X8_partBy D dA G [.ref h0, .int x_0, .int x_1, .int x_2, .int x_3] v w (fun r v1 w1 => v1 = v ∧ w1 = w ∧ Bd r (-1) 99 ∧ r = F_X8_partBy G w v h0 x_0 x_1 x_2 x_3) := by
  refine CtI.of RX8 [(0, .ref h0), (1, .int x_0), (2, .int x_1), (3, .int x_2), (4, .int x_3)] (Nat.le_of_ble_eq_true rfl) rfl (by decide) rfl ?_
  intro p e s m args below meth c E hr
  have J10 : ∀ n10 : Nat, Bd x_2 60 99 → Bd x_3 0 1 → ∀ x3 : Int32, Bd x3 (-1) 99 → ∀ x5 : Int32, Bd x5 0 100000 → ∀ x7 : Int32, Bd x7 0 100 → Mu x7 100 n10 → K_X8_partBy_10 G w h0 n10 v x_0 x_1 x_2 x_3 x3 x5 x7 = F_X8_partBy G w v h0 x_0 x_1 x_2 x_3 → J p l e rm_X8_partBy s m args below meth c 0 0 (MQ below (QcI D dA G (fun r v1 w1 => v1 = v ∧ w1 = w ∧ Bd r (-1) 99 ∧ r = F_X8_partBy G w v h0 x_0 x_1 x_2 x_3)) args s 0 0 (dm G)) D dA G (dm G) s.heap 14 v w [(1, .int x_0), (2, .int x_1), (3, .int x_2), (4, .int x_3), (5, .int x3), (6, .int x5), (7, .int x7)] 10 [] := by
    intro n10
    induction n10 with
    | zero => intro b1 b2 x3 b4 x5 b6 x7 b8 hm hK; exact hm.zero b8 (by decide)
    | succ n10 ih10 =>
      intro b1 b2 x3 b4 x5 b6 x7 b8 hmu10 hK
      have J189 : Bd x_2 60 99 → Bd x_3 0 1 → ∀ x11 : Int32, Bd x11 (-1) 99 → Bd x7 0 99 → ∀ x14 : Int32, Bd x14 0 100000 → K_X8_partBy_189 G w h0 (K_X8_partBy_10 G w h0 n10) v x_0 x_1 x_2 x_3 x11 x7 x14 = F_X8_partBy G w v h0 x_0 x_1 x_2 x_3 → J p l e rm_X8_partBy s m args below meth c 0 0 (MQ below (QcI D dA G (fun r v1 w1 => v1 = v ∧ w1 = w ∧ Bd r (-1) 99 ∧ r = F_X8_partBy G w v h0 x_0 x_1 x_2 x_3)) args s 0 0 (dm G)) D dA G (dm G) s.heap 14 v w [(1, .int x_0), (2, .int x_1), (3, .int x_2), (4, .int x_3), (5, .int x11), (7, .int x7)] 189 [.int x14] := by
        intro b9 b10 x11 b12 b13 x14 b15 hK
        refine J_istore E [(6, .int x14), (1, .int x_0), (2, .int x_1), (3, .int x_2), (4, .int x_3), (5, .int x11), (7, .int x7)] dX8_partBy_189 (by decide) rfl ?_
        refine J_iinc E 6 1 (fun z => [(7, .int z), (6, .int x14), (1, .int x_0), (2, .int x_1), (3, .int x_2), (4, .int x_3), (5, .int x11)]) dX8_partBy_191 rfl (by decide) (by decide) (fun _ => rfl) (fun x16 e17 => ?_)
        have b18 : Bd x16 1 100 := (Bd.add e17 b13 (Bd.lit 1 1 (by decide)) (by decide)).w _ _ (by decide)
        refine J_goto E 10 dX8_partBy_194 (by decide) ?_
        exact J.sub [2, 3, 4, 5, 6, 1, 0] rfl (ih10 b9 b10 x11 b12 x14 b15 x16 (b18.w 0 100 (by decide)) (Mu.step hmu10 e17 b13 (Bd.lit 1 1 (by decide)) (by decide)) ((kx_X8_partBy_1 (e17)).symm.trans hK))
      have J173 : Bd x_2 60 99 → Bd x_3 0 1 → Bd x5 0 100000 → Bd x7 0 99 → ∀ x23 : Int32, Bd x23 0 I1 → ∀ x25 : Int32, Bd x25 (-1) 99 → K_X8_partBy_173 G w h0 (K_X8_partBy_10 G w h0 n10) v x_0 x_1 x_2 x_3 x5 x7 x23 x25 = F_X8_partBy G w v h0 x_0 x_1 x_2 x_3 → J p l e rm_X8_partBy s m args below meth c 0 0 (MQ below (QcI D dA G (fun r v1 w1 => v1 = v ∧ w1 = w ∧ Bd r (-1) 99 ∧ r = F_X8_partBy G w v h0 x_0 x_1 x_2 x_3)) args s 0 0 (dm G)) D dA G (dm G) s.heap 14 v w [(1, .int x_0), (2, .int x_1), (3, .int x_2), (4, .int x_3), (6, .int x5), (7, .int x7), (8, .int x23)] 173 [.int x25] := by
        intro b19 b20 b21 b22 x23 b24 x25 b26 hK
        refine J_istore E [(5, .int x25), (1, .int x_0), (2, .int x_1), (3, .int x_2), (4, .int x_3), (6, .int x5), (7, .int x7), (8, .int x23)] dX8_partBy_173 (by decide) rfl ?_
        refine J_iload E dX8_partBy_175 7 rfl ?_
        refine J_iload E dX8_partBy_177 5 rfl ?_
        refine J_icmp_ge E 187 dX8_partBy_179 (by decide) (fun c27 => ?_) (fun c27 => ?_)
        · refine J_iload E dX8_partBy_187 5 rfl ?_
          exact J.sub [1, 2, 3, 4, 0, 6] rfl (J189 b19 b20 x25 b26 b22 x5 b21 ((kx_X8_partBy_2 (c27)).symm.trans hK))
        · have b28 : Bd x23 0 99999 := Bd.lt_l (nle c27) b24 b21 99999 (by decide)
          have b29 : Bd x5 1 100000 := Bd.lt_r (nle c27) b24 b21 1 (by decide)
          refine J_iload E dX8_partBy_182 7 rfl ?_
          refine J_goto E 189 dX8_partBy_184 (by decide) ?_
          exact J.sub [1, 2, 3, 4, 0, 6] rfl (J189 b19 b20 x25 b26 b22 x23 (b28.w 0 100000 (by decide)) ((kx_X8_partBy_3 (c27)).symm.trans hK))
      have J26 : ∀ n26 : Nat, Bd x_2 60 99 → Bd x_3 0 1 → Bd x3 (-1) 99 → Bd x5 0 100000 → Bd x7 0 99 → ∀ x35 : Int32, Bd x35 0 I1 → ∀ x37 : Int32, Bd x37 0 6 → Mu x37 6 n26 → K_X8_partBy_26 G w h0 (K_X8_partBy_10 G w h0 n10) n26 v x_0 x_1 x_2 x_3 x3 x5 x7 x35 x37 = F_X8_partBy G w v h0 x_0 x_1 x_2 x_3 → J p l e rm_X8_partBy s m args below meth c 0 0 (MQ below (QcI D dA G (fun r v1 w1 => v1 = v ∧ w1 = w ∧ Bd r (-1) 99 ∧ r = F_X8_partBy G w v h0 x_0 x_1 x_2 x_3)) args s 0 0 (dm G)) D dA G (dm G) s.heap 14 v w [(1, .int x_0), (2, .int x_1), (3, .int x_2), (4, .int x_3), (5, .int x3), (6, .int x5), (7, .int x7), (8, .int x35), (9, .int x37)] 26 [] := by
        intro n26
        induction n26 with
        | zero => intro b30 b31 b32 b33 b34 x35 b36 x37 b38 hm hK; exact hm.zero b38 (by decide)
        | succ n26 ih26 =>
          intro b30 b31 b32 b33 b34 x35 b36 x37 b38 hmu26 hK
          have J151 : Bd x_2 60 99 → Bd x_3 0 1 → Bd x3 (-1) 99 → Bd x5 0 100000 → Bd x7 0 99 → Bd x37 0 5 → ∀ x45 : Int32, Bd x45 0 I1 → K_X8_partBy_151 G w h0 (K_X8_partBy_10 G w h0 n10) (K_X8_partBy_26 G w h0 (K_X8_partBy_10 G w h0 n10) n26) v x_0 x_1 x_2 x_3 x3 x5 x7 x37 x45 = F_X8_partBy G w v h0 x_0 x_1 x_2 x_3 → J p l e rm_X8_partBy s m args below meth c 0 0 (MQ below (QcI D dA G (fun r v1 w1 => v1 = v ∧ w1 = w ∧ Bd r (-1) 99 ∧ r = F_X8_partBy G w v h0 x_0 x_1 x_2 x_3)) args s 0 0 (dm G)) D dA G (dm G) s.heap 14 v w [(1, .int x_0), (2, .int x_1), (3, .int x_2), (4, .int x_3), (5, .int x3), (6, .int x5), (7, .int x7), (9, .int x37)] 151 [.int x45] := by
            intro b39 b40 b41 b42 b43 b44 x45 b46 hK
            refine J_istore E [(8, .int x45), (1, .int x_0), (2, .int x_1), (3, .int x_2), (4, .int x_3), (5, .int x3), (6, .int x5), (7, .int x7), (9, .int x37)] dX8_partBy_151 (by decide) rfl ?_
            refine J_iinc E 8 1 (fun z => [(9, .int z), (8, .int x45), (1, .int x_0), (2, .int x_1), (3, .int x_2), (4, .int x_3), (5, .int x3), (6, .int x5), (7, .int x7)]) dX8_partBy_153 rfl (by decide) (by decide) (fun _ => rfl) (fun x47 e48 => ?_)
            have b49 : Bd x47 1 6 := (Bd.add e48 b44 (Bd.lit 1 1 (by decide)) (by decide)).w _ _ (by decide)
            refine J_goto E 26 dX8_partBy_156 (by decide) ?_
            exact J.sub [2, 3, 4, 5, 6, 7, 8, 1, 0] rfl (ih26 b39 b40 b41 b42 b43 x45 b46 x47 (b49.w 0 6 (by decide)) (Mu.step hmu26 e48 b44 (Bd.lit 1 1 (by decide)) (by decide)) ((kx_X8_partBy_4 (e48)).symm.trans hK))
          have J64 : ∀ n64 : Nat, Bd x_2 60 99 → Bd x_3 0 1 → Bd x3 (-1) 99 → Bd x5 0 100000 → Bd x7 0 99 → Bd x35 0 I1 → Bd x37 0 5 → ∀ x57 : Int32, ∀ x58 : Int32, ∀ x59 : Int32, Bd x59 0 6 → Mu x59 6 n64 → K_X8_partBy_64 G w h0 (K_X8_partBy_10 G w h0 n10) (K_X8_partBy_26 G w h0 (K_X8_partBy_10 G w h0 n10) n26) n64 v x_0 x_1 x_2 x_3 x3 x5 x7 x35 x37 x57 x58 x59 = F_X8_partBy G w v h0 x_0 x_1 x_2 x_3 → J p l e rm_X8_partBy s m args below meth c 0 0 (MQ below (QcI D dA G (fun r v1 w1 => v1 = v ∧ w1 = w ∧ Bd r (-1) 99 ∧ r = F_X8_partBy G w v h0 x_0 x_1 x_2 x_3)) args s 0 0 (dm G)) D dA G (dm G) s.heap 14 v w [(1, .int x_0), (2, .int x_1), (3, .int x_2), (4, .int x_3), (5, .int x3), (6, .int x5), (7, .int x7), (8, .int x35), (9, .int x37), (10, .int x57), (11, .int x58), (12, .int x59)] 64 [] := by
            intro n64
            induction n64 with
            | zero => intro b50 b51 b52 b53 b54 b55 b56 x57 x58 x59 b60 hm hK; exact hm.zero b60 (by decide)
            | succ n64 ih64 =>
              intro b50 b51 b52 b53 b54 b55 b56 x57 x58 x59 b60 hmu64 hK
              have J128 : Bd x_2 60 99 → Bd x_3 0 1 → Bd x3 (-1) 99 → Bd x5 0 100000 → Bd x7 0 99 → Bd x35 0 I1 → Bd x37 0 5 → Bd x59 0 5 → ∀ x69 : Int32, Bd x69 0 1 → ∀ x71 : Int32, K_X8_partBy_128 G w h0 (K_X8_partBy_10 G w h0 n10) (K_X8_partBy_26 G w h0 (K_X8_partBy_10 G w h0 n10) n26) (K_X8_partBy_64 G w h0 (K_X8_partBy_10 G w h0 n10) (K_X8_partBy_26 G w h0 (K_X8_partBy_10 G w h0 n10) n26) n64) v x_0 x_1 x_2 x_3 x3 x5 x7 x35 x37 x57 x59 x69 x71 = F_X8_partBy G w v h0 x_0 x_1 x_2 x_3 → J p l e rm_X8_partBy s m args below meth c 0 0 (MQ below (QcI D dA G (fun r v1 w1 => v1 = v ∧ w1 = w ∧ Bd r (-1) 99 ∧ r = F_X8_partBy G w v h0 x_0 x_1 x_2 x_3)) args s 0 0 (dm G)) D dA G (dm G) s.heap 14 v w [(1, .int x_0), (2, .int x_1), (3, .int x_2), (4, .int x_3), (5, .int x3), (6, .int x5), (7, .int x7), (8, .int x35), (9, .int x37), (10, .int x57), (12, .int x59)] 128 [.int x69, .int x71] := by
                intro b61 b62 b63 b64 b65 b66 b67 b68 x69 b70 x71 hK
                refine J_iadd E dX8_partBy_128 (fun x72 e73 => ?_)
                refine J_istore E [(11, .int x72), (1, .int x_0), (2, .int x_1), (3, .int x_2), (4, .int x_3), (5, .int x3), (6, .int x5), (7, .int x7), (8, .int x35), (9, .int x37), (10, .int x57), (12, .int x59)] dX8_partBy_129 (by decide) rfl ?_
                refine J_iinc E 11 1 (fun z => [(12, .int z), (11, .int x72), (1, .int x_0), (2, .int x_1), (3, .int x_2), (4, .int x_3), (5, .int x3), (6, .int x5), (7, .int x7), (8, .int x35), (9, .int x37), (10, .int x57)]) dX8_partBy_131 rfl (by decide) (by decide) (fun _ => rfl) (fun x74 e75 => ?_)
                have b76 : Bd x74 1 6 := (Bd.add e75 b68 (Bd.lit 1 1 (by decide)) (by decide)).w _ _ (by decide)
                refine J_goto E 64 dX8_partBy_134 (by decide) ?_
                exact J.sub [2, 3, 4, 5, 6, 7, 8, 9, 10, 11, 1, 0] rfl (ih64 b61 b62 b63 b64 b65 b66 b67 x57 x72 x74 (b76.w 0 6 (by decide)) (Mu.step hmu64 e75 b68 (Bd.lit 1 1 (by decide)) (by decide)) ((kx_X8_partBy_5 (e73) (e75)).symm.trans hK))
              have J127 : Bd x_2 60 99 → Bd x_3 0 1 → Bd x3 (-1) 99 → Bd x5 0 100000 → Bd x7 0 99 → Bd x35 0 I1 → Bd x37 0 5 → Bd x59 0 5 → ∀ x85 : Int32, K_X8_partBy_127 G w h0 (K_X8_partBy_10 G w h0 n10) (K_X8_partBy_26 G w h0 (K_X8_partBy_10 G w h0 n10) n26) (K_X8_partBy_64 G w h0 (K_X8_partBy_10 G w h0 n10) (K_X8_partBy_26 G w h0 (K_X8_partBy_10 G w h0 n10) n26) n64) v x_0 x_1 x_2 x_3 x3 x5 x7 x35 x37 x57 x59 x85 = F_X8_partBy G w v h0 x_0 x_1 x_2 x_3 → J p l e rm_X8_partBy s m args below meth c 0 0 (MQ below (QcI D dA G (fun r v1 w1 => v1 = v ∧ w1 = w ∧ Bd r (-1) 99 ∧ r = F_X8_partBy G w v h0 x_0 x_1 x_2 x_3)) args s 0 0 (dm G)) D dA G (dm G) s.heap 14 v w [(1, .int x_0), (2, .int x_1), (3, .int x_2), (4, .int x_3), (5, .int x3), (6, .int x5), (7, .int x7), (8, .int x35), (9, .int x37), (10, .int x57), (12, .int x59)] 127 [.int x85] := by
                intro b77 b78 b79 b80 b81 b82 b83 b84 x85 hK
                refine J_iconst E 0 dX8_partBy_127 (by decide) ?_
                exact J.sub [0, 1, 2, 3, 4, 5, 6, 7, 8, 9, 10] rfl (J128 b77 b78 b79 b80 b81 b82 b83 b84 0 ((Bd.lit 0 0 (by decide)).w 0 1 (by decide)) x85 ((kx_X8_partBy_6).symm.trans hK))
              have J94 : Bd x_2 60 99 → Bd x_3 0 1 → Bd x3 (-1) 99 → Bd x5 0 100000 → Bd x7 0 99 → Bd x35 0 I1 → Bd x37 0 5 → Bd x59 0 5 → ∀ x94 : Int32, K_X8_partBy_94 G w h0 (K_X8_partBy_10 G w h0 n10) (K_X8_partBy_26 G w h0 (K_X8_partBy_10 G w h0 n10) n26) (K_X8_partBy_64 G w h0 (K_X8_partBy_10 G w h0 n10) (K_X8_partBy_26 G w h0 (K_X8_partBy_10 G w h0 n10) n26) n64) v x_0 x_1 x_2 x_3 x3 x5 x7 x35 x37 x57 x58 x59 x94 = F_X8_partBy G w v h0 x_0 x_1 x_2 x_3 → J p l e rm_X8_partBy s m args below meth c 0 0 (MQ below (QcI D dA G (fun r v1 w1 => v1 = v ∧ w1 = w ∧ Bd r (-1) 99 ∧ r = F_X8_partBy G w v h0 x_0 x_1 x_2 x_3)) args s 0 0 (dm G)) D dA G (dm G) s.heap 14 v w [(1, .int x_0), (2, .int x_1), (3, .int x_2), (4, .int x_3), (5, .int x3), (6, .int x5), (7, .int x7), (8, .int x35), (9, .int x37), (10, .int x57), (11, .int x58), (12, .int x59)] 94 [.int x94] := by
                intro b86 b87 b88 b89 b90 b91 b92 b93 x94 hK
                refine J_istore E [(13, .int x94), (1, .int x_0), (2, .int x_1), (3, .int x_2), (4, .int x_3), (5, .int x3), (6, .int x5), (7, .int x7), (8, .int x35), (9, .int x37), (10, .int x57), (11, .int x58), (12, .int x59)] dX8_partBy_94 (by decide) rfl ?_
                refine J_iload E dX8_partBy_96 11 rfl ?_
                refine J_iload_n E dX8_partBy_98 1 rfl ?_
                refine J_iload E dX8_partBy_99 9 rfl ?_
                refine J_callSI E cal_X8_has wd1075 [.int x_0, .int x37] [.int x58] (ct_X8_has l D dA G v w (hOk) x_0 x37 (b92.w 0 9 (by decide))) rfl rfl (Nat.le_of_ble_eq_true rfl) ⟨rfl, rfl⟩ ⟨Nat.le_of_ble_eq_true rfl, Nat.le_of_ble_eq_true rfl⟩ dX8_partBy_101 (fun x98 v95 w96 p97 => ?_)
                rw [p97.1, p97.2.1]
                have b99 : Bd x98 0 1 := p97.2.2.1
                have e100 : x98 = F_X8_has G w v x_0 x37 := (p97.2.2.2)
                refine J_if_eq E 127 dX8_partBy_104 (by decide) (fun c101 => ?_) (fun c101 => ?_)
                · have b102 : Bd x98 0 0 := Bd.eq_l c101 b99 (Bd.lit 0 0 (by decide)) 0 0 (by decide)
                  exact J.sub [1, 2, 3, 4, 5, 6, 7, 8, 9, 10, 12] rfl (J127 b86 b87 b88 b89 b90 b91 b92 b93 x58 ((kx_X8_partBy_7 (e100) (c101)).symm.trans hK))
                · have b103 : Bd x98 1 1 := (Bd.ne_lo c101 b99 (Bd.lit 0 0 (by decide))).w _ _ (by decide)
                  refine J_iload_n E dX8_partBy_107 1 rfl ?_
                  refine J_iload E dX8_partBy_108 12 rfl ?_
                  refine J_callSI E cal_X8_has wd1075 [.int x_0, .int x59] [.int x58] (ct_X8_has l D dA G v w (hOk) x_0 x59 (b93.w 0 9 (by decide))) rfl rfl (Nat.le_of_ble_eq_true rfl) ⟨rfl, rfl⟩ ⟨Nat.le_of_ble_eq_true rfl, Nat.le_of_ble_eq_true rfl⟩ dX8_partBy_110 (fun x107 v104 w105 p106 => ?_)
                  rw [p106.1, p106.2.1]
                  have b108 : Bd x107 0 1 := p106.2.2.1
                  have e109 : x107 = F_X8_has G w v x_0 x59 := (p106.2.2.2)
                  refine J_if_eq E 127 dX8_partBy_113 (by decide) (fun c110 => ?_) (fun c110 => ?_)
                  · have b111 : Bd x107 0 0 := Bd.eq_l c110 b108 (Bd.lit 0 0 (by decide)) 0 0 (by decide)
                    exact J.sub [1, 2, 3, 4, 5, 6, 7, 8, 9, 10, 12] rfl (J127 b86 b87 b88 b89 b90 b91 b92 b93 x58 ((kx_X8_partBy_8 (e100) (e109) (c101) (c110)).symm.trans hK))
                  · have b112 : Bd x107 1 1 := (Bd.ne_lo c110 b108 (Bd.lit 0 0 (by decide))).w _ _ (by decide)
                    refine J_iload E dX8_partBy_116 10 rfl ?_
                    refine J_iload E dX8_partBy_118 0 rfl ?_
                    refine J_icmp_ne E 127 dX8_partBy_120 (by decide) (fun c113 => ?_) (fun c113 => ?_)
                    · exact J.sub [1, 2, 3, 4, 5, 6, 7, 8, 9, 10, 12] rfl (J127 b86 b87 b88 b89 b90 b91 b92 b93 x58 ((kx_X8_partBy_9 (e100) (e109) (c101) (c110) (c113)).symm.trans hK))
                    · refine J_iconst E 1 dX8_partBy_123 (by decide) ?_
                      refine J_goto E 128 dX8_partBy_124 (by decide) ?_
                      exact J.sub [1, 2, 3, 4, 5, 6, 7, 8, 9, 10, 12] rfl (J128 b86 b87 b88 b89 b90 b91 b92 b93 1 ((Bd.lit 1 1 (by decide)).w 0 1 (by decide)) x58 ((kx_X8_partBy_10 (e100) (e109) (c101) (c110) (c113)).symm.trans hK))
              refine J_iload E dX8_partBy_64 11 rfl ?_
              refine J_iconst E 5 dX8_partBy_66 (by decide) ?_
              refine J_icmp_gt E 137 dX8_partBy_67 (by decide) (fun c114 => ?_) (fun c114 => ?_)
              · have b115 : Bd x59 6 6 := Bd.lt_r c114 (Bd.lit 5 5 (by decide)) b60 6 (by decide)
                refine J_iload E dX8_partBy_137 10 rfl ?_
                refine J_iload E dX8_partBy_139 7 rfl ?_
                refine J_icmp_le E 149 dX8_partBy_141 (by decide) (fun c116 => ?_) (fun c116 => ?_)
                · refine J_iload E dX8_partBy_149 7 rfl ?_
                  exact J.sub [0, 1, 2, 3, 4, 5, 6, 8] rfl (J151 b50 b51 b52 b53 b54 b56 x35 b55 ((kx_X8_partBy_11 (c114) (c116)).symm.trans hK))
                · have b117 : Bd x58 1 I1 := Bd.lt_r (nle c116) b55 (Bd.any x58) 1 (by decide)
                  refine J_iload E dX8_partBy_144 10 rfl ?_
                  refine J_goto E 151 dX8_partBy_146 (by decide) ?_
                  exact J.sub [0, 1, 2, 3, 4, 5, 6, 8] rfl (J151 b50 b51 b52 b53 b54 b56 x58 (b117.w 0 I1 (by decide)) ((kx_X8_partBy_12 (c114) (c116)).symm.trans hK))
              · have b118 : Bd x59 0 5 := Bd.le_l (nlt c114) b60 (Bd.lit 5 5 (by decide)) 5 (by decide)
                refine J_iload E dX8_partBy_70 3 rfl ?_
                refine J_if_eq E 86 dX8_partBy_72 (by decide) (fun c119 => ?_) (fun c119 => ?_)
                · have b120 : Bd x_3 0 0 := Bd.eq_l c119 b51 (Bd.lit 0 0 (by decide)) 0 0 (by decide)
                  refine J_iload E dX8_partBy_86 11 rfl ?_
                  refine J_iload_n E dX8_partBy_88 1 rfl ?_
                  refine J_iload E dX8_partBy_89 6 rfl ?_
                  refine J_callSI E cal_X8_liftsBy wd1109 [.int x59, .int x_1, .int x7] [] (ct_X8_liftsBy l D dA G v w (hOk) x59 x_1 x7) rfl rfl (Nat.le_of_ble_eq_true rfl) ⟨rfl, rfl⟩ ⟨Nat.le_of_ble_eq_true rfl, Nat.le_of_ble_eq_true rfl⟩ dX8_partBy_91 (fun x124 v121 w122 p123 => ?_)
                  rw [p123.1, p123.2.1]
                  have e125 : x124 = F_X8_liftsBy G w v x59 x_1 x7 := (p123.2.2.2)
                  exact J.sub [0, 1, 2, 3, 4, 5, 6, 7, 8, 9, 10, 11] rfl (J94 b50 (b120.w 0 1 (by decide)) b52 b53 b54 b55 b56 b118 x124 ((kx_X8_partBy_13 (e125) (c114) (c119)).symm.trans hK))
                · have b126 : Bd x_3 1 1 := (Bd.ne_lo c119 b51 (Bd.lit 0 0 (by decide))).w _ _ (by decide)
                  refine J_iload E dX8_partBy_75 11 rfl ?_
                  refine J_iload_n E dX8_partBy_77 1 rfl ?_
                  refine J_iload E dX8_partBy_78 6 rfl ?_
                  refine J_callSI E cal_X8_weighsBy wd1102 [.int x59, .int x_1, .int x7] [] (ct_X8_weighsBy l D dA G v w (hOk) x59 x_1 x7) rfl rfl (Nat.le_of_ble_eq_true rfl) ⟨rfl, rfl⟩ ⟨Nat.le_of_ble_eq_true rfl, Nat.le_of_ble_eq_true rfl⟩ dX8_partBy_80 (fun x130 v127 w128 p129 => ?_)
                  rw [p129.1, p129.2.1]
                  have e131 : x130 = F_X8_weighsBy G w v x59 x_1 x7 := (p129.2.2.2)
                  refine J_goto E 94 dX8_partBy_83 (by decide) ?_
                  exact J.sub [0, 1, 2, 3, 4, 5, 6, 7, 8, 9, 10, 11] rfl (J94 b50 (b126.w 0 1 (by decide)) b52 b53 b54 b55 b56 b118 x130 ((kx_X8_partBy_14 (e131) (c114) (c119)).symm.trans hK))
          have J56 : Bd x_2 60 99 → Bd x_3 0 1 → Bd x3 (-1) 99 → Bd x5 0 100000 → Bd x7 0 99 → Bd x35 0 I1 → Bd x37 0 5 → ∀ x139 : Int32, K_X8_partBy_56 G w h0 (K_X8_partBy_10 G w h0 n10) (K_X8_partBy_26 G w h0 (K_X8_partBy_10 G w h0 n10) n26) v x_0 x_1 x_2 x_3 x3 x5 x7 x35 x37 x139 = F_X8_partBy G w v h0 x_0 x_1 x_2 x_3 → J p l e rm_X8_partBy s m args below meth c 0 0 (MQ below (QcI D dA G (fun r v1 w1 => v1 = v ∧ w1 = w ∧ Bd r (-1) 99 ∧ r = F_X8_partBy G w v h0 x_0 x_1 x_2 x_3)) args s 0 0 (dm G)) D dA G (dm G) s.heap 14 v w [(1, .int x_0), (2, .int x_1), (3, .int x_2), (4, .int x_3), (5, .int x3), (6, .int x5), (7, .int x7), (8, .int x35), (9, .int x37)] 56 [.int x139] := by
            intro b132 b133 b134 b135 b136 b137 b138 x139 hK
            refine J_istore E [(10, .int x139), (1, .int x_0), (2, .int x_1), (3, .int x_2), (4, .int x_3), (5, .int x3), (6, .int x5), (7, .int x7), (8, .int x35), (9, .int x37)] dX8_partBy_56 (by decide) rfl ?_
            refine J_iconst E 0 dX8_partBy_58 (by decide) ?_
            refine J_istore E [(11, .int 0), (10, .int x139), (1, .int x_0), (2, .int x_1), (3, .int x_2), (4, .int x_3), (5, .int x3), (6, .int x5), (7, .int x7), (8, .int x35), (9, .int x37)] dX8_partBy_59 (by decide) rfl ?_
            refine J_iconst E 0 dX8_partBy_61 (by decide) ?_
            refine J_istore E [(12, .int 0), (11, .int 0), (10, .int x139), (1, .int x_0), (2, .int x_1), (3, .int x_2), (4, .int x_3), (5, .int x3), (6, .int x5), (7, .int x7), (8, .int x35), (9, .int x37)] dX8_partBy_62 (by decide) rfl ?_
            exact J.sub [3, 4, 5, 6, 7, 8, 9, 10, 11, 2, 1, 0] rfl (J64 7 b132 b133 b134 b135 b136 b137 b138 x139 0 0 ((Bd.lit 0 0 (by decide)).w 0 6 (by decide)) (Mu.start _ (Bd.lit 0 0 (by decide)) (by decide)) ((kx_X8_partBy_15).symm.trans hK))
          refine J_iload E dX8_partBy_26 8 rfl ?_
          refine J_iconst E 5 dX8_partBy_28 (by decide) ?_
          refine J_icmp_gt E 159 dX8_partBy_29 (by decide) (fun c140 => ?_) (fun c140 => ?_)
          · have b141 : Bd x37 6 6 := Bd.lt_r c140 (Bd.lit 5 5 (by decide)) b38 6 (by decide)
            refine J_iload E dX8_partBy_159 7 rfl ?_
            refine J_iload E dX8_partBy_161 5 rfl ?_
            refine J_icmp_ge E 171 dX8_partBy_163 (by decide) (fun c142 => ?_) (fun c142 => ?_)
            · refine J_iload E dX8_partBy_171 4 rfl ?_
              exact J.sub [0, 1, 2, 3, 5, 6, 7] rfl (J173 b30 b31 b33 b34 x35 b36 x3 b32 ((kx_X8_partBy_16 (c140) (c142)).symm.trans hK))
            · have b143 : Bd x35 0 99999 := Bd.lt_l (nle c142) b36 b33 99999 (by decide)
              have b144 : Bd x5 1 100000 := Bd.lt_r (nle c142) b36 b33 1 (by decide)
              refine J_iload E dX8_partBy_166 6 rfl ?_
              refine J_goto E 173 dX8_partBy_168 (by decide) ?_
              exact J.sub [0, 1, 2, 3, 5, 6, 7] rfl (J173 b30 b31 (b144.w 0 100000 (by decide)) b34 x35 (b143.w 0 I1 (by decide)) x7 (b34.w (-1) 99 (by decide)) ((kx_X8_partBy_17 (c140) (c142)).symm.trans hK))
          · have b145 : Bd x37 0 5 := Bd.le_l (nlt c140) b38 (Bd.lit 5 5 (by decide)) 5 (by decide)
            refine J_iload E dX8_partBy_32 3 rfl ?_
            refine J_if_eq E 48 dX8_partBy_34 (by decide) (fun c146 => ?_) (fun c146 => ?_)
            · have b147 : Bd x_3 0 0 := Bd.eq_l c146 b31 (Bd.lit 0 0 (by decide)) 0 0 (by decide)
              refine J_iload E dX8_partBy_48 8 rfl ?_
              refine J_iload_n E dX8_partBy_50 1 rfl ?_
              refine J_iload E dX8_partBy_51 6 rfl ?_
              refine J_callSI E cal_X8_liftsBy wd1109 [.int x37, .int x_1, .int x7] [] (ct_X8_liftsBy l D dA G v w (hOk) x37 x_1 x7) rfl rfl (Nat.le_of_ble_eq_true rfl) ⟨rfl, rfl⟩ ⟨Nat.le_of_ble_eq_true rfl, Nat.le_of_ble_eq_true rfl⟩ dX8_partBy_53 (fun x151 v148 w149 p150 => ?_)
              rw [p150.1, p150.2.1]
              have e152 : x151 = F_X8_liftsBy G w v x37 x_1 x7 := (p150.2.2.2)
              exact J.sub [0, 1, 2, 3, 4, 5, 6, 7, 8] rfl (J56 b30 (b147.w 0 1 (by decide)) b32 b33 b34 b36 b145 x151 ((kx_X8_partBy_18 (e152) (c140) (c146)).symm.trans hK))
            · have b153 : Bd x_3 1 1 := (Bd.ne_lo c146 b31 (Bd.lit 0 0 (by decide))).w _ _ (by decide)
              refine J_iload E dX8_partBy_37 8 rfl ?_
              refine J_iload_n E dX8_partBy_39 1 rfl ?_
              refine J_iload E dX8_partBy_40 6 rfl ?_
              refine J_callSI E cal_X8_weighsBy wd1102 [.int x37, .int x_1, .int x7] [] (ct_X8_weighsBy l D dA G v w (hOk) x37 x_1 x7) rfl rfl (Nat.le_of_ble_eq_true rfl) ⟨rfl, rfl⟩ ⟨Nat.le_of_ble_eq_true rfl, Nat.le_of_ble_eq_true rfl⟩ dX8_partBy_42 (fun x157 v154 w155 p156 => ?_)
              rw [p156.1, p156.2.1]
              have e158 : x157 = F_X8_weighsBy G w v x37 x_1 x7 := (p156.2.2.2)
              refine J_goto E 56 dX8_partBy_45 (by decide) ?_
              exact J.sub [0, 1, 2, 3, 4, 5, 6, 7, 8] rfl (J56 b30 (b153.w 0 1 (by decide)) b32 b33 b34 b36 b145 x157 ((kx_X8_partBy_19 (e158) (c140) (c146)).symm.trans hK))
      refine J_iload E dX8_partBy_10 6 rfl ?_
      refine J_iload_n E dX8_partBy_12 2 rfl ?_
      refine J_icmp_gt E 197 dX8_partBy_13 (by decide) (fun c159 => ?_) (fun c159 => ?_)
      · have b160 : Bd x7 61 100 := Bd.lt_r c159 b1 b8 61 (by decide)
        refine J_iload E dX8_partBy_197 4 rfl ?_
        exact J_iret E hr dX8_partBy_199 ⟨rfl, rfl, b4, ((kx_X8_partBy_20 (c159)).symm.trans hK)⟩
      · have b161 : Bd x7 0 99 := Bd.le_l (nlt c159) b8 b1 99 (by decide)
        refine J_iload_n E dX8_partBy_16 0 rfl ?_
        refine J_if_eq E 197 dX8_partBy_17 (by decide) (fun c162 => ?_) (fun c162 => ?_)
        · have b163 : Bd x_0 0 0 := Bd.eq_l c162 (Bd.any x_0) (Bd.lit 0 0 (by decide)) 0 0 (by decide)
          refine J_iload E dX8_partBy_197 4 rfl ?_
          exact J_iret E hr dX8_partBy_199 ⟨rfl, rfl, b4, ((kx_X8_partBy_21 (c159) (c162)).symm.trans hK)⟩
        · refine J_iconst E 0 dX8_partBy_20 (by decide) ?_
          refine J_istore E [(8, .int 0), (1, .int x_0), (2, .int x_1), (3, .int x_2), (4, .int x_3), (5, .int x3), (6, .int x5), (7, .int x7)] dX8_partBy_21 (by decide) rfl ?_
          refine J_iconst E 0 dX8_partBy_23 (by decide) ?_
          refine J_istore E [(9, .int 0), (8, .int 0), (1, .int x_0), (2, .int x_1), (3, .int x_2), (4, .int x_3), (5, .int x3), (6, .int x5), (7, .int x7)] dX8_partBy_24 (by decide) rfl ?_
          exact J.sub [2, 3, 4, 5, 6, 7, 8, 1, 0] rfl (J26 7 b1 b2 b4 b6 b161 0 ((Bd.lit 0 0 (by decide)).w 0 I1 (by decide)) 0 ((Bd.lit 0 0 (by decide)).w 0 6 (by decide)) (Mu.start _ (Bd.lit 0 0 (by decide)) (by decide)) ((kx_X8_partBy_22 (c159) (c162)).symm.trans hK))
  have hK : K_X8_partBy_e G w v h0 x_0 x_1 x_2 x_3 = F_X8_partBy G w v h0 x_0 x_1 x_2 x_3 := rfl
  refine J_iconst E (-1) dX8_partBy_0 (by decide) ?_
  refine J_istore E [(5, .int (-1)), (0, .ref h0), (1, .int x_0), (2, .int x_1), (3, .int x_2), (4, .int x_3)] dX8_partBy_1 (by decide) rfl ?_
  refine J_ldc E wd1223 dX8_partBy_3 ?_
  refine J_istore E [(6, .int 100000), (5, .int (-1)), (0, .ref h0), (1, .int x_0), (2, .int x_1), (3, .int x_2), (4, .int x_3)] dX8_partBy_5 (by decide) rfl ?_
  refine J_iconst E 0 dX8_partBy_7 (by decide) ?_
  refine J_istore E [(7, .int 0), (6, .int 100000), (5, .int (-1)), (0, .ref h0), (1, .int x_0), (2, .int x_1), (3, .int x_2), (4, .int x_3)] dX8_partBy_8 (by decide) rfl ?_
  exact J.sub [4, 5, 6, 7, 2, 1, 0] rfl (J10 101 bx_2 bx_3 (-1) ((Bd.lit (-1) (-1) (by decide)).w (-1) 99 (by decide)) 100000 ((Bd.lit 100000 100000 (by decide)).w 0 100000 (by decide)) 0 ((Bd.lit 0 0 (by decide)).w 0 100 (by decide)) (Mu.start _ (Bd.lit 0 0 (by decide)) (by decide)) ((kx_X8_partBy_23).symm.trans hK))
