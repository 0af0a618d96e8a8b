abbrev rm_X0_put : Room := { frames := 0, cells := 0, slots := 0, locals := 0 }
set_option maxHeartbeats 4000000 in
set_option maxRecDepth 100000 in
theorem ct_X0_put (l : Launch) (D : va_G) (dA : Nat → ClassId) (G : Gm) (v : Mv) (w : Mw) (hOk : Ok G v w) (h0 : Nat) (S0 : S_X0 G h0) (x_0 : Int32) : CtV l yX0_put cX0_put 2 none rm_X0_put D dA G [.ref h0, .int x_0] v w (fun v1 w1 => Ok G v1 w1 ∧ Kp G v v1 ∧ True) := by
  refine CtV.of RX0 [(0, .ref h0), (1, .int x_0)] (Nat.le_of_ble_eq_true rfl) rfl (by decide) rfl ?_
  intro p e s m args below meth c E hr
  refine J_aload_n E dX0_put_0 0 rfl ?_
  refine J_getI E in_X0 rfl (S_X0.h S0) 1 (by decide) wd300 rfl dX0_put_1 (fun x1 e2 => ?_)
  have b3 : Bd x1 0 9 := Ok.fd hOk e2 (S_X0.h S0) rfl
  refine J_bipush E 9 dX0_put_4 (by decide) ?_
  refine J_icmp_ge E 29 dX0_put_6 (by decide) (fun c4 => ?_) (fun c4 => ?_)
  · have b5 : Bd x1 9 9 := Bd.le_r c4 (Bd.lit 9 9 (by decide)) b3 9 (by decide)
    exact J_vret E hr dX0_put_29 ⟨hOk, Kp.rf, trivial⟩
  · have b6 : Bd x1 0 8 := Bd.lt_l (nle c4) b3 (Bd.lit 9 9 (by decide)) 8 (by decide)
    refine J_aload_n E dX0_put_9 0 rfl ?_
    refine J_getR E in_X0 rfl (S_X0.h S0) 0 (by decide) wd299 rfl dX0_put_10 ?_
    refine J_aload_n E dX0_put_13 0 rfl ?_
    refine J_getI E in_X0 rfl (S_X0.h S0) 1 (by decide) wd300 rfl dX0_put_14 (fun x7 e8 => ?_)
    rw [show x7 = x1 from e8.trans (e2).symm]
    refine J_iload_n E dX0_put_17 1 rfl ?_
    refine J_iast1 E (S_X0.f0 S0) (Bd.in b6 (by decide)) dX0_put_18 (fun v9 e10 => ?_)
    have o11 : Ok G v9 w := by rw [e10]; exact Ok.sv hOk (S_X0.f0 S0) b6 (Bd.any x_0) 0 9 (by decide) (by decide +kernel)
    have k12 : Kp G v v9 := by rw [e10]; exact Kp.sv Kp.rf (S_X0.f0 S0) b6 0 9 I0 I1 (by decide) (by decide +kernel)
    have e13 : x1 = v9 h0 1 := by rw [e10, stv_a (tg_ne (S_X0.h S0) ((S_X0.f0 S0)) rfl)]; exact e2
    refine J_aload_n E dX0_put_19 0 rfl ?_
    refine J_dup E dX0_put_20 rfl ?_
    refine J_getI E in_X0 rfl (S_X0.h S0) 1 (by decide) wd300 rfl dX0_put_21 (fun x14 e15 => ?_)
    rw [show x14 = x1 from e15.trans (e13).symm]
    refine J_iconst E 1 dX0_put_24 (by decide) ?_
    refine J_iadd E dX0_put_25 (fun x16 e17 => ?_)
    have b18 : Bd x16 1 9 := Bd.add e17 b6 (Bd.lit 1 1 (by decide)) (by decide)
    refine J_pI E in_X0 rfl (S_X0.h S0) 1 (by decide) wd300 tyX0 tyX0_ok nmX0 rfl rfl .int (by decide +kernel) rfl rfl dX0_put_26 (fun v19 e20 => ?_)
    have o21 : Ok G v19 w := Ok.pf o11 e20 (S_X0.h S0) rfl (b18.w 0 9 (by decide))
    have k22 : Kp G v v19 := Kp.pf k12 e20 (S_X0.h S0) rfl
    have e23 : x16 = v19 h0 1 := by rw [e20, stv_s]
    exact J_vret E hr dX0_put_29 ⟨o21, k22, trivial⟩

abbrev rm_X0_fillByStrength : Room := { frames := 2, cells := 0, slots := 0, locals := 44 }
set_option maxHeartbeats 4000000 in
set_option maxRecDepth 100000 in
theorem ct_X0_fillByStrength (l : Launch) (D : va_G) (dA : Nat → ClassId) (G : Gm) (v : Mv) (w : Mw) (hOk : Ok G v w) (h0 : Nat) (S0 : S_X0 G h0) (x_0 : Int32) (x_1 : Int32) (x_2 : Int32) (bx_2 : Bd x_2 0 90) : CtV l yX0_fillByStrength cX0_fillByStrength 5 none rm_X0_fillByStrength D dA G [.ref h0, .int x_0, .int x_1, .int x_2] v w (fun v1 w1 => Ok G v1 w1 ∧ Kp G v v1 ∧ True) := by
  refine CtV.of RX0 [(0, .ref h0), (1, .int x_0), (2, .int x_1), (3, .int x_2)] (Nat.le_of_ble_eq_true rfl) rfl (by decide) rfl ?_
  intro p e s m args below meth c E hr
  have J8 : ∀ n : Nat, ∀ (v1 : Mv) (w2 : Mw), Ok G v1 w2 → Kp G v v1 → Bd x_2 0 90 → ∀ x6 : Int32, Bd x6 1 10 → Mu x6 10 n → J p l e rm_X0_fillByStrength s m args below meth c 0 0 (MQ below (QcV D dA G (fun v1 w1 => Ok G v1 w1 ∧ Kp G v v1 ∧ True)) args s 0 0 (dm G)) D dA G (dm G) s.heap 5 v1 w2 [(0, .ref h0), (1, .int x_0), (2, .int x_1), (3, .int x_2), (4, .int x6)] 8 [] := by
    intro n
    induction n with
    | zero => intro v1 w2 o3 k4 b5 x6 b7 hm; exact hm.zero b7 (by decide)
    | succ n ih8 =>
      intro v1 w2 o3 k4 b5 x6 b7 hmu8
      have J36 : ∀ (v8 : Mv) (w9 : Mw), Ok G v8 w9 → Kp G v v8 → Bd x_2 0 90 → Bd x6 1 9 → J p l e rm_X0_fillByStrength s m args below meth c 0 0 (MQ below (QcV D dA G (fun v1 w1 => Ok G v1 w1 ∧ Kp G v v1 ∧ True)) args s 0 0 (dm G)) D dA G (dm G) s.heap 5 v8 w9 [(0, .ref h0), (1, .int x_0), (2, .int x_1), (3, .int x_2), (4, .int x6)] 36 [] := by
        intro v8 w9 o10 k11 b12 b13
        refine J_iinc E 4 1 (fun z => [(4, .int z), (0, .ref h0), (1, .int x_0), (2, .int x_1), (3, .int x_2)]) dX0_fillByStrength_36 rfl (by decide) (by decide) (fun _ => rfl) (fun x14 e15 => ?_)
        have b16 : Bd x14 2 10 := Bd.add e15 b13 (Bd.lit 1 1 (by decide)) (by decide)
        refine J_goto E 8 dX0_fillByStrength_39 (by decide) ?_
        exact J.sub [1, 2, 3, 4, 0] rfl (ih8 v8 w9 (o10) (k11) b12 x14 (b16.w 1 10 (by decide)) (Mu.step hmu8 e15 b13 (Bd.lit 1 1 (by decide)) (by decide)))
      refine J_iload E dX0_fillByStrength_8 4 rfl ?_
      refine J_bipush E 9 dX0_fillByStrength_10 (by decide) ?_
      refine J_icmp_gt E 42 dX0_fillByStrength_12 (by decide) (fun c17 => ?_) (fun c17 => ?_)
      · have b18 : Bd x6 10 10 := Bd.lt_r c17 (Bd.lit 9 9 (by decide)) b7 10 (by decide)
        exact J_vret E hr dX0_fillByStrength_42 ⟨o3, k4, trivial⟩
      · have b19 : Bd x6 1 9 := Bd.le_l (nlt c17) b7 (Bd.lit 9 9 (by decide)) 9 (by decide)
        refine J_iload_n E dX0_fillByStrength_15 2 rfl ?_
        refine J_iload E dX0_fillByStrength_16 4 rfl ?_
        refine J_ishr E dX0_fillByStrength_18 (fun x20 e21 => ?_)
        refine J_iconst E 1 dX0_fillByStrength_19 (by decide) ?_
        refine J_iand E dX0_fillByStrength_20 (fun x22 e23 => ?_)
        have b24 : Bd x22 0 1 := Bd.and_r e23 (Bd.lit 1 1 (by decide)) (by decide)
        refine J_iconst E 1 dX0_fillByStrength_21 (by decide) ?_
        refine J_icmp_ne E 36 dX0_fillByStrength_22 (by decide) (fun c25 => ?_) (fun c25 => ?_)
        · have b26 : Bd x22 0 0 := Bd.ne_hi c25 b24 (Bd.lit 1 1 (by decide))
          exact J.sub [0, 1, 2, 3, 4] rfl (J36 v1 w2 (o3) (k4) b5 b19)
        · have b27 : Bd x22 1 1 := Bd.eq_l c25 b24 (Bd.lit 1 1 (by decide)) 1 1 (by decide)
          refine J_aload_n E dX0_fillByStrength_25 0 rfl ?_
          refine J_iload_n E dX0_fillByStrength_26 1 rfl ?_
          refine J_iload E dX0_fillByStrength_27 4 rfl ?_
          refine J_iload_n E dX0_fillByStrength_29 3 rfl ?_
          refine J_callSNI E cal_X5_oneLifts wd770 [.int x_0, .int x6, .int x_2] [.ref h0] (ct_X5_oneLifts l D dA G v1 w2 (o3) x_0 x6 x_2) rfl rfl (Nat.le_of_ble_eq_true rfl) ⟨rfl, rfl⟩ ⟨Nat.le_of_ble_eq_true rfl, Nat.le_of_ble_eq_true rfl⟩ dX0_fillByStrength_30 (fun x31 v28 w29 p30 => ?_)
          rw [p30.1, p30.2.1]
          refine J_callVV E cal_X0_put wd771 rfl (S_X0.h S0) [.int x31] [] (ct_X0_put l D dA G v1 w2 (o3) h0 S0 x31) rfl rfl (Nat.le_of_ble_eq_true rfl) ⟨rfl, rfl⟩ ⟨Nat.le_of_ble_eq_true rfl, Nat.le_of_ble_eq_true rfl⟩ dX0_fillByStrength_33 (fun v32 w33 p34 => ?_)
          have o36 := p34.1
          have k37 : Kp G v v32 := (k4).tr p34.2.1
          exact J.sub [0, 1, 2, 3, 4] rfl (J36 v32 w33 (o36) (k37) b5 b19)
  refine J_aload_n E dX0_fillByStrength_0 0 rfl ?_
  refine J_iconst E 0 dX0_fillByStrength_1 (by decide) ?_
  refine J_pI E in_X0 rfl (S_X0.h S0) 1 (by decide) wd300 tyX0 tyX0_ok nmX0 rfl rfl .int (by decide +kernel) rfl rfl dX0_fillByStrength_2 (fun v38 e39 => ?_)
  have o40 : Ok G v38 w := Ok.pf hOk e39 (S_X0.h S0) rfl ((Bd.lit 0 0 (by decide)).w 0 9 (by decide))
  have k41 : Kp G v v38 := Kp.pf Kp.rf e39 (S_X0.h S0) rfl
  refine J_iconst E 1 dX0_fillByStrength_5 (by decide) ?_
  refine J_istore E [(4, .int 1), (0, .ref h0), (1, .int x_0), (2, .int x_1), (3, .int x_2)] dX0_fillByStrength_6 (by decide) rfl ?_
  exact J.sub [1, 2, 3, 4, 0] rfl (J8 10 v38 w (o40) (k41) bx_2 1 ((Bd.lit 1 1 (by decide)).w 1 10 (by decide)) (Mu.start _ (Bd.lit 1 1 (by decide)) (by decide)))

abbrev rm_X0_fillByThingKind : Room := { frames := 2, cells := 0, slots := 0, locals := 43 }
set_option maxHeartbeats 4000000 in
set_option maxRecDepth 100000 in
theorem ct_X0_fillByThingKind (l : Launch) (D : va_G) (dA : Nat → ClassId) (G : Gm) (v : Mv) (w : Mw) (hOk : Ok G v w) (h0 : Nat) (S0 : S_X0 G h0) (x_0 : Int32) (x_1 : Int32) (x_2 : Int32) (bx_2 : Bd x_2 0 60) : CtV l yX0_fillByThingKind cX0_fillByThingKind 5 none rm_X0_fillByThingKind D dA G [.ref h0, .int x_0, .int x_1, .int x_2] v w (fun v1 w1 => Ok G v1 w1 ∧ Kp G v v1 ∧ True) := by
  refine CtV.of RX0 [(0, .ref h0), (1, .int x_0), (2, .int x_1), (3, .int x_2)] (Nat.le_of_ble_eq_true rfl) rfl (by decide) rfl ?_
  intro p e s m args below meth c E hr
  have J8 : ∀ n : Nat, ∀ (v1 : Mv) (w2 : Mw), Ok G v1 w2 → Kp G v v1 → Bd x_2 0 60 → ∀ x6 : Int32, Bd x6 0 6 → Mu x6 6 n → J p l e rm_X0_fillByThingKind s m args below meth c 0 0 (MQ below (QcV D dA G (fun v1 w1 => Ok G v1 w1 ∧ Kp G v v1 ∧ True)) args s 0 0 (dm G)) D dA G (dm G) s.heap 5 v1 w2 [(0, .ref h0), (1, .int x_0), (2, .int x_1), (3, .int x_2), (4, .int x6)] 8 [] := by
    intro n
    induction n with
    | zero => intro v1 w2 o3 k4 b5 x6 b7 hm; exact hm.zero b7 (by decide)
    | succ n ih8 =>
      intro v1 w2 o3 k4 b5 x6 b7 hmu8
      have J36 : ∀ (v8 : Mv) (w9 : Mw), Ok G v8 w9 → Kp G v v8 → Bd x_2 0 60 → Bd x6 0 5 → J p l e rm_X0_fillByThingKind s m args below meth c 0 0 (MQ below (QcV D dA G (fun v1 w1 => Ok G v1 w1 ∧ Kp G v v1 ∧ True)) args s 0 0 (dm G)) D dA G (dm G) s.heap 5 v8 w9 [(0, .ref h0), (1, .int x_0), (2, .int x_1), (3, .int x_2), (4, .int x6)] 36 [] := by
        intro v8 w9 o10 k11 b12 b13
        refine J_iinc E 4 1 (fun z => [(4, .int z), (0, .ref h0), (1, .int x_0), (2, .int x_1), (3, .int x_2)]) dX0_fillByThingKind_36 rfl (by decide) (by decide) (fun _ => rfl) (fun x14 e15 => ?_)
        have b16 : Bd x14 1 6 := Bd.add e15 b13 (Bd.lit 1 1 (by decide)) (by decide)
        refine J_goto E 8 dX0_fillByThingKind_39 (by decide) ?_
        exact J.sub [1, 2, 3, 4, 0] rfl (ih8 v8 w9 (o10) (k11) b12 x14 (b16.w 0 6 (by decide)) (Mu.step hmu8 e15 b13 (Bd.lit 1 1 (by decide)) (by decide)))
      refine J_iload E dX0_fillByThingKind_8 4 rfl ?_
      refine J_bipush E 6 dX0_fillByThingKind_10 (by decide) ?_
      refine J_icmp_ge E 42 dX0_fillByThingKind_12 (by decide) (fun c17 => ?_) (fun c17 => ?_)
      · have b18 : Bd x6 6 6 := Bd.le_r c17 (Bd.lit 6 6 (by decide)) b7 6 (by decide)
        exact J_vret E hr dX0_fillByThingKind_42 ⟨o3, k4, trivial⟩
      · have b19 : Bd x6 0 5 := Bd.lt_l (nle c17) b7 (Bd.lit 6 6 (by decide)) 5 (by decide)
        refine J_iload_n E dX0_fillByThingKind_15 1 rfl ?_
        refine J_iload E dX0_fillByThingKind_16 4 rfl ?_
        refine J_ishr E dX0_fillByThingKind_18 (fun x20 e21 => ?_)
        refine J_iconst E 1 dX0_fillByThingKind_19 (by decide) ?_
        refine J_iand E dX0_fillByThingKind_20 (fun x22 e23 => ?_)
        have b24 : Bd x22 0 1 := Bd.and_r e23 (Bd.lit 1 1 (by decide)) (by decide)
        refine J_iconst E 1 dX0_fillByThingKind_21 (by decide) ?_
        refine J_icmp_ne E 36 dX0_fillByThingKind_22 (by decide) (fun c25 => ?_) (fun c25 => ?_)
        · have b26 : Bd x22 0 0 := Bd.ne_hi c25 b24 (Bd.lit 1 1 (by decide))
          exact J.sub [0, 1, 2, 3, 4] rfl (J36 v1 w2 (o3) (k4) b5 b19)
        · have b27 : Bd x22 1 1 := Bd.eq_l c25 b24 (Bd.lit 1 1 (by decide)) 1 1 (by decide)
          refine J_aload_n E dX0_fillByThingKind_25 0 rfl ?_
          refine J_iload E dX0_fillByThingKind_26 4 rfl ?_
          refine J_iload_n E dX0_fillByThingKind_28 2 rfl ?_
          refine J_iload_n E dX0_fillByThingKind_29 3 rfl ?_
          refine J_callSNI E cal_X5_thingWeighs wd813 [.int x6, .int x_1, .int x_2] [.ref h0] (ct_X5_thingWeighs l D dA G v1 w2 (o3) x6 x_1 x_2) rfl rfl (Nat.le_of_ble_eq_true rfl) ⟨rfl, rfl⟩ ⟨Nat.le_of_ble_eq_true rfl, Nat.le_of_ble_eq_true rfl⟩ dX0_fillByThingKind_30 (fun x31 v28 w29 p30 => ?_)
          rw [p30.1, p30.2.1]
          refine J_callVV E cal_X0_put wd771 rfl (S_X0.h S0) [.int x31] [] (ct_X0_put l D dA G v1 w2 (o3) h0 S0 x31) rfl rfl (Nat.le_of_ble_eq_true rfl) ⟨rfl, rfl⟩ ⟨Nat.le_of_ble_eq_true rfl, Nat.le_of_ble_eq_true rfl⟩ dX0_fillByThingKind_33 (fun v32 w33 p34 => ?_)
          have o36 := p34.1
          have k37 : Kp G v v32 := (k4).tr p34.2.1
          exact J.sub [0, 1, 2, 3, 4] rfl (J36 v32 w33 (o36) (k37) b5 b19)
  refine J_aload_n E dX0_fillByThingKind_0 0 rfl ?_
  refine J_iconst E 0 dX0_fillByThingKind_1 (by decide) ?_
  refine J_pI E in_X0 rfl (S_X0.h S0) 1 (by decide) wd300 tyX0 tyX0_ok nmX0 rfl rfl .int (by decide +kernel) rfl rfl dX0_fillByThingKind_2 (fun v38 e39 => ?_)
  have o40 : Ok G v38 w := Ok.pf hOk e39 (S_X0.h S0) rfl ((Bd.lit 0 0 (by decide)).w 0 9 (by decide))
  have k41 : Kp G v v38 := Kp.pf Kp.rf e39 (S_X0.h S0) rfl
  refine J_iconst E 0 dX0_fillByThingKind_5 (by decide) ?_
  refine J_istore E [(4, .int 0), (0, .ref h0), (1, .int x_0), (2, .int x_1), (3, .int x_2)] dX0_fillByThingKind_6 (by decide) rfl ?_
  exact J.sub [1, 2, 3, 4, 0] rfl (J8 7 v38 w (o40) (k41) bx_2 0 ((Bd.lit 0 0 (by decide)).w 0 6 (by decide)) (Mu.start _ (Bd.lit 0 0 (by decide)) (by decide)))

abbrev rm_X0_fillByOneKind : Room := { frames := 2, cells := 0, slots := 0, locals := 44 }
set_option maxHeartbeats 4000000 in
set_option maxRecDepth 100000 in
theorem ct_X0_fillByOneKind (l : Launch) (D : va_G) (dA : Nat → ClassId) (G : Gm) (v : Mv) (w : Mw) (hOk : Ok G v w) (h0 : Nat) (S0 : S_X0 G h0) (x_0 : Int32) (x_1 : Int32) (x_2 : Int32) (bx_2 : Bd x_2 0 99) : CtV l yX0_fillByOneKind cX0_fillByOneKind 5 none rm_X0_fillByOneKind D dA G [.ref h0, .int x_0, .int x_1, .int x_2] v w (fun v1 w1 => Ok G v1 w1 ∧ Kp G v v1 ∧ True) := by
  refine CtV.of RX0 [(0, .ref h0), (1, .int x_0), (2, .int x_1), (3, .int x_2)] (Nat.le_of_ble_eq_true rfl) rfl (by decide) rfl ?_
  intro p e s m args below meth c E hr
  have J8 : ∀ n : Nat, ∀ (v1 : Mv) (w2 : Mw), Ok G v1 w2 → Kp G v v1 → Bd x_2 0 99 → ∀ x6 : Int32, Bd x6 0 6 → Mu x6 6 n → J p l e rm_X0_fillByOneKind s m args below meth c 0 0 (MQ below (QcV D dA G (fun v1 w1 => Ok G v1 w1 ∧ Kp G v v1 ∧ True)) args s 0 0 (dm G)) D dA G (dm G) s.heap 5 v1 w2 [(0, .ref h0), (1, .int x_0), (2, .int x_1), (3, .int x_2), (4, .int x6)] 8 [] := by
    intro n
    induction n with
    | zero => intro v1 w2 o3 k4 b5 x6 b7 hm; exact hm.zero b7 (by decide)
    | succ n ih8 =>
      intro v1 w2 o3 k4 b5 x6 b7 hmu8
      have J36 : ∀ (v8 : Mv) (w9 : Mw), Ok G v8 w9 → Kp G v v8 → Bd x_2 0 99 → Bd x6 0 5 → J p l e rm_X0_fillByOneKind s m args below meth c 0 0 (MQ below (QcV D dA G (fun v1 w1 => Ok G v1 w1 ∧ Kp G v v1 ∧ True)) args s 0 0 (dm G)) D dA G (dm G) s.heap 5 v8 w9 [(0, .ref h0), (1, .int x_0), (2, .int x_1), (3, .int x_2), (4, .int x6)] 36 [] := by
        intro v8 w9 o10 k11 b12 b13
        refine J_iinc E 4 1 (fun z => [(4, .int z), (0, .ref h0), (1, .int x_0), (2, .int x_1), (3, .int x_2)]) dX0_fillByOneKind_36 rfl (by decide) (by decide) (fun _ => rfl) (fun x14 e15 => ?_)
        have b16 : Bd x14 1 6 := Bd.add e15 b13 (Bd.lit 1 1 (by decide)) (by decide)
        refine J_goto E 8 dX0_fillByOneKind_39 (by decide) ?_
        exact J.sub [1, 2, 3, 4, 0] rfl (ih8 v8 w9 (o10) (k11) b12 x14 (b16.w 0 6 (by decide)) (Mu.step hmu8 e15 b13 (Bd.lit 1 1 (by decide)) (by decide)))
      refine J_iload E dX0_fillByOneKind_8 4 rfl ?_
      refine J_bipush E 6 dX0_fillByOneKind_10 (by decide) ?_
      refine J_icmp_ge E 42 dX0_fillByOneKind_12 (by decide) (fun c17 => ?_) (fun c17 => ?_)
      · have b18 : Bd x6 6 6 := Bd.le_r c17 (Bd.lit 6 6 (by decide)) b7 6 (by decide)
        exact J_vret E hr dX0_fillByOneKind_42 ⟨o3, k4, trivial⟩
      · have b19 : Bd x6 0 5 := Bd.lt_l (nle c17) b7 (Bd.lit 6 6 (by decide)) 5 (by decide)
        refine J_iload_n E dX0_fillByOneKind_15 1 rfl ?_
        refine J_iload E dX0_fillByOneKind_16 4 rfl ?_
        refine J_ishr E dX0_fillByOneKind_18 (fun x20 e21 => ?_)
        refine J_iconst E 1 dX0_fillByOneKind_19 (by decide) ?_
        refine J_iand E dX0_fillByOneKind_20 (fun x22 e23 => ?_)
        have b24 : Bd x22 0 1 := Bd.and_r e23 (Bd.lit 1 1 (by decide)) (by decide)
        refine J_iconst E 1 dX0_fillByOneKind_21 (by decide) ?_
        refine J_icmp_ne E 36 dX0_fillByOneKind_22 (by decide) (fun c25 => ?_) (fun c25 => ?_)
        · have b26 : Bd x22 0 0 := Bd.ne_hi c25 b24 (Bd.lit 1 1 (by decide))
          exact J.sub [0, 1, 2, 3, 4] rfl (J36 v1 w2 (o3) (k4) b5 b19)
        · have b27 : Bd x22 1 1 := Bd.eq_l c25 b24 (Bd.lit 1 1 (by decide)) 1 1 (by decide)
          refine J_aload_n E dX0_fillByOneKind_25 0 rfl ?_
          refine J_iload E dX0_fillByOneKind_26 4 rfl ?_
          refine J_iload_n E dX0_fillByOneKind_28 2 rfl ?_
          refine J_iload_n E dX0_fillByOneKind_29 3 rfl ?_
          refine J_callSNI E cal_X5_oneLifts wd770 [.int x6, .int x_1, .int x_2] [.ref h0] (ct_X5_oneLifts l D dA G v1 w2 (o3) x6 x_1 x_2) rfl rfl (Nat.le_of_ble_eq_true rfl) ⟨rfl, rfl⟩ ⟨Nat.le_of_ble_eq_true rfl, Nat.le_of_ble_eq_true rfl⟩ dX0_fillByOneKind_30 (fun x31 v28 w29 p30 => ?_)
          rw [p30.1, p30.2.1]
          refine J_callVV E cal_X0_put wd771 rfl (S_X0.h S0) [.int x31] [] (ct_X0_put l D dA G v1 w2 (o3) h0 S0 x31) rfl rfl (Nat.le_of_ble_eq_true rfl) ⟨rfl, rfl⟩ ⟨Nat.le_of_ble_eq_true rfl, Nat.le_of_ble_eq_true rfl⟩ dX0_fillByOneKind_33 (fun v32 w33 p34 => ?_)
          have o36 := p34.1
          have k37 : Kp G v v32 := (k4).tr p34.2.1
          exact J.sub [0, 1, 2, 3, 4] rfl (J36 v32 w33 (o36) (k37) b5 b19)
  refine J_aload_n E dX0_fillByOneKind_0 0 rfl ?_
  refine J_iconst E 0 dX0_fillByOneKind_1 (by decide) ?_
  refine J_pI E in_X0 rfl (S_X0.h S0) 1 (by decide) wd300 tyX0 tyX0_ok nmX0 rfl rfl .int (by decide +kernel) rfl rfl dX0_fillByOneKind_2 (fun v38 e39 => ?_)
  have o40 : Ok G v38 w := Ok.pf hOk e39 (S_X0.h S0) rfl ((Bd.lit 0 0 (by decide)).w 0 9 (by decide))
  have k41 : Kp G v v38 := Kp.pf Kp.rf e39 (S_X0.h S0) rfl
  refine J_iconst E 0 dX0_fillByOneKind_5 (by decide) ?_
  refine J_istore E [(4, .int 0), (0, .ref h0), (1, .int x_0), (2, .int x_1), (3, .int x_2)] dX0_fillByOneKind_6 (by decide) rfl ?_
  exact J.sub [1, 2, 3, 4, 0] rfl (J8 7 v38 w (o40) (k41) bx_2 0 ((Bd.lit 0 0 (by decide)).w 0 6 (by decide)) (Mu.start _ (Bd.lit 0 0 (by decide)) (by decide)))

abbrev rm_X0_greaterPart : Room := { frames := 1, cells := 0, slots := 0, locals := 21 }
set_option maxHeartbeats 4000000 in
set_option maxRecDepth 100000 in
theorem ct_X0_greaterPart (l : Launch) (D : va_G) (dA : Nat → ClassId) (G : Gm) (v : Mv) (w : Mw) (hOk : Ok G v w) (h0 : Nat) (S0 : S_X0 G h0) (x_0 : Int32) (bx_0 : Bd x_0 0 60) : CtI l yX0_greaterPart cX0_greaterPart 4 (some .int) rm_X0_greaterPart D dA G [.ref h0, .int x_0] v w (fun r v1 w1 => v1 = v ∧ w1 = w ∧ True ∧ True) := by
  refine CtI.of RX0 [(0, .ref h0), (1, .int x_0)] (Nat.le_of_ble_eq_true rfl) rfl (by decide) rfl ?_
  intro p e s m args below meth c E hr
  have J4 : ∀ n : Nat, Bd x_0 0 60 → ∀ x2 : Int32, ∀ x3 : Int32, Bd x3 0 9 → Mu x3 9 n → J p l e rm_X0_greaterPart s m args below meth c 0 0 (MQ below (QcI D dA G (fun r v1 w1 => v1 = v ∧ w1 = w ∧ True ∧ True)) args s 0 0 (dm G)) D dA G (dm G) s.heap 4 v w [(0, .ref h0), (1, .int x_0), (2, .int x2), (3, .int x3)] 4 [] := by
    intro n
    induction n with
    | zero => intro b1 x2 x3 b4 hm; exact hm.zero b4 (by decide)
    | succ n ih4 =>
      intro b1 x2 x3 b4 hmu4
      have J25 : Bd x_0 0 60 → ∀ x6 : Int32, Bd x3 0 8 → J p l e rm_X0_greaterPart s m args below meth c 0 0 (MQ below (QcI D dA G (fun r v1 w1 => v1 = v ∧ w1 = w ∧ True ∧ True)) args s 0 0 (dm G)) D dA G (dm G) s.heap 4 v w [(0, .ref h0), (1, .int x_0), (2, .int x6), (3, .int x3)] 25 [] := by
        intro b5 x6 b7
        refine J_iinc E 3 1 (fun z => [(3, .int z), (0, .ref h0), (1, .int x_0), (2, .int x6)]) dX0_greaterPart_25 rfl (by decide) (by decide) (fun _ => rfl) (fun x8 e9 => ?_)
        have b10 : Bd x8 1 9 := Bd.add e9 b7 (Bd.lit 1 1 (by decide)) (by decide)
        refine J_goto E 4 dX0_greaterPart_28 (by decide) ?_
        exact J.sub [1, 2, 3, 0] rfl (ih4 b5 x6 x8 (b10.w 0 9 (by decide)) (Mu.step hmu4 e9 b7 (Bd.lit 1 1 (by decide)) (by decide)))
      refine J_iload_n E dX0_greaterPart_4 3 rfl ?_
      refine J_aload_n E dX0_greaterPart_5 0 rfl ?_
      refine J_getI E in_X0 rfl (S_X0.h S0) 1 (by decide) wd300 rfl dX0_greaterPart_6 (fun x11 e12 => ?_)
      have b13 : Bd x11 0 9 := Ok.fd hOk e12 (S_X0.h S0) rfl
      refine J_icmp_ge E 31 dX0_greaterPart_9 (by decide) (fun c14 => ?_) (fun c14 => ?_)
      · refine J_iload_n E dX0_greaterPart_31 2 rfl ?_
        refine J_aload_n E dX0_greaterPart_32 0 rfl ?_
        refine J_getI E in_X0 rfl (S_X0.h S0) 1 (by decide) wd300 rfl dX0_greaterPart_33 (fun x15 e16 => ?_)
        rw [show x15 = x11 from e16.trans (e12).symm]
        refine J_iload_n E dX0_greaterPart_36 2 rfl ?_
        refine J_isub E dX0_greaterPart_37 (fun x17 e18 => ?_)
        refine J_callSI E cal_J9_max_7cf53 wd779 [.int x2, .int x17] [] (ct_J9_max_7cf53 l D dA G v w (hOk) x2 x17) rfl rfl (Nat.le_of_ble_eq_true rfl) ⟨rfl, rfl⟩ ⟨Nat.le_of_ble_eq_true rfl, Nat.le_of_ble_eq_true rfl⟩ dX0_greaterPart_38 (fun x22 v19 w20 p21 => ?_)
        rw [p21.1, p21.2.1]
        exact J_iret E hr dX0_greaterPart_41 ⟨rfl, rfl, trivial, trivial⟩
      · have b23 : Bd x3 0 8 := Bd.lt_l (nle c14) b4 b13 8 (by decide)
        have b24 : Bd x11 1 9 := Bd.lt_r (nle c14) b4 b13 1 (by decide)
        refine J_aload_n E dX0_greaterPart_12 0 rfl ?_
        refine J_getR E in_X0 rfl (S_X0.h S0) 0 (by decide) wd299 rfl dX0_greaterPart_13 ?_
        refine J_iload_n E dX0_greaterPart_16 3 rfl ?_
        refine J_iald1 E (S_X0.f0 S0) (Bd.in b23 (by decide)) dX0_greaterPart_17 (fun x25 e26 => ?_)
        refine J_iload_n E dX0_greaterPart_18 1 rfl ?_
        refine J_icmp_lt E 25 dX0_greaterPart_19 (by decide) (fun c27 => ?_) (fun c27 => ?_)
        · have b28 : Bd x25 I0 59 := Bd.lt_l c27 (Bd.any x25) b1 59 (by decide)
          exact J.sub [0, 1, 2, 3] rfl (J25 b1 x2 b23)
        · have b29 : Bd x25 0 I1 := Bd.le_r (nlt c27) b1 (Bd.any x25) 0 (by decide)
          refine J_iinc E 2 1 (fun z => [(2, .int z), (0, .ref h0), (1, .int x_0), (3, .int x3)]) dX0_greaterPart_22 rfl (by decide) (by decide) (fun _ => rfl) (fun x30 e31 => ?_)
          exact J.sub [1, 2, 0, 3] rfl (J25 b1 x30 b23)
  refine J_iconst E 0 dX0_greaterPart_0 (by decide) ?_
  refine J_istore_n E [(2, .int 0), (0, .ref h0), (1, .int x_0)] dX0_greaterPart_1 rfl (by decide) rfl ?_
  refine J_iconst E 0 dX0_greaterPart_2 (by decide) ?_
  refine J_istore_n E [(3, .int 0), (2, .int 0), (0, .ref h0), (1, .int x_0)] dX0_greaterPart_3 rfl (by decide) rfl ?_
  exact J.sub [2, 3, 1, 0] rfl (J4 10 bx_0 0 0 ((Bd.lit 0 0 (by decide)).w 0 9 (by decide)) (Mu.start _ (Bd.lit 0 0 (by decide)) (by decide)))

abbrev rm_X0_mostAlike : Room := { frames := 1, cells := 0, slots := 0, locals := 21 }
set_option maxHeartbeats 4000000 in
set_option maxRecDepth 100000 in
theorem ct_X0_mostAlike (l : Launch) (D : va_G) (dA : Nat → ClassId) (G : Gm) (v : Mv) (w : Mw) (hOk : Ok G v w) (h0 : Nat) (S0 : S_X0 G h0) : CtI l yX0_mostAlike cX0_mostAlike 5 (some .int) rm_X0_mostAlike D dA G [.ref h0] v w (fun r v1 w1 => v1 = v ∧ w1 = w ∧ True ∧ True) := by
  refine CtI.of RX0 [(0, .ref h0)] (Nat.le_of_ble_eq_true rfl) rfl (by decide) rfl ?_
  intro p e s m args below meth c E hr
  have J4 : ∀ n : Nat, ∀ x1 : Int32, ∀ x2 : Int32, Bd x2 0 9 → Mu x2 9 n → J p l e rm_X0_mostAlike s m args below meth c 0 0 (MQ below (QcI D dA G (fun r v1 w1 => v1 = v ∧ w1 = w ∧ True ∧ True)) args s 0 0 (dm G)) D dA G (dm G) s.heap 5 v w [(0, .ref h0), (1, .int x1), (2, .int x2)] 4 [] := by
    intro n
    induction n with
    | zero => intro x1 x2 b3 hm; exact hm.zero b3 (by decide)
    | succ n ih4 =>
      intro x1 x2 b3 hmu4
      have J17 : ∀ n : Nat, Bd x2 0 8 → ∀ x5 : Int32, ∀ x6 : Int32, Bd x6 0 9 → Mu x6 9 n → J p l e rm_X0_mostAlike s m args below meth c 0 0 (MQ below (QcI D dA G (fun r v1 w1 => v1 = v ∧ w1 = w ∧ True ∧ True)) args s 0 0 (dm G)) D dA G (dm G) s.heap 5 v w [(0, .ref h0), (1, .int x1), (2, .int x2), (3, .int x5), (4, .int x6)] 17 [] := by
        intro n
        induction n with
        | zero => intro b4 x5 x6 b7 hm; exact hm.zero b7 (by decide)
        | succ n ih17 =>
          intro b4 x5 x6 b7 hmu17
          have J45 : Bd x2 0 8 → ∀ x9 : Int32, Bd x6 0 8 → J p l e rm_X0_mostAlike s m args below meth c 0 0 (MQ below (QcI D dA G (fun r v1 w1 => v1 = v ∧ w1 = w ∧ True ∧ True)) args s 0 0 (dm G)) D dA G (dm G) s.heap 5 v w [(0, .ref h0), (1, .int x1), (2, .int x2), (3, .int x9), (4, .int x6)] 45 [] := by
            intro b8 x9 b10
            refine J_iinc E 4 1 (fun z => [(4, .int z), (0, .ref h0), (1, .int x1), (2, .int x2), (3, .int x9)]) dX0_mostAlike_45 rfl (by decide) (by decide) (fun _ => rfl) (fun x11 e12 => ?_)
            have b13 : Bd x11 1 9 := Bd.add e12 b10 (Bd.lit 1 1 (by decide)) (by decide)
            refine J_goto E 17 dX0_mostAlike_48 (by decide) ?_
            exact J.sub [1, 2, 3, 4, 0] rfl (ih17 b8 x9 x11 (b13.w 0 9 (by decide)) (Mu.step hmu17 e12 b10 (Bd.lit 1 1 (by decide)) (by decide)))
          refine J_iload E dX0_mostAlike_17 4 rfl ?_
          refine J_aload_n E dX0_mostAlike_19 0 rfl ?_
          refine J_getI E in_X0 rfl (S_X0.h S0) 1 (by decide) wd300 rfl dX0_mostAlike_20 (fun x14 e15 => ?_)
          have b16 : Bd x14 0 9 := Ok.fd hOk e15 (S_X0.h S0) rfl
          refine J_icmp_ge E 51 dX0_mostAlike_23 (by decide) (fun c17 => ?_) (fun c17 => ?_)
          · refine J_iload_n E dX0_mostAlike_51 1 rfl ?_
            refine J_iload_n E dX0_mostAlike_52 3 rfl ?_
            refine J_callSI E cal_J9_max_7cf53 wd779 [.int x1, .int x5] [] (ct_J9_max_7cf53 l D dA G v w (hOk) x1 x5) rfl rfl (Nat.le_of_ble_eq_true rfl) ⟨rfl, rfl⟩ ⟨Nat.le_of_ble_eq_true rfl, Nat.le_of_ble_eq_true rfl⟩ dX0_mostAlike_53 (fun x21 v18 w19 p20 => ?_)
            rw [p20.1, p20.2.1]
            refine J_istore_n E [(1, .int x21), (0, .ref h0), (2, .int x2), (3, .int x5), (4, .int x6)] dX0_mostAlike_56 rfl (by decide) rfl ?_
            refine J_iinc E 2 1 (fun z => [(2, .int z), (1, .int x21), (0, .ref h0), (3, .int x5), (4, .int x6)]) dX0_mostAlike_57 rfl (by decide) (by decide) (fun _ => rfl) (fun x22 e23 => ?_)
            have b24 : Bd x22 1 9 := Bd.add e23 b4 (Bd.lit 1 1 (by decide)) (by decide)
            refine J_goto E 4 dX0_mostAlike_60 (by decide) ?_
            exact J.sub [2, 1, 0] rfl (ih4 x21 x22 (b24.w 0 9 (by decide)) (Mu.step hmu4 e23 b4 (Bd.lit 1 1 (by decide)) (by decide)))
          · have b25 : Bd x6 0 8 := Bd.lt_l (nle c17) b7 b16 8 (by decide)
            have b26 : Bd x14 1 9 := Bd.lt_r (nle c17) b7 b16 1 (by decide)
            refine J_aload_n E dX0_mostAlike_26 0 rfl ?_
            refine J_getR E in_X0 rfl (S_X0.h S0) 0 (by decide) wd299 rfl dX0_mostAlike_27 ?_
            refine J_iload E dX0_mostAlike_30 4 rfl ?_
            refine J_iald1 E (S_X0.f0 S0) (Bd.in b25 (by decide)) dX0_mostAlike_32 (fun x27 e28 => ?_)
            refine J_aload_n E dX0_mostAlike_33 0 rfl ?_
            refine J_getR E in_X0 rfl (S_X0.h S0) 0 (by decide) wd299 rfl dX0_mostAlike_34 ?_
            refine J_iload_n E dX0_mostAlike_37 2 rfl ?_
            refine J_iald1 E (S_X0.f0 S0) (Bd.in b4 (by decide)) dX0_mostAlike_38 (fun x29 e30 => ?_)
            refine J_icmp_ne E 45 dX0_mostAlike_39 (by decide) (fun c31 => ?_) (fun c31 => ?_)
            · exact J.sub [0, 1, 2, 3, 4] rfl (J45 b4 x5 b25)
            · refine J_iinc E 3 1 (fun z => [(3, .int z), (0, .ref h0), (1, .int x1), (2, .int x2), (4, .int x6)]) dX0_mostAlike_42 rfl (by decide) (by decide) (fun _ => rfl) (fun x32 e33 => ?_)
              exact J.sub [1, 2, 3, 0, 4] rfl (J45 b4 x32 b25)
      refine J_iload_n E dX0_mostAlike_4 2 rfl ?_
      refine J_aload_n E dX0_mostAlike_5 0 rfl ?_
      refine J_getI E in_X0 rfl (S_X0.h S0) 1 (by decide) wd300 rfl dX0_mostAlike_6 (fun x34 e35 => ?_)
      have b36 : Bd x34 0 9 := Ok.fd hOk e35 (S_X0.h S0) rfl
      refine J_icmp_ge E 63 dX0_mostAlike_9 (by decide) (fun c37 => ?_) (fun c37 => ?_)
      · refine J_iload_n E dX0_mostAlike_63 1 rfl ?_
        exact J_iret E hr dX0_mostAlike_64 ⟨rfl, rfl, trivial, trivial⟩
      · have b38 : Bd x2 0 8 := Bd.lt_l (nle c37) b3 b36 8 (by decide)
        have b39 : Bd x34 1 9 := Bd.lt_r (nle c37) b3 b36 1 (by decide)
        refine J_iconst E 0 dX0_mostAlike_12 (by decide) ?_
        refine J_istore_n E [(3, .int 0), (0, .ref h0), (1, .int x1), (2, .int x2)] dX0_mostAlike_13 rfl (by decide) rfl ?_
        refine J_iconst E 0 dX0_mostAlike_14 (by decide) ?_
        refine J_istore E [(4, .int 0), (3, .int 0), (0, .ref h0), (1, .int x1), (2, .int x2)] dX0_mostAlike_15 (by decide) rfl ?_
        exact J.sub [2, 3, 4, 1, 0] rfl (J17 10 b38 0 0 ((Bd.lit 0 0 (by decide)).w 0 9 (by decide)) (Mu.start _ (Bd.lit 0 0 (by decide)) (by decide)))
  refine J_iconst E 0 dX0_mostAlike_0 (by decide) ?_
  refine J_istore_n E [(1, .int 0), (0, .ref h0)] dX0_mostAlike_1 rfl (by decide) rfl ?_
  refine J_iconst E 0 dX0_mostAlike_2 (by decide) ?_
  refine J_istore_n E [(2, .int 0), (1, .int 0), (0, .ref h0)] dX0_mostAlike_3 rfl (by decide) rfl ?_
  exact J.sub [2, 1, 0] rfl (J4 10 0 0 ((Bd.lit 0 0 (by decide)).w 0 9 (by decide)) (Mu.start _ (Bd.lit 0 0 (by decide)) (by decide)))

abbrev rm_X1_most : Room := { frames := 0, cells := 0, slots := 0, locals := 0 }
set_option maxHeartbeats 4000000 in
set_option maxRecDepth 100000 in
theorem ct_X1_most (l : Launch) (D : va_G) (dA : Nat → ClassId) (G : Gm) (v : Mv) (w : Mw) (hOk : Ok G v w) (h0 : Nat) (S0 : S_X1 G h0) (x_0 : Int32) (bx_0 : Bd x_0 0 7) (x_1 : Int32) (bx_1 : Bd x_1 0 127) : CtI l yX1_most cX1_most 3 (some .int) rm_X1_most D dA G [.ref h0, .int x_0, .int x_1] v w (fun r v1 w1 => v1 = v ∧ w1 = w ∧ True ∧ True) := by
  refine CtI.of RX1 [(0, .ref h0), (1, .int x_0), (2, .int x_1)] (Nat.le_of_ble_eq_true rfl) rfl (by decide) rfl ?_
  intro p e s m args below meth c E hr
  refine J_iload_n E dX1_most_0 1 rfl ?_
  refine J_aload_n E dX1_most_1 0 rfl ?_
  refine J_getI E in_X1 rfl (S_X1.h S0) 2 (by decide) wd285 rfl dX1_most_2 (fun x1 e2 => ?_)
  have b3 : Bd x1 0 7 := Ok.fd hOk e2 (S_X1.h S0) rfl
  refine J_icmp_ge E 23 dX1_most_5 (by decide) (fun c4 => ?_) (fun c4 => ?_)
  · refine J_iconst E 0 dX1_most_23 (by decide) ?_
    exact J_iret E hr dX1_most_24 ⟨rfl, rfl, trivial, trivial⟩
  · have b5 : Bd x_0 0 6 := Bd.lt_l (nle c4) bx_0 b3 6 (by decide)
    have b6 : Bd x1 1 7 := Bd.lt_r (nle c4) bx_0 b3 1 (by decide)
    refine J_aload_n E dX1_most_8 0 rfl ?_
    refine J_getR E in_X1 rfl (S_X1.h S0) 1 (by decide) wd284 rfl dX1_most_9 ?_
    refine J_iload_n E dX1_most_12 1 rfl ?_
    refine J_sipush E 128 dX1_most_13 (by decide) ?_
    refine J_imul E dX1_most_16 (fun x7 e8 => ?_)
    have b9 : Bd x7 0 768 := Bd.mul e8 b5 (Bd.lit 128 128 (by decide)) (by decide)
    refine J_iload_n E dX1_most_17 2 rfl ?_
    refine J_iadd E dX1_most_18 (fun x10 e11 => ?_)
    have b12 : Bd x10 0 895 := Bd.add e11 b9 bx_1 (by decide)
    refine J_iald1 E (S_X1.f1 S0) (Bd.in b12 (by decide)) dX1_most_19 (fun x13 e14 => ?_)
    refine J_goto E 24 dX1_most_20 (by decide) ?_
    exact J_iret E hr dX1_most_24 ⟨rfl, rfl, trivial, trivial⟩

abbrev rm_X1_best : Room := { frames := 1, cells := 0, slots := 0, locals := 22 }
set_option maxHeartbeats 4000000 in
set_option maxRecDepth 100000 in
theorem ct_X1_best (l : Launch) (D : va_G) (dA : Nat → ClassId) (G : Gm) (v : Mv) (w : Mw) (hOk : Ok G v w) (h0 : Nat) (S0 : S_X1 G h0) (x_0 : Int32) (bx_0 : Bd x_0 0 6) (x_1 : Int32) (bx_1 : Bd x_1 0 127) : CtI l yX1_best cX1_best 6 (some .int) rm_X1_best D dA G [.ref h0, .int x_0, .int x_1] v w (fun r v1 w1 => v1 = v ∧ w1 = w ∧ True ∧ True) := by
  refine CtI.of RX1 [(0, .ref h0), (1, .int x_0), (2, .int x_1)] (Nat.le_of_ble_eq_true rfl) rfl (by decide) rfl ?_
  intro p e s m args below meth c E hr
  have J22 : ∀ n : Nat, Bd x_0 0 6 → Bd x_1 0 127 → ∀ x3 : Int32, ∀ x4 : Int32, Bd x4 0 127 → ∀ x6 : Int32, Bd x6 0 7 → Mu x6 7 n → J p l e rm_X1_best s m args below meth c 0 0 (MQ below (QcI D dA G (fun r v1 w1 => v1 = v ∧ w1 = w ∧ True ∧ True)) args s 0 0 (dm G)) D dA G (dm G) s.heap 6 v w [(0, .ref h0), (1, .int x_0), (2, .int x_1), (3, .int x3), (4, .int x4), (5, .int x6)] 22 [] := by
    intro n
    induction n with
    | zero => intro b1 b2 x3 x4 b5 x6 b7 hm; exact hm.zero b7 (by decide)
    | succ n ih22 =>
      intro b1 b2 x3 x4 b5 x6 b7 hmu22
      have J63 : Bd x_0 0 6 → Bd x_1 0 127 → Bd x4 0 127 → Bd x6 0 6 → J p l e rm_X1_best s m args below meth c 0 0 (MQ below (QcI D dA G (fun r v1 w1 => v1 = v ∧ w1 = w ∧ True ∧ True)) args s 0 0 (dm G)) D dA G (dm G) s.heap 6 v w [(0, .ref h0), (1, .int x_0), (2, .int x_1), (3, .int x3), (4, .int x4), (5, .int x6)] 63 [] := by
        intro b8 b9 b10 b11
        refine J_iinc E 5 1 (fun z => [(5, .int z), (0, .ref h0), (1, .int x_0), (2, .int x_1), (3, .int x3), (4, .int x4)]) dX1_best_63 rfl (by decide) (by decide) (fun _ => rfl) (fun x12 e13 => ?_)
        have b14 : Bd x12 1 7 := Bd.add e13 b11 (Bd.lit 1 1 (by decide)) (by decide)
        refine J_goto E 22 dX1_best_66 (by decide) ?_
        exact J.sub [1, 2, 3, 4, 5, 0] rfl (ih22 b8 b9 x3 x4 b10 x12 (b14.w 0 7 (by decide)) (Mu.step hmu22 e13 b11 (Bd.lit 1 1 (by decide)) (by decide)))
      refine J_iload E dX1_best_22 5 rfl ?_
      refine J_bipush E 7 dX1_best_24 (by decide) ?_
      refine J_icmp_ge E 69 dX1_best_26 (by decide) (fun c15 => ?_) (fun c15 => ?_)
      · have b16 : Bd x6 7 7 := Bd.le_r c15 (Bd.lit 7 7 (by decide)) b7 7 (by decide)
        refine J_iload_n E dX1_best_69 3 rfl ?_
        exact J_iret E hr dX1_best_70 ⟨rfl, rfl, trivial, trivial⟩
      · have b17 : Bd x6 0 6 := Bd.lt_l (nle c15) b7 (Bd.lit 7 7 (by decide)) 6 (by decide)
        refine J_iload E dX1_best_29 4 rfl ?_
        refine J_iload E dX1_best_31 5 rfl ?_
        refine J_ishr E dX1_best_33 (fun x18 e19 => ?_)
        have b20 : Bd x18 0 127 := Bd.shr e19 b5 (by decide)
        refine J_iconst E 1 dX1_best_34 (by decide) ?_
        refine J_iand E dX1_best_35 (fun x21 e22 => ?_)
        have b23 : Bd x21 0 1 := Bd.and_r e22 (Bd.lit 1 1 (by decide)) (by decide)
        refine J_iconst E 1 dX1_best_36 (by decide) ?_
        refine J_icmp_ne E 63 dX1_best_37 (by decide) (fun c24 => ?_) (fun c24 => ?_)
        · have b25 : Bd x21 0 0 := Bd.ne_hi c24 b23 (Bd.lit 1 1 (by decide))
          exact J.sub [0, 1, 2, 3, 4, 5] rfl (J63 b1 b2 b5 b17)
        · have b26 : Bd x21 1 1 := Bd.eq_l c24 b23 (Bd.lit 1 1 (by decide)) 1 1 (by decide)
          refine J_aload_n E dX1_best_40 0 rfl ?_
          refine J_iload_n E dX1_best_41 1 rfl ?_
          refine J_iconst E 1 dX1_best_42 (by decide) ?_
          refine J_iadd E dX1_best_43 (fun x27 e28 => ?_)
          have b29 : Bd x27 1 7 := Bd.add e28 b1 (Bd.lit 1 1 (by decide)) (by decide)
          refine J_iload_n E dX1_best_44 2 rfl ?_
          refine J_iconst E 1 dX1_best_45 (by decide) ?_
          refine J_iload E dX1_best_46 5 rfl ?_
          refine J_ishl E dX1_best_48 (fun x30 e31 => ?_)
          have b32 : Bd x30 1 64 := Bd.shl1 e31 b17 6 (by decide)
          refine J_iconst E (-1) dX1_best_49 (by decide) ?_
          refine J_ixor E dX1_best_50 (fun x33 e34 => ?_)
          refine J_iand E dX1_best_51 (fun x35 e36 => ?_)
          have b37 : Bd x35 0 127 := Bd.and_l e36 b2 (by decide)
          refine J_callVI E cal_X1_most wd697 rfl (S_X1.h S0) [.int x27, .int x35] [] (ct_X1_most l D dA G v w (hOk) h0 S0 x27 (b29.w 0 7 (by decide)) x35 b37) rfl rfl (Nat.le_of_ble_eq_true rfl) ⟨rfl, rfl⟩ ⟨Nat.le_of_ble_eq_true rfl, Nat.le_of_ble_eq_true rfl⟩ dX1_best_52 (fun x41 v38 w39 p40 => ?_)
          rw [p40.1, p40.2.1]
          refine J_iload_n E dX1_best_55 3 rfl ?_
          refine J_icmp_ne E 63 dX1_best_56 (by decide) (fun c42 => ?_) (fun c42 => ?_)
          · exact J.sub [0, 1, 2, 3, 4, 5] rfl (J63 b1 b2 b5 b17)
          · refine J_iload_n E dX1_best_59 3 rfl ?_
            refine J_iconst E 1 dX1_best_60 (by decide) ?_
            refine J_iadd E dX1_best_61 (fun x43 e44 => ?_)
            exact J_iret E hr dX1_best_62 ⟨rfl, rfl, trivial, trivial⟩
  refine J_aload_n E dX1_best_0 0 rfl ?_
  refine J_iload_n E dX1_best_1 1 rfl ?_
  refine J_iconst E 1 dX1_best_2 (by decide) ?_
  refine J_iadd E dX1_best_3 (fun x45 e46 => ?_)
  have b47 : Bd x45 1 7 := Bd.add e46 bx_0 (Bd.lit 1 1 (by decide)) (by decide)
  refine J_iload_n E dX1_best_4 2 rfl ?_
  refine J_callVI E cal_X1_most wd697 rfl (S_X1.h S0) [.int x45, .int x_1] [] (ct_X1_most l D dA G v w (hOk) h0 S0 x45 (b47.w 0 7 (by decide)) x_1 bx_1) rfl rfl (Nat.le_of_ble_eq_true rfl) ⟨rfl, rfl⟩ ⟨Nat.le_of_ble_eq_true rfl, Nat.le_of_ble_eq_true rfl⟩ dX1_best_5 (fun x51 v48 w49 p50 => ?_)
  rw [p50.1, p50.2.1]
  refine J_istore_n E [(3, .int x51), (0, .ref h0), (1, .int x_0), (2, .int x_1)] dX1_best_8 rfl (by decide) rfl ?_
  refine J_aload_n E dX1_best_9 1 rfl ?_
  refine J_getR E in_X1 rfl (S_X1.h S0) 0 (by decide) wd283 rfl dX1_best_10 ?_
  refine J_iload_n E dX1_best_13 2 rfl ?_
  refine J_iald1 E (S_X1.f0 S0) (Bd.in bx_0 (by decide)) dX1_best_14 (fun x52 e53 => ?_)
  refine J_iload_n E dX1_best_15 3 rfl ?_
  refine J_iand E dX1_best_16 (fun x54 e55 => ?_)
  have b56 : Bd x54 0 127 := Bd.and_r e55 bx_1 (by decide)
  refine J_istore E [(4, .int x54), (3, .int x51), (0, .ref h0), (1, .int x_0), (2, .int x_1)] dX1_best_17 (by decide) rfl ?_
  refine J_iconst E 0 dX1_best_19 (by decide) ?_
  refine J_istore E [(5, .int 0), (4, .int x54), (3, .int x51), (0, .ref h0), (1, .int x_0), (2, .int x_1)] dX1_best_20 (by decide) rfl ?_
  exact J.sub [3, 4, 5, 2, 1, 0] rfl (J22 8 bx_0 bx_1 x51 x54 b56 0 ((Bd.lit 0 0 (by decide)).w 0 7 (by decide)) (Mu.start _ (Bd.lit 0 0 (by decide)) (by decide)))

abbrev rm_X1_fill : Room := { frames := 5, cells := 0, slots := 0, locals := 115 }
set_option maxHeartbeats 4000000 in
set_option maxRecDepth 100000 in
theorem ct_X1_fill (l : Launch) (D : va_G) (dA : Nat → ClassId) (G : Gm) (v : Mv) (w : Mw) (hOk : Ok G v w) (h0 : Nat) (S0 : S_X1 G h0) (h_0 : Nat) (S_0 : S_X6 G h_0) (x_1 : Int32) (bx_1 : Bd x_1 1 60) : CtV l yX1_fill cX1_fill 5 none rm_X1_fill D dA G [.ref h0, .ref h_0, .int x_1] v w (fun v1 w1 => Ok G v1 w1 ∧ Kp G v v1 ∧ True) := by
  refine CtV.of RX1 [(0, .ref h0), (1, .ref h_0), (2, .int x_1)] (Nat.le_of_ble_eq_true rfl) rfl (by decide) rfl ?_
  intro p e s m args below meth c E hr
  have J15 : ∀ n : Nat, ∀ (v1 : Mv) (w2 : Mw), Ok G v1 w2 → Kp G v v1 → Bd x_1 1 60 → ∀ x6 : Int32, Bd x6 (-1) 6 → Md x6 (-1) n → J p l e rm_X1_fill s m args below meth c 0 0 (MQ below (QcV D dA G (fun v1 w1 => Ok G v1 w1 ∧ Kp G v v1 ∧ True)) args s 0 0 (dm G)) D dA G (dm G) s.heap 5 v1 w2 [(0, .ref h0), (1, .ref h_0), (2, .int x_1), (3, .int x6)] 15 [] := by
    intro n
    induction n with
    | zero => intro v1 w2 o3 k4 b5 x6 b7 hm; exact hm.zero b7 (by decide)
    | succ n ih15 =>
      intro v1 w2 o3 k4 b5 x6 b7 hmu15
      have J34 : ∀ n : Nat, ∀ (v8 : Mv) (w9 : Mw), Ok G v8 w9 → Kp G v v8 → Bd x_1 1 60 → Bd x6 0 6 → ∀ x14 : Int32, Bd x14 0 128 → Mu x14 128 n → J p l e rm_X1_fill s m args below meth c 0 0 (MQ below (QcV D dA G (fun v1 w1 => Ok G v1 w1 ∧ Kp G v v1 ∧ True)) args s 0 0 (dm G)) D dA G (dm G) s.heap 5 v8 w9 [(0, .ref h0), (1, .ref h_0), (2, .int x_1), (3, .int x6), (4, .int x14)] 34 [] := by
        intro n
        induction n with
        | zero => intro v8 w9 o10 k11 b12 b13 x14 b15 hm; exact hm.zero b15 (by decide)
        | succ n ih34 =>
          intro v8 w9 o10 k11 b12 b13 x14 b15 hmu34
          refine J_iload E dX1_fill_34 4 rfl ?_
          refine J_iconst E 1 dX1_fill_36 (by decide) ?_
          refine J_aload_n E dX1_fill_37 1 rfl ?_
          refine J_getIN E in_X6 rfl (S_X6.h S_0) 0 (by decide) wd192 rfl dX1_fill_38 (fun x16 e17 => ?_)
          have b18 : Bd x16 0 7 := Ok.fd o10 e17 (S_X6.h S_0) rfl
          refine J_ishl E dX1_fill_41 (fun x19 e20 => ?_)
          have b21 : Bd x19 1 128 := Bd.shl1 e20 b18 7 (by decide)
          refine J_icmp_ge E 71 dX1_fill_42 (by decide) (fun c22 => ?_) (fun c22 => ?_)
          · have b23 : Bd x14 1 128 := Bd.le_r c22 b21 b15 1 (by decide)
            refine J_iinc E 3 (-1) (fun z => [(3, .int z), (0, .ref h0), (1, .ref h_0), (2, .int x_1), (4, .int x14)]) dX1_fill_71 rfl (by decide) (by decide) (fun _ => rfl) (fun x24 e25 => ?_)
            have b26 : Bd x24 (-1) 5 := Bd.add e25 b13 (Bd.lit (-1) (-1) (by decide)) (by decide)
            refine J_goto E 15 dX1_fill_74 (by decide) ?_
            exact J.sub [1, 2, 3, 0] rfl (ih15 v8 w9 (o10) (k11) b12 x24 (b26.w (-1) 6 (by decide)) (Md.step hmu15 e25 b13 (Bd.lit (-1) (-1) (by decide)) (by decide)))
          · have b27 : Bd x14 0 127 := Bd.lt_l (nle c22) b15 b21 127 (by decide)
            refine J_aload_n E dX1_fill_45 0 rfl ?_
            refine J_getR E in_X1 rfl (S_X1.h S0) 1 (by decide) wd284 rfl dX1_fill_46 ?_
            refine J_iload_n E dX1_fill_49 3 rfl ?_
            refine J_sipush E 128 dX1_fill_50 (by decide) ?_
            refine J_imul E dX1_fill_53 (fun x28 e29 => ?_)
            have b30 : Bd x28 0 768 := Bd.mul e29 b13 (Bd.lit 128 128 (by decide)) (by decide)
            refine J_iload E dX1_fill_54 4 rfl ?_
            refine J_iadd E dX1_fill_56 (fun x31 e32 => ?_)
            have b33 : Bd x31 0 895 := Bd.add e32 b30 b27 (by decide)
            refine J_aload_n E dX1_fill_57 0 rfl ?_
            refine J_iload_n E dX1_fill_58 3 rfl ?_
            refine J_iload E dX1_fill_59 4 rfl ?_
            refine J_callVI E cal_X1_best wd693 rfl (S_X1.h S0) [.int x6, .int x14] [.int x31, .ref (rf G h0 1)] (ct_X1_best l D dA G v8 w9 (o10) h0 S0 x6 b13 x14 b27) rfl rfl (Nat.le_of_ble_eq_true rfl) ⟨rfl, rfl⟩ ⟨Nat.le_of_ble_eq_true rfl, Nat.le_of_ble_eq_true rfl⟩ dX1_fill_61 (fun x37 v34 w35 p36 => ?_)
            rw [p36.1, p36.2.1]
            refine J_iast1 E (S_X1.f1 S0) (Bd.in b33 (by decide)) dX1_fill_64 (fun v38 e39 => ?_)
            have o40 : Ok G v38 w9 := by rw [e39]; exact Ok.sv o10 (S_X1.f1 S0) b33 (Bd.any x37) 0 896 (by decide) (by decide +kernel)
            have k41 : Kp G v v38 := by rw [e39]; exact Kp.sv k11 (S_X1.f1 S0) b33 0 896 I0 I1 (by decide) (by decide +kernel)
            have e42 : x16 = v38 h_0 0 := by rw [e39, stv_a (tg_ne (S_X6.h S_0) ((S_X1.f1 S0)) rfl)]; exact e17
            refine J_iinc E 4 1 (fun z => [(4, .int z), (0, .ref h0), (1, .ref h_0), (2, .int x_1), (3, .int x6)]) dX1_fill_65 rfl (by decide) (by decide) (fun _ => rfl) (fun x43 e44 => ?_)
            have b45 : Bd x43 1 128 := Bd.add e44 b27 (Bd.lit 1 1 (by decide)) (by decide)
            refine J_goto E 34 dX1_fill_68 (by decide) ?_
            exact J.sub [1, 2, 3, 4, 0] rfl (ih34 v38 w9 (o40) (k41) b12 b13 x43 (b45.w 0 128 (by decide)) (Mu.step hmu34 e44 b27 (Bd.lit 1 1 (by decide)) (by decide)))
      refine J_iload_n E dX1_fill_15 3 rfl ?_
      refine J_if_lt E 77 dX1_fill_16 (by decide) (fun c46 => ?_) (fun c46 => ?_)
      · have b47 : Bd x6 (-1) (-1) := Bd.lt_l c46 b7 (Bd.lit 0 0 (by decide)) (-1) (by decide)
        exact J_vret E hr dX1_fill_77 ⟨o3, k4, trivial⟩
      · have b48 : Bd x6 0 6 := Bd.le_r (nlt c46) (Bd.lit 0 0 (by decide)) b7 0 (by decide)
        refine J_aload_n E dX1_fill_19 0 rfl ?_
        refine J_getR E in_X1 rfl (S_X1.h S0) 0 (by decide) wd283 rfl dX1_fill_20 ?_
        refine J_iload_n E dX1_fill_23 3 rfl ?_
        refine J_aload_n E dX1_fill_24 1 rfl ?_
        refine J_iload_n E dX1_fill_25 3 rfl ?_
        refine J_iload_n E dX1_fill_26 2 rfl ?_
        refine J_callVNI E cal_X6_thingsHolding wd688 rfl (S_X6.h S_0) [.int x6, .int x_1] [.int x6, .ref (rf G h0 0)] (ct_X6_thingsHolding l D dA G v1 w2 (o3) h_0 S_0 x6 b48 x_1 b5) rfl rfl (Nat.le_of_ble_eq_true rfl) ⟨rfl, rfl⟩ ⟨Nat.le_of_ble_eq_true rfl, Nat.le_of_ble_eq_true rfl⟩ dX1_fill_27 (fun x52 v49 w50 p51 => ?_)
        rw [p51.1, p51.2.1]
        have b53 : Bd x52 0 127 := p51.2.2.1
        refine J_iast1 E (S_X1.f0 S0) (Bd.in b48 (by decide)) dX1_fill_30 (fun v54 e55 => ?_)
        have o56 : Ok G v54 w2 := by rw [e55]; exact Ok.sv o3 (S_X1.f0 S0) b48 b53 0 7 (by decide) (by decide +kernel)
        have k57 : Kp G v v54 := by rw [e55]; exact Kp.sv k4 (S_X1.f0 S0) b48 0 7 0 127 (by decide) (by decide +kernel)
        refine J_iconst E 0 dX1_fill_31 (by decide) ?_
        refine J_istore E [(4, .int 0), (0, .ref h0), (1, .ref h_0), (2, .int x_1), (3, .int x6)] dX1_fill_32 (by decide) rfl ?_
        exact J.sub [1, 2, 3, 4, 0] rfl (J34 129 v54 w2 (o56) (k57) b5 b48 0 ((Bd.lit 0 0 (by decide)).w 0 128 (by decide)) (Mu.start _ (Bd.lit 0 0 (by decide)) (by decide)))
  refine J_aload_n E dX1_fill_0 0 rfl ?_
  refine J_aload_n E dX1_fill_1 1 rfl ?_
  refine J_getIN E in_X6 rfl (S_X6.h S_0) 3 (by decide) wd199 rfl dX1_fill_2 (fun x58 e59 => ?_)
  have b60 : Bd x58 0 7 := Ok.fd hOk e59 (S_X6.h S_0) rfl
  refine J_pI E in_X1 rfl (S_X1.h S0) 2 (by decide) wd285 tyX1 tyX1_ok nmX1 rfl rfl .int (by decide +kernel) rfl rfl dX1_fill_5 (fun v61 e62 => ?_)
  have o63 : Ok G v61 w := Ok.pf hOk e62 (S_X1.h S0) rfl b60
  have k64 : Kp G v v61 := Kp.pf Kp.rf e62 (S_X1.h S0) rfl
  have e65 : x58 = v61 h_0 3 := by rw [e62, stv_k (by decide)]; exact e59
  have e66 : x58 = v61 h0 2 := by rw [e62, stv_s]
  refine J_aload_n E dX1_fill_8 0 rfl ?_
  refine J_getI E in_X1 rfl (S_X1.h S0) 2 (by decide) wd285 rfl dX1_fill_9 (fun x67 e68 => ?_)
  rw [show x67 = x58 from e68.trans (e66).symm]
  refine J_iconst E 1 dX1_fill_12 (by decide) ?_
  refine J_isub E dX1_fill_13 (fun x69 e70 => ?_)
  have b71 : Bd x69 (-1) 6 := Bd.sub e70 b60 (Bd.lit 1 1 (by decide)) (by decide)
  refine J_istore_n E [(3, .int x69), (0, .ref h0), (1, .ref h_0), (2, .int x_1)] dX1_fill_14 rfl (by decide) rfl ?_
  exact J.sub [1, 2, 3, 0] rfl (J15 8 v61 w (o63) (k64) bx_1 x69 b71 (Md.start _ b71 (by decide)))

abbrev rm_X1_firstThing : Room := { frames := 1, cells := 0, slots := 0, locals := 22 }
set_option maxHeartbeats 4000000 in
set_option maxRecDepth 100000 in
theorem ct_X1_firstThing (l : Launch) (D : va_G) (dA : Nat → ClassId) (G : Gm) (v : Mv) (w : Mw) (hOk : Ok G v w) (h0 : Nat) (S0 : S_X1 G h0) (x_0 : Int32) (bx_0 : Bd x_0 0 6) (x_1 : Int32) (bx_1 : Bd x_1 0 127) : CtI l yX1_firstThing cX1_firstThing 6 (some .int) rm_X1_firstThing D dA G [.ref h0, .int x_0, .int x_1] v w (fun r v1 w1 => v1 = v ∧ w1 = w ∧ Bd r (-1) 6 ∧ True) := by
  refine CtI.of RX1 [(0, .ref h0), (1, .int x_0), (2, .int x_1)] (Nat.le_of_ble_eq_true rfl) rfl (by decide) rfl ?_
  intro p e s m args below meth c E hr
  have J34 : ∀ n : Nat, Bd x_0 0 6 → Bd x_1 0 127 → ∀ x3 : Int32, ∀ x4 : Int32, Bd x4 0 127 → ∀ x6 : Int32, Bd x6 0 7 → Mu x6 7 n → J p l e rm_X1_firstThing s m args below meth c 0 0 (MQ below (QcI D dA G (fun r v1 w1 => v1 = v ∧ w1 = w ∧ Bd r (-1) 6 ∧ True)) args s 0 0 (dm G)) D dA G (dm G) s.heap 6 v w [(0, .ref h0), (1, .int x_0), (2, .int x_1), (3, .int x3), (4, .int x4), (5, .int x6)] 34 [] := by
    intro n
    induction n with
    | zero => intro b1 b2 x3 x4 b5 x6 b7 hm; exact hm.zero b7 (by decide)
    | succ n ih34 =>
      intro b1 b2 x3 x4 b5 x6 b7 hmu34
      have J76 : Bd x_0 0 6 → Bd x_1 0 127 → Bd x4 0 127 → Bd x6 0 6 → J p l e rm_X1_firstThing s m args below meth c 0 0 (MQ below (QcI D dA G (fun r v1 w1 => v1 = v ∧ w1 = w ∧ Bd r (-1) 6 ∧ True)) args s 0 0 (dm G)) D dA G (dm G) s.heap 6 v w [(0, .ref h0), (1, .int x_0), (2, .int x_1), (3, .int x3), (4, .int x4), (5, .int x6)] 76 [] := by
        intro b8 b9 b10 b11
        refine J_iinc E 5 1 (fun z => [(5, .int z), (0, .ref h0), (1, .int x_0), (2, .int x_1), (3, .int x3), (4, .int x4)]) dX1_firstThing_76 rfl (by decide) (by decide) (fun _ => rfl) (fun x12 e13 => ?_)
        have b14 : Bd x12 1 7 := Bd.add e13 b11 (Bd.lit 1 1 (by decide)) (by decide)
        refine J_goto E 34 dX1_firstThing_79 (by decide) ?_
        exact J.sub [1, 2, 3, 4, 5, 0] rfl (ih34 b8 b9 x3 x4 b10 x12 (b14.w 0 7 (by decide)) (Mu.step hmu34 e13 b11 (Bd.lit 1 1 (by decide)) (by decide)))
      refine J_iload E dX1_firstThing_34 5 rfl ?_
      refine J_bipush E 7 dX1_firstThing_36 (by decide) ?_
      refine J_icmp_ge E 82 dX1_firstThing_38 (by decide) (fun c15 => ?_) (fun c15 => ?_)
      · have b16 : Bd x6 7 7 := Bd.le_r c15 (Bd.lit 7 7 (by decide)) b7 7 (by decide)
        refine J_iconst E (-1) dX1_firstThing_82 (by decide) ?_
        exact J_iret E hr dX1_firstThing_83 ⟨rfl, rfl, ((Bd.lit (-1) (-1) (by decide)).w (-1) 6 (by decide)), trivial⟩
      · have b17 : Bd x6 0 6 := Bd.lt_l (nle c15) b7 (Bd.lit 7 7 (by decide)) 6 (by decide)
        refine J_iload E dX1_firstThing_41 4 rfl ?_
        refine J_iload E dX1_firstThing_43 5 rfl ?_
        refine J_ishr E dX1_firstThing_45 (fun x18 e19 => ?_)
        have b20 : Bd x18 0 127 := Bd.shr e19 b5 (by decide)
        refine J_iconst E 1 dX1_firstThing_46 (by decide) ?_
        refine J_iand E dX1_firstThing_47 (fun x21 e22 => ?_)
        have b23 : Bd x21 0 1 := Bd.and_r e22 (Bd.lit 1 1 (by decide)) (by decide)
        refine J_iconst E 1 dX1_firstThing_48 (by decide) ?_
        refine J_icmp_ne E 76 dX1_firstThing_49 (by decide) (fun c24 => ?_) (fun c24 => ?_)
        · have b25 : Bd x21 0 0 := Bd.ne_hi c24 b23 (Bd.lit 1 1 (by decide))
          exact J.sub [0, 1, 2, 3, 4, 5] rfl (J76 b1 b2 b5 b17)
        · have b26 : Bd x21 1 1 := Bd.eq_l c24 b23 (Bd.lit 1 1 (by decide)) 1 1 (by decide)
          refine J_aload_n E dX1_firstThing_52 0 rfl ?_
          refine J_iload_n E dX1_firstThing_53 1 rfl ?_
          refine J_iconst E 1 dX1_firstThing_54 (by decide) ?_
          refine J_iadd E dX1_firstThing_55 (fun x27 e28 => ?_)
          have b29 : Bd x27 1 7 := Bd.add e28 b1 (Bd.lit 1 1 (by decide)) (by decide)
          refine J_iload_n E dX1_firstThing_56 2 rfl ?_
          refine J_iconst E 1 dX1_firstThing_57 (by decide) ?_
          refine J_iload E dX1_firstThing_58 5 rfl ?_
          refine J_ishl E dX1_firstThing_60 (fun x30 e31 => ?_)
          have b32 : Bd x30 1 64 := Bd.shl1 e31 b17 6 (by decide)
          refine J_iconst E (-1) dX1_firstThing_61 (by decide) ?_
          refine J_ixor E dX1_firstThing_62 (fun x33 e34 => ?_)
          refine J_iand E dX1_firstThing_63 (fun x35 e36 => ?_)
          have b37 : Bd x35 0 127 := Bd.and_l e36 b2 (by decide)
          refine J_callVI E cal_X1_most wd697 rfl (S_X1.h S0) [.int x27, .int x35] [] (ct_X1_most l D dA G v w (hOk) h0 S0 x27 (b29.w 0 7 (by decide)) x35 b37) rfl rfl (Nat.le_of_ble_eq_true rfl) ⟨rfl, rfl⟩ ⟨Nat.le_of_ble_eq_true rfl, Nat.le_of_ble_eq_true rfl⟩ dX1_firstThing_64 (fun x41 v38 w39 p40 => ?_)
          rw [p40.1, p40.2.1]
          refine J_iconst E 1 dX1_firstThing_67 (by decide) ?_
          refine J_iadd E dX1_firstThing_68 (fun x42 e43 => ?_)
          refine J_iload_n E dX1_firstThing_69 3 rfl ?_
          refine J_icmp_ne E 76 dX1_firstThing_70 (by decide) (fun c44 => ?_) (fun c44 => ?_)
          · exact J.sub [0, 1, 2, 3, 4, 5] rfl (J76 b1 b2 b5 b17)
          · refine J_iload E dX1_firstThing_73 5 rfl ?_
            exact J_iret E hr dX1_firstThing_75 ⟨rfl, rfl, (b17.w (-1) 6 (by decide)), trivial⟩
  refine J_aload_n E dX1_firstThing_0 0 rfl ?_
  refine J_iload_n E dX1_firstThing_1 1 rfl ?_
  refine J_iload_n E dX1_firstThing_2 2 rfl ?_
  refine J_callVI E cal_X1_most wd697 rfl (S_X1.h S0) [.int x_0, .int x_1] [] (ct_X1_most l D dA G v w (hOk) h0 S0 x_0 (bx_0.w 0 7 (by decide)) x_1 bx_1) rfl rfl (Nat.le_of_ble_eq_true rfl) ⟨rfl, rfl⟩ ⟨Nat.le_of_ble_eq_true rfl, Nat.le_of_ble_eq_true rfl⟩ dX1_firstThing_3 (fun x48 v45 w46 p47 => ?_)
  rw [p47.1, p47.2.1]
  refine J_istore_n E [(3, .int x48), (0, .ref h0), (1, .int x_0), (2, .int x_1)] dX1_firstThing_6 rfl (by decide) rfl ?_
  refine J_aload_n E dX1_firstThing_7 1 rfl ?_
  refine J_iload_n E dX1_firstThing_8 2 rfl ?_
  refine J_iconst E 1 dX1_firstThing_9 (by decide) ?_
  refine J_iadd E dX1_firstThing_10 (fun x49 e50 => ?_)
  have b51 : Bd x49 1 7 := Bd.add e50 bx_0 (Bd.lit 1 1 (by decide)) (by decide)
  refine J_iload_n E dX1_firstThing_11 3 rfl ?_
  refine J_callVI E cal_X1_most wd697 rfl (S_X1.h S0) [.int x49, .int x_1] [] (ct_X1_most l D dA G v w (hOk) h0 S0 x49 (b51.w 0 7 (by decide)) x_1 bx_1) rfl rfl (Nat.le_of_ble_eq_true rfl) ⟨rfl, rfl⟩ ⟨Nat.le_of_ble_eq_true rfl, Nat.le_of_ble_eq_true rfl⟩ dX1_firstThing_12 (fun x55 v52 w53 p54 => ?_)
  rw [p54.1, p54.2.1]
  refine J_iload_n E dX1_firstThing_15 0 rfl ?_
  refine J_icmp_ne E 21 dX1_firstThing_16 (by decide) (fun c56 => ?_) (fun c56 => ?_)
  · refine J_aload_n E dX1_firstThing_21 1 rfl ?_
    refine J_getR E in_X1 rfl (S_X1.h S0) 0 (by decide) wd283 rfl dX1_firstThing_22 ?_
    refine J_iload_n E dX1_firstThing_25 2 rfl ?_
    refine J_iald1 E (S_X1.f0 S0) (Bd.in bx_0 (by decide)) dX1_firstThing_26 (fun x57 e58 => ?_)
    refine J_iload_n E dX1_firstThing_27 3 rfl ?_
    refine J_iand E dX1_firstThing_28 (fun x59 e60 => ?_)
    have b61 : Bd x59 0 127 := Bd.and_r e60 bx_1 (by decide)
    refine J_istore E [(4, .int x59), (3, .int x48), (0, .ref h0), (1, .int x_0), (2, .int x_1)] dX1_firstThing_29 (by decide) rfl ?_
    refine J_iconst E 0 dX1_firstThing_31 (by decide) ?_
    refine J_istore E [(5, .int 0), (4, .int x59), (3, .int x48), (0, .ref h0), (1, .int x_0), (2, .int x_1)] dX1_firstThing_32 (by decide) rfl ?_
    exact J.sub [3, 4, 5, 2, 1, 0] rfl (J34 8 bx_0 bx_1 x48 x59 b61 0 ((Bd.lit 0 0 (by decide)).w 0 7 (by decide)) (Mu.start _ (Bd.lit 0 0 (by decide)) (by decide)))
  · refine J_iconst E (-1) dX1_firstThing_19 (by decide) ?_
    exact J_iret E hr dX1_firstThing_20 ⟨rfl, rfl, ((Bd.lit (-1) (-1) (by decide)).w (-1) 6 (by decide)), trivial⟩

abbrev rm_X1_firstThingOf : Room := { frames := 2, cells := 0, slots := 0, locals := 47 }
set_option maxHeartbeats 4000000 in
set_option maxRecDepth 100000 in
theorem ct_X1_firstThingOf (l : Launch) (D : va_G) (dA : Nat → ClassId) (G : Gm) (v : Mv) (w : Mw) (hOk : Ok G v w) (h0 : Nat) (S0 : S_X1 G h0) (x_0 : Int32) (bx_0 : Bd x_0 0 6) (x_1 : Int32) (bx_1 : Bd x_1 0 127) : CtI l yX1_firstThingOf cX1_firstThingOf 6 (some .int) rm_X1_firstThingOf D dA G [.ref h0, .int x_0, .int x_1] v w (fun r v1 w1 => v1 = v ∧ w1 = w ∧ True ∧ True) := by
  refine CtI.of RX1 [(0, .ref h0), (1, .int x_0), (2, .int x_1)] (Nat.le_of_ble_eq_true rfl) rfl (by decide) rfl ?_
  intro p e s m args below meth c E hr
  have J8 : ∀ n : Nat, Bd x_0 0 6 → ∀ x2 : Int32, Bd x2 0 127 → ∀ x4 : Int32, Bd x4 (-1) 6 → ∀ x6 : Int32, Bd x6 0 7 → Mu x6 7 n → J p l e rm_X1_firstThingOf s m args below meth c 0 0 (MQ below (QcI D dA G (fun r v1 w1 => v1 = v ∧ w1 = w ∧ True ∧ True)) args s 0 0 (dm G)) D dA G (dm G) s.heap 6 v w [(0, .ref h0), (1, .int x_0), (3, .int x2), (4, .int x4), (5, .int x6)] 8 [] := by
    intro n
    induction n with
    | zero => intro b1 x2 b3 x4 b5 x6 b7 hm; exact hm.zero b7 (by decide)
    | succ n ih8 =>
      intro b1 x2 b3 x4 b5 x6 b7 hmu8
      have J38 : Bd x_0 0 6 → ∀ x9 : Int32, Bd x9 0 127 → ∀ x11 : Int32, Bd x11 (-1) 6 → Bd x6 0 6 → J p l e rm_X1_firstThingOf s m args below meth c 0 0 (MQ below (QcI D dA G (fun r v1 w1 => v1 = v ∧ w1 = w ∧ True ∧ True)) args s 0 0 (dm G)) D dA G (dm G) s.heap 6 v w [(0, .ref h0), (1, .int x_0), (3, .int x9), (4, .int x11), (5, .int x6)] 38 [] := by
        intro b8 x9 b10 x11 b12 b13
        refine J_iinc E 4 1 (fun z => [(5, .int z), (0, .ref h0), (1, .int x_0), (3, .int x9), (4, .int x11)]) dX1_firstThingOf_38 rfl (by decide) (by decide) (fun _ => rfl) (fun x14 e15 => ?_)
        have b16 : Bd x14 1 7 := Bd.add e15 b13 (Bd.lit 1 1 (by decide)) (by decide)
        refine J_goto E 8 dX1_firstThingOf_41 (by decide) ?_
        exact J.sub [1, 2, 3, 4, 0] rfl (ih8 b8 x9 b10 x11 b12 x14 (b16.w 0 7 (by decide)) (Mu.step hmu8 e15 b13 (Bd.lit 1 1 (by decide)) (by decide)))
      refine J_iload E dX1_firstThingOf_8 4 rfl ?_
      refine J_iload_n E dX1_firstThingOf_10 1 rfl ?_
      refine J_icmp_gt E 44 dX1_firstThingOf_11 (by decide) (fun c17 => ?_) (fun c17 => ?_)
      · have b18 : Bd x6 1 7 := Bd.lt_r c17 b1 b7 1 (by decide)
        refine J_iload E dX1_firstThingOf_44 3 rfl ?_
        exact J_iret E hr dX1_firstThingOf_46 ⟨rfl, rfl, trivial, trivial⟩
      · have b19 : Bd x6 0 6 := Bd.le_l (nlt c17) b7 b1 6 (by decide)
        refine J_aload_n E dX1_firstThingOf_14 0 rfl ?_
        refine J_iload E dX1_firstThingOf_15 4 rfl ?_
        refine J_iload_n E dX1_firstThingOf_17 2 rfl ?_
        refine J_callVI E cal_X1_firstThing wd706 rfl (S_X1.h S0) [.int x6, .int x2] [] (ct_X1_firstThing l D dA G v w (hOk) h0 S0 x6 b19 x2 b3) rfl rfl (Nat.le_of_ble_eq_true rfl) ⟨rfl, rfl⟩ ⟨Nat.le_of_ble_eq_true rfl, Nat.le_of_ble_eq_true rfl⟩ dX1_firstThingOf_18 (fun x23 v20 w21 p22 => ?_)
        rw [p22.1, p22.2.1]
        have b24 : Bd x23 (-1) 6 := p22.2.2.1
        refine J_istore E [(4, .int x23), (0, .ref h0), (1, .int x_0), (3, .int x2), (5, .int x6)] dX1_firstThingOf_21 (by decide) rfl ?_
        refine J_iload E dX1_firstThingOf_23 0 rfl ?_
        refine J_iconst E (-1) dX1_firstThingOf_25 (by decide) ?_
        refine J_icmp_eq E 38 dX1_firstThingOf_26 (by decide) (fun c25 => ?_) (fun c25 => ?_)
        · have b26 : Bd x23 (-1) (-1) := Bd.eq_l c25 b24 (Bd.lit (-1) (-1) (by decide)) (-1) (-1) (by decide)
          exact J.sub [1, 2, 3, 0, 4] rfl (J38 b1 x2 b3 x23 (b26.w (-1) 6 (by decide)) b19)
        · have b27 : Bd x23 0 6 := Bd.ne_lo c25 b24 (Bd.lit (-1) (-1) (by decide))
          refine J_iload_n E dX1_firstThingOf_29 3 rfl ?_
          refine J_iconst E 1 dX1_firstThingOf_30 (by decide) ?_
          refine J_iload E dX1_firstThingOf_31 0 rfl ?_
          refine J_ishl E dX1_firstThingOf_33 (fun x28 e29 => ?_)
          have b30 : Bd x28 1 64 := Bd.shl1 e29 b27 6 (by decide)
          refine J_iconst E (-1) dX1_firstThingOf_34 (by decide) ?_
          refine J_ixor E dX1_firstThingOf_35 (fun x31 e32 => ?_)
          refine J_iand E dX1_firstThingOf_36 (fun x33 e34 => ?_)
          have b35 : Bd x33 0 127 := Bd.and_l e34 b3 (by decide)
          refine J_istore_n E [(3, .int x33), (4, .int x23), (0, .ref h0), (1, .int x_0), (5, .int x6)] dX1_firstThingOf_37 rfl (by decide) rfl ?_
          exact J.sub [2, 3, 0, 1, 4] rfl (J38 b1 x33 b35 x23 (b27.w (-1) 6 (by decide)) b19)
  refine J_iload_n E dX1_firstThingOf_0 2 rfl ?_
  refine J_istore_n E [(3, .int x_1), (0, .ref h0), (1, .int x_0), (2, .int x_1)] dX1_firstThingOf_1 rfl (by decide) rfl ?_
  refine J_iconst E (-1) dX1_firstThingOf_2 (by decide) ?_
  refine J_istore E [(4, .int (-1)), (3, .int x_1), (0, .ref h0), (1, .int x_0), (2, .int x_1)] dX1_firstThingOf_3 (by decide) rfl ?_
  refine J_iconst E 0 dX1_firstThingOf_5 (by decide) ?_
  refine J_istore E [(5, .int 0), (4, .int (-1)), (3, .int x_1), (0, .ref h0), (1, .int x_0), (2, .int x_1)] dX1_firstThingOf_6 (by decide) rfl ?_
  exact J.sub [3, 4, 2, 1, 0] rfl (J8 8 bx_0 x_1 bx_1 (-1) ((Bd.lit (-1) (-1) (by decide)).w (-1) 6 (by decide)) 0 ((Bd.lit 0 0 (by decide)).w 0 7 (by decide)) (Mu.start _ (Bd.lit 0 0 (by decide)) (by decide)))

abbrev rm_X4_drop_5 : Room := { frames := 0, cells := 0, slots := 0, locals := 0 }
set_option maxHeartbeats 4000000 in
set_option maxRecDepth 100000 in
theorem ct_X4_drop_5 (l : Launch) (D : va_G) (dA : Nat → ClassId) (G : Gm) (v : Mv) (w : Mw) (hOk : Ok G v w) (h0 : Nat) (S0 : S_X4 G h0 5) : CtI l yX4_drop cX4_drop 2 (some .int) rm_X4_drop_5 D dA G [.ref h0] v w (fun r v1 w1 => Ok G v1 w1 ∧ Kp G v v1 ∧ Bd r 0 5 ∧ True) := by
  refine CtI.of RX4 [(0, .ref h0)] (Nat.le_of_ble_eq_true rfl) rfl (by decide) rfl ?_
  intro p e s m args below meth c E hr
  refine J_aload_n E dX4_drop_0 0 rfl ?_
  refine J_getI E in_X4 rfl (S_X4.h S0) 2 (by decide) wd181 rfl dX4_drop_1 (fun x1 e2 => ?_)
  have b3 : Bd x1 0 5 := Ok.fd hOk e2 (S_X4.h S0) rfl
  refine J_istore_n E [(1, .int x1), (0, .ref h0)] dX4_drop_4 rfl (by decide) rfl ?_
  refine J_aload_n E dX4_drop_5 1 rfl ?_
  refine J_iconst E 0 dX4_drop_6 (by decide) ?_
  refine J_pI E in_X4 rfl (S_X4.h S0) 2 (by decide) wd181 tyX4 tyX4_ok nmX4 rfl rfl .int (by decide +kernel) rfl rfl dX4_drop_7 (fun v4 e5 => ?_)
  have o6 : Ok G v4 w := Ok.pf hOk e5 (S_X4.h S0) rfl ((Bd.lit 0 0 (by decide)).w 0 5 (by decide))
  have k7 : Kp G v v4 := Kp.pf Kp.rf e5 (S_X4.h S0) rfl
  refine J_iload_n E dX4_drop_10 0 rfl ?_
  exact J_iret E hr dX4_drop_11 ⟨o6, k7, b3, trivial⟩

abbrev rm_X4_drop_6 : Room := { frames := 0, cells := 0, slots := 0, locals := 0 }
set_option maxHeartbeats 4000000 in
set_option maxRecDepth 100000 in
theorem ct_X4_drop_6 (l : Launch) (D : va_G) (dA : Nat → ClassId) (G : Gm) (v : Mv) (w : Mw) (hOk : Ok G v w) (h0 : Nat) (S0 : S_X4 G h0 6) : CtI l yX4_drop cX4_drop 2 (some .int) rm_X4_drop_6 D dA G [.ref h0] v w (fun r v1 w1 => Ok G v1 w1 ∧ Kp G v v1 ∧ Bd r 0 6 ∧ True) := by
  refine CtI.of RX4 [(0, .ref h0)] (Nat.le_of_ble_eq_true rfl) rfl (by decide) rfl ?_
  intro p e s m args below meth c E hr
  refine J_aload_n E dX4_drop_0 0 rfl ?_
  refine J_getI E in_X4 rfl (S_X4.h S0) 2 (by decide) wd181 rfl dX4_drop_1 (fun x1 e2 => ?_)
  have b3 : Bd x1 0 6 := Ok.fd hOk e2 (S_X4.h S0) rfl
  refine J_istore_n E [(1, .int x1), (0, .ref h0)] dX4_drop_4 rfl (by decide) rfl ?_
  refine J_aload_n E dX4_drop_5 1 rfl ?_
  refine J_iconst E 0 dX4_drop_6 (by decide) ?_
  refine J_pI E in_X4 rfl (S_X4.h S0) 2 (by decide) wd181 tyX4 tyX4_ok nmX4 rfl rfl .int (by decide +kernel) rfl rfl dX4_drop_7 (fun v4 e5 => ?_)
  have o6 : Ok G v4 w := Ok.pf hOk e5 (S_X4.h S0) rfl ((Bd.lit 0 0 (by decide)).w 0 6 (by decide))
  have k7 : Kp G v v4 := Kp.pf Kp.rf e5 (S_X4.h S0) rfl
  refine J_iload_n E dX4_drop_10 0 rfl ?_
  exact J_iret E hr dX4_drop_11 ⟨o6, k7, b3, trivial⟩

abbrev rm_X4_isFull_5 : Room := { frames := 0, cells := 0, slots := 0, locals := 0 }
set_option maxHeartbeats 4000000 in
set_option maxRecDepth 100000 in
theorem ct_X4_isFull_5 (l : Launch) (D : va_G) (dA : Nat → ClassId) (G : Gm) (v : Mv) (w : Mw) (hOk : Ok G v w) (h0 : Nat) (S0 : S_X4 G h0 5) : CtI l yX4_isFull cX4_isFull 1 (some .boolean) rm_X4_isFull_5 D dA G [.ref h0] v w (fun r v1 w1 => v1 = v ∧ w1 = w ∧ Bd r 0 1 ∧ True) := by
  refine CtI.of RX4 [(0, .ref h0)] (Nat.le_of_ble_eq_true rfl) rfl (by decide) rfl ?_
  intro p e s m args below meth c E hr
  refine J_aload_n E dX4_isFull_0 0 rfl ?_
  refine J_getI E in_X4 rfl (S_X4.h S0) 2 (by decide) wd181 rfl dX4_isFull_1 (fun x1 e2 => ?_)
  have b3 : Bd x1 0 5 := Ok.fd hOk e2 (S_X4.h S0) rfl
  refine J_aload_n E dX4_isFull_4 0 rfl ?_
  refine J_getI E in_X4 rfl (S_X4.h S0) 0 (by decide) wd179 rfl dX4_isFull_5 (fun x4 e5 => ?_)
  have b6 : Bd x4 5 5 := Ok.fd hOk e5 (S_X4.h S0) rfl
  refine J_icmp_lt E 15 dX4_isFull_8 (by decide) (fun c7 => ?_) (fun c7 => ?_)
  · have b8 : Bd x1 0 4 := Bd.lt_l c7 b3 b6 4 (by decide)
    refine J_iconst E 0 dX4_isFull_15 (by decide) ?_
    exact J_zret E hr (Bd.z (Bd.lit 0 0 (by decide)) (by decide)) dX4_isFull_16 ⟨rfl, rfl, ((Bd.lit 0 0 (by decide)).w 0 1 (by decide)), trivial⟩
  · have b9 : Bd x1 5 5 := Bd.le_r (nlt c7) b6 b3 5 (by decide)
    refine J_iconst E 1 dX4_isFull_11 (by decide) ?_
    refine J_goto E 16 dX4_isFull_12 (by decide) ?_
    exact J_zret E hr (Bd.z (Bd.lit 1 1 (by decide)) (by decide)) dX4_isFull_16 ⟨rfl, rfl, ((Bd.lit 1 1 (by decide)).w 0 1 (by decide)), trivial⟩

abbrev rm_X4_isFull_6 : Room := { frames := 0, cells := 0, slots := 0, locals := 0 }
set_option maxHeartbeats 4000000 in
set_option maxRecDepth 100000 in
theorem ct_X4_isFull_6 (l : Launch) (D : va_G) (dA : Nat → ClassId) (G : Gm) (v : Mv) (w : Mw) (hOk : Ok G v w) (h0 : Nat) (S0 : S_X4 G h0 6) : CtI l yX4_isFull cX4_isFull 1 (some .boolean) rm_X4_isFull_6 D dA G [.ref h0] v w (fun r v1 w1 => v1 = v ∧ w1 = w ∧ Bd r 0 1 ∧ True) := by
  refine CtI.of RX4 [(0, .ref h0)] (Nat.le_of_ble_eq_true rfl) rfl (by decide) rfl ?_
  intro p e s m args below meth c E hr
  refine J_aload_n E dX4_isFull_0 0 rfl ?_
  refine J_getI E in_X4 rfl (S_X4.h S0) 2 (by decide) wd181 rfl dX4_isFull_1 (fun x1 e2 => ?_)
  have b3 : Bd x1 0 6 := Ok.fd hOk e2 (S_X4.h S0) rfl
  refine J_aload_n E dX4_isFull_4 0 rfl ?_
  refine J_getI E in_X4 rfl (S_X4.h S0) 0 (by decide) wd179 rfl dX4_isFull_5 (fun x4 e5 => ?_)
  have b6 : Bd x4 6 6 := Ok.fd hOk e5 (S_X4.h S0) rfl
  refine J_icmp_lt E 15 dX4_isFull_8 (by decide) (fun c7 => ?_) (fun c7 => ?_)
  · have b8 : Bd x1 0 5 := Bd.lt_l c7 b3 b6 5 (by decide)
    refine J_iconst E 0 dX4_isFull_15 (by decide) ?_
    exact J_zret E hr (Bd.z (Bd.lit 0 0 (by decide)) (by decide)) dX4_isFull_16 ⟨rfl, rfl, ((Bd.lit 0 0 (by decide)).w 0 1 (by decide)), trivial⟩
  · have b9 : Bd x1 6 6 := Bd.le_r (nlt c7) b6 b3 6 (by decide)
    refine J_iconst E 1 dX4_isFull_11 (by decide) ?_
    refine J_goto E 16 dX4_isFull_12 (by decide) ?_
    exact J_zret E hr (Bd.z (Bd.lit 1 1 (by decide)) (by decide)) dX4_isFull_16 ⟨rfl, rfl, ((Bd.lit 1 1 (by decide)).w 0 1 (by decide)), trivial⟩

abbrev rm_X4_cell_5 : Room := { frames := 0, cells := 0, slots := 0, locals := 0 }
set_option maxHeartbeats 4000000 in
set_option maxRecDepth 100000 in
theorem ct_X4_cell_5 (l : Launch) (D : va_G) (dA : Nat → ClassId) (G : Gm) (v : Mv) (w : Mw) (hOk : Ok G v w) (h0 : Nat) (S0 : S_X4 G h0 5) (x_0 : Int32) (bx_0 : Bd x_0 0 4) (x_1 : Int32) (bx_1 : Bd x_1 0 3) : CtI l yX4_cell cX4_cell 3 (some .int) rm_X4_cell_5 D dA G [.ref h0, .int x_0, .int x_1] v w (fun r v1 w1 => v1 = v ∧ w1 = w ∧ True ∧ True) := by
  refine CtI.of RX4 [(0, .ref h0), (1, .int x_0), (2, .int x_1)] (Nat.le_of_ble_eq_true rfl) rfl (by decide) rfl ?_
  intro p e s m args below meth c E hr
  refine J_aload_n E dX4_cell_0 0 rfl ?_
  refine J_getR E in_X4 rfl (S_X4.h S0) 1 (by decide) wd180 rfl dX4_cell_1 ?_
  refine J_iconst E 4 dX4_cell_4 (by decide) ?_
  refine J_iload_n E dX4_cell_5 1 rfl ?_
  refine J_imul E dX4_cell_6 (fun x1 e2 => ?_)
  have b3 : Bd x1 0 16 := Bd.mul e2 (Bd.lit 4 4 (by decide)) bx_0 (by decide)
  refine J_iload_n E dX4_cell_7 2 rfl ?_
  refine J_iadd E dX4_cell_8 (fun x4 e5 => ?_)
  have b6 : Bd x4 0 19 := Bd.add e5 b3 bx_1 (by decide)
  refine J_iald1 E (S_X4.f1 S0) (Bd.in b6 (by decide)) dX4_cell_9 (fun x7 e8 => ?_)
  exact J_iret E hr dX4_cell_10 ⟨rfl, rfl, trivial, trivial⟩

abbrev rm_X4_cell_6 : Room := { frames := 0, cells := 0, slots := 0, locals := 0 }
set_option maxHeartbeats 4000000 in
set_option maxRecDepth 100000 in
theorem ct_X4_cell_6 (l : Launch) (D : va_G) (dA : Nat → ClassId) (G : Gm) (v : Mv) (w : Mw) (hOk : Ok G v w) (h0 : Nat) (S0 : S_X4 G h0 6) (x_0 : Int32) (bx_0 : Bd x_0 0 5) (x_1 : Int32) (bx_1 : Bd x_1 0 3) : CtI l yX4_cell cX4_cell 3 (some .int) rm_X4_cell_6 D dA G [.ref h0, .int x_0, .int x_1] v w (fun r v1 w1 => v1 = v ∧ w1 = w ∧ True ∧ True) := by
  refine CtI.of RX4 [(0, .ref h0), (1, .int x_0), (2, .int x_1)] (Nat.le_of_ble_eq_true rfl) rfl (by decide) rfl ?_
  intro p e s m args below meth c E hr
  refine J_aload_n E dX4_cell_0 0 rfl ?_
  refine J_getR E in_X4 rfl (S_X4.h S0) 1 (by decide) wd180 rfl dX4_cell_1 ?_
  refine J_iconst E 4 dX4_cell_4 (by decide) ?_
  refine J_iload_n E dX4_cell_5 1 rfl ?_
  refine J_imul E dX4_cell_6 (fun x1 e2 => ?_)
  have b3 : Bd x1 0 20 := Bd.mul e2 (Bd.lit 4 4 (by decide)) bx_0 (by decide)
  refine J_iload_n E dX4_cell_7 2 rfl ?_
  refine J_iadd E dX4_cell_8 (fun x4 e5 => ?_)
  have b6 : Bd x4 0 23 := Bd.add e5 b3 bx_1 (by decide)
  refine J_iald1 E (S_X4.f1 S0) (Bd.in b6 (by decide)) dX4_cell_9 (fun x7 e8 => ?_)
  exact J_iret E hr dX4_cell_10 ⟨rfl, rfl, trivial, trivial⟩

abbrev rm_X4_copyFrom_5 : Room := { frames := 0, cells := 0, slots := 0, locals := 0 }
set_option maxHeartbeats 4000000 in
set_option maxRecDepth 100000 in
theorem ct_X4_copyFrom_5 (l : Launch) (D : va_G) (dA : Nat → ClassId) (G : Gm) (v : Mv) (w : Mw) (hOk : Ok G v w) (h0 : Nat) (S0 : S_X4 G h0 5) (h_0 : Nat) (S_0 : S_X4 G h_0 5) : CtV l yX4_copyFrom cX4_copyFrom 3 none rm_X4_copyFrom_5 D dA G [.ref h0, .ref h_0] v w (fun v1 w1 => Ok G v1 w1 ∧ Kp G v v1 ∧ True) := by
  refine CtV.of RX4 [(0, .ref h0), (1, .ref h_0)] (Nat.le_of_ble_eq_true rfl) rfl (by decide) rfl ?_
  intro p e s m args below meth c E hr
  have J10 : ∀ n : Nat, ∀ (v1 : Mv) (w2 : Mw), Ok G v1 w2 → Kp G v v1 → ∀ x5 : Int32, Bd x5 0 60 → Mu x5 60 n → J p l e rm_X4_copyFrom_5 s m args below meth c 0 0 (MQ below (QcV D dA G (fun v1 w1 => Ok G v1 w1 ∧ Kp G v v1 ∧ True)) args s 0 0 (dm G)) D dA G (dm G) s.heap 3 v1 w2 [(0, .ref h0), (1, .ref h_0), (2, .int x5)] 10 [] := by
    intro n
    induction n with
    | zero => intro v1 w2 o3 k4 x5 b6 hm; exact hm.zero b6 (by decide)
    | succ n ih10 =>
      intro v1 w2 o3 k4 x5 b6 hmu10
      refine J_iload_n E dX4_copyFrom_10 2 rfl ?_
      refine J_iconst E 4 dX4_copyFrom_11 (by decide) ?_
      refine J_aload_n E dX4_copyFrom_12 0 rfl ?_
      refine J_getI E in_X4 rfl (S_X4.h S0) 2 (by decide) wd181 rfl dX4_copyFrom_13 (fun x7 e8 => ?_)
      have b9 : Bd x7 0 5 := Ok.fd o3 e8 (S_X4.h S0) rfl
      refine J_imul E dX4_copyFrom_16 (fun x10 e11 => ?_)
      have b12 : Bd x10 0 20 := Bd.mul e11 (Bd.lit 4 4 (by decide)) b9 (by decide)
      refine J_icmp_ge E 38 dX4_copyFrom_17 (by decide) (fun c13 => ?_) (fun c13 => ?_)
      · exact J_vret E hr dX4_copyFrom_38 ⟨o3, k4, trivial⟩
      · have b14 : Bd x5 0 19 := Bd.lt_l (nle c13) b6 b12 19 (by decide)
        have b15 : Bd x10 1 20 := Bd.lt_r (nle c13) b6 b12 1 (by decide)
        refine J_aload_n E dX4_copyFrom_20 0 rfl ?_
        refine J_getR E in_X4 rfl (S_X4.h S0) 1 (by decide) wd180 rfl dX4_copyFrom_21 ?_
        refine J_iload_n E dX4_copyFrom_24 2 rfl ?_
        refine J_aload_n E dX4_copyFrom_25 1 rfl ?_
        refine J_getR E in_X4 rfl (S_X4.h S_0) 1 (by decide) wd180 rfl dX4_copyFrom_26 ?_
        refine J_iload_n E dX4_copyFrom_29 2 rfl ?_
        refine J_iald1 E (S_X4.f1 S_0) (Bd.in b14 (by decide)) dX4_copyFrom_30 (fun x16 e17 => ?_)
        refine J_iast1 E (S_X4.f1 S0) (Bd.in b14 (by decide)) dX4_copyFrom_31 (fun v18 e19 => ?_)
        have o20 : Ok G v18 w2 := by rw [e19]; exact Ok.sv o3 (S_X4.f1 S0) b14 (Bd.any x16) 0 20 (by decide) (by decide +kernel)
        have k21 : Kp G v v18 := by rw [e19]; exact Kp.sv k4 (S_X4.f1 S0) b14 0 20 I0 I1 (by decide) (by decide +kernel)
        have e22 : x7 = v18 h0 2 := by rw [e19, stv_a (tg_ne (S_X4.h S0) ((S_X4.f1 S0)) rfl)]; exact e8
        refine J_iinc E 2 1 (fun z => [(2, .int z), (0, .ref h0), (1, .ref h_0)]) dX4_copyFrom_32 rfl (by decide) (by decide) (fun _ => rfl) (fun x23 e24 => ?_)
        have b25 : Bd x23 1 20 := Bd.add e24 b14 (Bd.lit 1 1 (by decide)) (by decide)
        refine J_goto E 10 dX4_copyFrom_35 (by decide) ?_
        exact J.sub [1, 2, 0] rfl (ih10 v18 w2 (o20) (k21) x23 (b25.w 0 60 (by decide)) (Mu.step hmu10 e24 b14 (Bd.lit 1 1 (by decide)) (by decide)))
  refine J_aload_n E dX4_copyFrom_0 0 rfl ?_
  refine J_aload_n E dX4_copyFrom_1 1 rfl ?_
  refine J_getI E in_X4 rfl (S_X4.h S_0) 2 (by decide) wd181 rfl dX4_copyFrom_2 (fun x26 e27 => ?_)
  have b28 : Bd x26 0 5 := Ok.fd hOk e27 (S_X4.h S_0) rfl
  refine J_pI E in_X4 rfl (S_X4.h S0) 2 (by decide) wd181 tyX4 tyX4_ok nmX4 rfl rfl .int (by decide +kernel) rfl rfl dX4_copyFrom_5 (fun v29 e30 => ?_)
  have o31 : Ok G v29 w := Ok.pf hOk e30 (S_X4.h S0) rfl b28
  have k32 : Kp G v v29 := Kp.pf Kp.rf e30 (S_X4.h S0) rfl
  have e33 : x26 = v29 h0 2 := by rw [e30, stv_s]
  refine J_iconst E 0 dX4_copyFrom_8 (by decide) ?_
  refine J_istore_n E [(2, .int 0), (0, .ref h0), (1, .ref h_0)] dX4_copyFrom_9 rfl (by decide) rfl ?_
  exact J.sub [1, 2, 0] rfl (J10 61 v29 w (o31) (k32) 0 ((Bd.lit 0 0 (by decide)).w 0 60 (by decide)) (Mu.start _ (Bd.lit 0 0 (by decide)) (by decide)))

abbrev rm_X4_copyFrom_6 : Room := { frames := 0, cells := 0, slots := 0, locals := 0 }
set_option maxHeartbeats 4000000 in
set_option maxRecDepth 100000 in
theorem ct_X4_copyFrom_6 (l : Launch) (D : va_G) (dA : Nat → ClassId) (G : Gm) (v : Mv) (w : Mw) (hOk : Ok G v w) (h0 : Nat) (S0 : S_X4 G h0 6) (h_0 : Nat) (S_0 : S_X4 G h_0 6) : CtV l yX4_copyFrom cX4_copyFrom 3 none rm_X4_copyFrom_6 D dA G [.ref h0, .ref h_0] v w (fun v1 w1 => Ok G v1 w1 ∧ Kp G v v1 ∧ True) := by
  refine CtV.of RX4 [(0, .ref h0), (1, .ref h_0)] (Nat.le_of_ble_eq_true rfl) rfl (by decide) rfl ?_
  intro p e s m args below meth c E hr
  have J10 : ∀ n : Nat, ∀ (v1 : Mv) (w2 : Mw), Ok G v1 w2 → Kp G v v1 → ∀ x5 : Int32, Bd x5 0 60 → Mu x5 60 n → J p l e rm_X4_copyFrom_6 s m args below meth c 0 0 (MQ below (QcV D dA G (fun v1 w1 => Ok G v1 w1 ∧ Kp G v v1 ∧ True)) args s 0 0 (dm G)) D dA G (dm G) s.heap 3 v1 w2 [(0, .ref h0), (1, .ref h_0), (2, .int x5)] 10 [] := by
    intro n
    induction n with
    | zero => intro v1 w2 o3 k4 x5 b6 hm; exact hm.zero b6 (by decide)
    | succ n ih10 =>
      intro v1 w2 o3 k4 x5 b6 hmu10
      refine J_iload_n E dX4_copyFrom_10 2 rfl ?_
      refine J_iconst E 4 dX4_copyFrom_11 (by decide) ?_
      refine J_aload_n E dX4_copyFrom_12 0 rfl ?_
      refine J_getI E in_X4 rfl (S_X4.h S0) 2 (by decide) wd181 rfl dX4_copyFrom_13 (fun x7 e8 => ?_)
      have b9 : Bd x7 0 6 := Ok.fd o3 e8 (S_X4.h S0) rfl
      refine J_imul E dX4_copyFrom_16 (fun x10 e11 => ?_)
      have b12 : Bd x10 0 24 := Bd.mul e11 (Bd.lit 4 4 (by decide)) b9 (by decide)
      refine J_icmp_ge E 38 dX4_copyFrom_17 (by decide) (fun c13 => ?_) (fun c13 => ?_)
      · exact J_vret E hr dX4_copyFrom_38 ⟨o3, k4, trivial⟩
      · have b14 : Bd x5 0 23 := Bd.lt_l (nle c13) b6 b12 23 (by decide)
        have b15 : Bd x10 1 24 := Bd.lt_r (nle c13) b6 b12 1 (by decide)
        refine J_aload_n E dX4_copyFrom_20 0 rfl ?_
        refine J_getR E in_X4 rfl (S_X4.h S0) 1 (by decide) wd180 rfl dX4_copyFrom_21 ?_
        refine J_iload_n E dX4_copyFrom_24 2 rfl ?_
        refine J_aload_n E dX4_copyFrom_25 1 rfl ?_
        refine J_getR E in_X4 rfl (S_X4.h S_0) 1 (by decide) wd180 rfl dX4_copyFrom_26 ?_
        refine J_iload_n E dX4_copyFrom_29 2 rfl ?_
        refine J_iald1 E (S_X4.f1 S_0) (Bd.in b14 (by decide)) dX4_copyFrom_30 (fun x16 e17 => ?_)
        refine J_iast1 E (S_X4.f1 S0) (Bd.in b14 (by decide)) dX4_copyFrom_31 (fun v18 e19 => ?_)
        have o20 : Ok G v18 w2 := by rw [e19]; exact Ok.sv o3 (S_X4.f1 S0) b14 (Bd.any x16) 0 24 (by decide) (by decide +kernel)
        have k21 : Kp G v v18 := by rw [e19]; exact Kp.sv k4 (S_X4.f1 S0) b14 0 24 I0 I1 (by decide) (by decide +kernel)
        have e22 : x7 = v18 h0 2 := by rw [e19, stv_a (tg_ne (S_X4.h S0) ((S_X4.f1 S0)) rfl)]; exact e8
        refine J_iinc E 2 1 (fun z => [(2, .int z), (0, .ref h0), (1, .ref h_0)]) dX4_copyFrom_32 rfl (by decide) (by decide) (fun _ => rfl) (fun x23 e24 => ?_)
        have b25 : Bd x23 1 24 := Bd.add e24 b14 (Bd.lit 1 1 (by decide)) (by decide)
        refine J_goto E 10 dX4_copyFrom_35 (by decide) ?_
        exact J.sub [1, 2, 0] rfl (ih10 v18 w2 (o20) (k21) x23 (b25.w 0 60 (by decide)) (Mu.step hmu10 e24 b14 (Bd.lit 1 1 (by decide)) (by decide)))
  refine J_aload_n E dX4_copyFrom_0 0 rfl ?_
  refine J_aload_n E dX4_copyFrom_1 1 rfl ?_
  refine J_getI E in_X4 rfl (S_X4.h S_0) 2 (by decide) wd181 rfl dX4_copyFrom_2 (fun x26 e27 => ?_)
  have b28 : Bd x26 0 6 := Ok.fd hOk e27 (S_X4.h S_0) rfl
  refine J_pI E in_X4 rfl (S_X4.h S0) 2 (by decide) wd181 tyX4 tyX4_ok nmX4 rfl rfl .int (by decide +kernel) rfl rfl dX4_copyFrom_5 (fun v29 e30 => ?_)
  have o31 : Ok G v29 w := Ok.pf hOk e30 (S_X4.h S0) rfl b28
  have k32 : Kp G v v29 := Kp.pf Kp.rf e30 (S_X4.h S0) rfl
  have e33 : x26 = v29 h0 2 := by rw [e30, stv_s]
  refine J_iconst E 0 dX4_copyFrom_8 (by decide) ?_
  refine J_istore_n E [(2, .int 0), (0, .ref h0), (1, .ref h_0)] dX4_copyFrom_9 rfl (by decide) rfl ?_
  exact J.sub [1, 2, 0] rfl (J10 61 v29 w (o31) (k32) 0 ((Bd.lit 0 0 (by decide)).w 0 60 (by decide)) (Mu.start _ (Bd.lit 0 0 (by decide)) (by decide)))

abbrev rm_X4_mixInto_5 : Room := { frames := 0, cells := 0, slots := 0, locals := 0 }
set_option maxHeartbeats 4000000 in
set_option maxRecDepth 100000 in
theorem ct_X4_mixInto_5 (l : Launch) (D : va_G) (dA : Nat → ClassId) (G : Gm) (v : Mv) (w : Mw) (hOk : Ok G v w) (h0 : Nat) (S0 : S_X4 G h0 5) (y_0 : Int64) : CtL l yX4_mixInto cX4_mixInto 6 (some .long) rm_X4_mixInto_5 D dA G [.ref h0, .long y_0] v w (fun _ v1 w1 => v1 = v ∧ w1 = w ∧ True) := by
  refine CtL.of RX4 [(0, .ref h0), (1, .long y_0)] (Nat.le_of_ble_eq_true rfl) rfl (by decide) rfl ?_
  intro p e s m args below meth c E hr
  have J5 : ∀ n : Nat, ∀ y1 : Int64, ∀ x2 : Int32, Bd x2 0 60 → Mu x2 60 n → J p l e rm_X4_mixInto_5 s m args below meth c 0 0 (MQ below (QcL D dA G (fun _ v1 w1 => v1 = v ∧ w1 = w ∧ True)) args s 0 0 (dm G)) D dA G (dm G) s.heap 6 v w [(0, .ref h0), (3, .long y1), (5, .int x2)] 5 [] := by
    intro n
    induction n with
    | zero => intro y1 x2 b3 hm; exact hm.zero b3 (by decide)
    | succ n ih5 =>
      intro y1 x2 b3 hmu5
      refine J_iload E dX4_mixInto_5 2 rfl ?_
      refine J_iconst E 4 dX4_mixInto_7 (by decide) ?_
      refine J_aload_n E dX4_mixInto_8 0 rfl ?_
      refine J_getI E in_X4 rfl (S_X4.h S0) 2 (by decide) wd181 rfl dX4_mixInto_9 (fun x4 e5 => ?_)
      have b6 : Bd x4 0 5 := Ok.fd hOk e5 (S_X4.h S0) rfl
      refine J_imul E dX4_mixInto_12 (fun x7 e8 => ?_)
      have b9 : Bd x7 0 20 := Bd.mul e8 (Bd.lit 4 4 (by decide)) b6 (by decide)
      refine J_icmp_ge E 37 dX4_mixInto_13 (by decide) (fun c10 => ?_) (fun c10 => ?_)
      · refine J_lload_n E dX4_mixInto_37 1 rfl ?_
        exact J_lret E hr dX4_mixInto_38 ⟨rfl, rfl, trivial⟩
      · have b11 : Bd x2 0 19 := Bd.lt_l (nle c10) b3 b9 19 (by decide)
        have b12 : Bd x7 1 20 := Bd.lt_r (nle c10) b3 b9 1 (by decide)
        refine J_ldc2 E wd924 dX4_mixInto_16 ?_
        refine J_lload_n E dX4_mixInto_19 1 rfl ?_
        refine J_lmul E dX4_mixInto_20 (fun y13 e14 => ?_)
        refine J_aload_n E dX4_mixInto_21 0 rfl ?_
        refine J_getR E in_X4 rfl (S_X4.h S0) 1 (by decide) wd180 rfl dX4_mixInto_22 ?_
        refine J_iload E dX4_mixInto_25 2 rfl ?_
        refine J_iald1 E (S_X4.f1 S0) (Bd.in b11 (by decide)) dX4_mixInto_27 (fun x15 e16 => ?_)
        refine J_i2l E dX4_mixInto_28 (fun y17 e18 => ?_)
        refine J_ladd E dX4_mixInto_29 (fun y19 e20 => ?_)
        refine J_lstore_n E [(3, .long y19), (0, .ref h0), (5, .int x2)] dX4_mixInto_30 rfl (by decide) rfl ?_
        refine J_iinc E 2 1 (fun z => [(5, .int z), (3, .long y19), (0, .ref h0)]) dX4_mixInto_31 rfl (by decide) (by decide) (fun _ => rfl) (fun x21 e22 => ?_)
        have b23 : Bd x21 1 20 := Bd.add e22 b11 (Bd.lit 1 1 (by decide)) (by decide)
        refine J_goto E 5 dX4_mixInto_34 (by decide) ?_
        exact J.sub [2, 1, 0] rfl (ih5 y19 x21 (b23.w 0 60 (by decide)) (Mu.step hmu5 e22 b11 (Bd.lit 1 1 (by decide)) (by decide)))
  refine J_lload_n E dX4_mixInto_0 1 rfl ?_
  refine J_lstore_n E [(3, .long y_0), (0, .ref h0), (1, .long y_0)] dX4_mixInto_1 rfl (by decide) rfl ?_
  refine J_iconst E 0 dX4_mixInto_2 (by decide) ?_
  refine J_istore E [(5, .int 0), (3, .long y_0), (0, .ref h0), (1, .long y_0)] dX4_mixInto_3 (by decide) rfl ?_
  exact J.sub [2, 1, 0] rfl (J5 61 y_0 0 ((Bd.lit 0 0 (by decide)).w 0 60 (by decide)) (Mu.start _ (Bd.lit 0 0 (by decide)) (by decide)))

abbrev rm_X4_mixInto_6 : Room := { frames := 0, cells := 0, slots := 0, locals := 0 }
set_option maxHeartbeats 4000000 in
set_option maxRecDepth 100000 in
theorem ct_X4_mixInto_6 (l : Launch) (D : va_G) (dA : Nat → ClassId) (G : Gm) (v : Mv) (w : Mw) (hOk : Ok G v w) (h0 : Nat) (S0 : S_X4 G h0 6) (y_0 : Int64) : CtL l yX4_mixInto cX4_mixInto 6 (some .long) rm_X4_mixInto_6 D dA G [.ref h0, .long y_0] v w (fun _ v1 w1 => v1 = v ∧ w1 = w ∧ True) := by
  refine CtL.of RX4 [(0, .ref h0), (1, .long y_0)] (Nat.le_of_ble_eq_true rfl) rfl (by decide) rfl ?_
  intro p e s m args below meth c E hr
  have J5 : ∀ n : Nat, ∀ y1 : Int64, ∀ x2 : Int32, Bd x2 0 60 → Mu x2 60 n → J p l e rm_X4_mixInto_6 s m args below meth c 0 0 (MQ below (QcL D dA G (fun _ v1 w1 => v1 = v ∧ w1 = w ∧ True)) args s 0 0 (dm G)) D dA G (dm G) s.heap 6 v w [(0, .ref h0), (3, .long y1), (5, .int x2)] 5 [] := by
    intro n
    induction n with
    | zero => intro y1 x2 b3 hm; exact hm.zero b3 (by decide)
    | succ n ih5 =>
      intro y1 x2 b3 hmu5
      refine J_iload E dX4_mixInto_5 2 rfl ?_
      refine J_iconst E 4 dX4_mixInto_7 (by decide) ?_
      refine J_aload_n E dX4_mixInto_8 0 rfl ?_
      refine J_getI E in_X4 rfl (S_X4.h S0) 2 (by decide) wd181 rfl dX4_mixInto_9 (fun x4 e5 => ?_)
      have b6 : Bd x4 0 6 := Ok.fd hOk e5 (S_X4.h S0) rfl
      refine J_imul E dX4_mixInto_12 (fun x7 e8 => ?_)
      have b9 : Bd x7 0 24 := Bd.mul e8 (Bd.lit 4 4 (by decide)) b6 (by decide)
      refine J_icmp_ge E 37 dX4_mixInto_13 (by decide) (fun c10 => ?_) (fun c10 => ?_)
      · refine J_lload_n E dX4_mixInto_37 1 rfl ?_
        exact J_lret E hr dX4_mixInto_38 ⟨rfl, rfl, trivial⟩
      · have b11 : Bd x2 0 23 := Bd.lt_l (nle c10) b3 b9 23 (by decide)
        have b12 : Bd x7 1 24 := Bd.lt_r (nle c10) b3 b9 1 (by decide)
        refine J_ldc2 E wd924 dX4_mixInto_16 ?_
        refine J_lload_n E dX4_mixInto_19 1 rfl ?_
        refine J_lmul E dX4_mixInto_20 (fun y13 e14 => ?_)
        refine J_aload_n E dX4_mixInto_21 0 rfl ?_
        refine J_getR E in_X4 rfl (S_X4.h S0) 1 (by decide) wd180 rfl dX4_mixInto_22 ?_
        refine J_iload E dX4_mixInto_25 2 rfl ?_
        refine J_iald1 E (S_X4.f1 S0) (Bd.in b11 (by decide)) dX4_mixInto_27 (fun x15 e16 => ?_)
        refine J_i2l E dX4_mixInto_28 (fun y17 e18 => ?_)
        refine J_ladd E dX4_mixInto_29 (fun y19 e20 => ?_)
        refine J_lstore_n E [(3, .long y19), (0, .ref h0), (5, .int x2)] dX4_mixInto_30 rfl (by decide) rfl ?_
        refine J_iinc E 2 1 (fun z => [(5, .int z), (3, .long y19), (0, .ref h0)]) dX4_mixInto_31 rfl (by decide) (by decide) (fun _ => rfl) (fun x21 e22 => ?_)
        have b23 : Bd x21 1 24 := Bd.add e22 b11 (Bd.lit 1 1 (by decide)) (by decide)
        refine J_goto E 5 dX4_mixInto_34 (by decide) ?_
        exact J.sub [2, 1, 0] rfl (ih5 y19 x21 (b23.w 0 60 (by decide)) (Mu.step hmu5 e22 b11 (Bd.lit 1 1 (by decide)) (by decide)))
  refine J_lload_n E dX4_mixInto_0 1 rfl ?_
  refine J_lstore_n E [(3, .long y_0), (0, .ref h0), (1, .long y_0)] dX4_mixInto_1 rfl (by decide) rfl ?_
  refine J_iconst E 0 dX4_mixInto_2 (by decide) ?_
  refine J_istore E [(5, .int 0), (3, .long y_0), (0, .ref h0), (1, .long y_0)] dX4_mixInto_3 (by decide) rfl ?_
  exact J.sub [2, 1, 0] rfl (J5 61 y_0 0 ((Bd.lit 0 0 (by decide)).w 0 60 (by decide)) (Mu.start _ (Bd.lit 0 0 (by decide)) (by decide)))
