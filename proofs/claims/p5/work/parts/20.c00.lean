abbrev rm_J9_min_7cf53 : Room := { frames := 0, cells := 0, slots := 0, locals := 0 }
set_option maxHeartbeats 4000000 in
set_option maxRecDepth 100000 in
theorem ct_J9_min_7cf53 (l : Launch) (D : va_G) (dA : Nat → ClassId) (G : Gm) (v : Mv) (w : Mw) (hOk : Ok G v w) (x_0 : Int32) (x_1 : Int32) : CtI l yJ9_min_7cf53 cJ9_min_7cf53 2 (some .int) rm_J9_min_7cf53 D dA G [.int x_0, .int x_1] v w (fun r v1 w1 => v1 = v ∧ w1 = w ∧ True ∧ True) := by
  refine CtI.ofF RJ9 [(0, .int x_0), (1, .int x_1)] (Nat.le_of_ble_eq_true rfl) rfl (by decide +kernel) rfl ?_
  intro p e s m args below meth c E hr
  refine J_iload_n E dJ9_min_7cf53_0 0 rfl ?_
  refine J_iload_n E dJ9_min_7cf53_1 1 rfl ?_
  refine J_icmp_gt E 9 dJ9_min_7cf53_2 (by decide) (fun c1 => ?_) (fun c1 => ?_)
  · refine J_iload_n E dJ9_min_7cf53_9 1 rfl ?_
    exact J_iret E hr dJ9_min_7cf53_10 ⟨rfl, rfl, trivial, trivial⟩
  · refine J_iload_n E dJ9_min_7cf53_5 0 rfl ?_
    refine J_goto E 10 dJ9_min_7cf53_6 (by decide) ?_
    exact J_iret E hr dJ9_min_7cf53_10 ⟨rfl, rfl, trivial, trivial⟩

abbrev rm_X5_smith : Room := { frames := 0, cells := 0, slots := 0, locals := 0 }
set_option maxHeartbeats 4000000 in
set_option maxRecDepth 100000 in
theorem ct_X5_smith (l : Launch) (D : va_G) (dA : Nat → ClassId) (G : Gm) (v : Mv) (w : Mw) (hOk : Ok G v w) (x_0 : Int32) : CtI l yX5_smith cX5_smith 1 (some .int) rm_X5_smith D dA G [.int x_0] v w (fun r v1 w1 => v1 = v ∧ w1 = w ∧ True ∧ True) := by
  refine CtI.of RX5 [(0, .int x_0)] (Nat.le_of_ble_eq_true rfl) rfl (by decide) rfl ?_
  intro p e s m args below meth c E hr
  refine J_iload_n E dX5_smith_0 0 rfl ?_
  refine J_bipush E 8 dX5_smith_1 (by decide) ?_
  refine J_iadd E dX5_smith_3 (fun x1 e2 => ?_)
  exact J_iret E hr dX5_smith_4 ⟨rfl, rfl, trivial, trivial⟩

abbrev rm_X5_weak : Room := { frames := 0, cells := 0, slots := 0, locals := 0 }
set_option maxHeartbeats 4000000 in
set_option maxRecDepth 100000 in
theorem ct_X5_weak (l : Launch) (D : va_G) (dA : Nat → ClassId) (G : Gm) (v : Mv) (w : Mw) (hOk : Ok G v w) (x_0 : Int32) : CtI l yX5_weak cX5_weak 1 (some .int) rm_X5_weak D dA G [.int x_0] v w (fun r v1 w1 => v1 = v ∧ w1 = w ∧ True ∧ True) := by
  refine CtI.of RX5 [(0, .int x_0)] (Nat.le_of_ble_eq_true rfl) rfl (by decide) rfl ?_
  intro p e s m args below meth c E hr
  refine J_iload_n E dX5_weak_0 0 rfl ?_
  refine J_iconst E 2 dX5_weak_1 (by decide) ?_
  refine J_idiv E dX5_weak_2 (Bd.nz (Bd.lit 2 2 (by decide)) (by decide)) (fun x1 e2 => ?_)
  exact J_iret E hr dX5_weak_3 ⟨rfl, rfl, trivial, trivial⟩

abbrev rm_J9_max_7cf53 : Room := { frames := 0, cells := 0, slots := 0, locals := 0 }
set_option maxHeartbeats 4000000 in
set_option maxRecDepth 100000 in
theorem ct_J9_max_7cf53 (l : Launch) (D : va_G) (dA : Nat → ClassId) (G : Gm) (v : Mv) (w : Mw) (hOk : Ok G v w) (x_0 : Int32) (x_1 : Int32) : CtI l yJ9_max_7cf53 cJ9_max_7cf53 2 (some .int) rm_J9_max_7cf53 D dA G [.int x_0, .int x_1] v w (fun r v1 w1 => v1 = v ∧ w1 = w ∧ True ∧ True) := by
  refine CtI.ofF RJ9 [(0, .int x_0), (1, .int x_1)] (Nat.le_of_ble_eq_true rfl) rfl (by decide +kernel) rfl ?_
  intro p e s m args below meth c E hr
  refine J_iload_n E dJ9_max_7cf53_0 0 rfl ?_
  refine J_iload_n E dJ9_max_7cf53_1 1 rfl ?_
  refine J_icmp_lt E 9 dJ9_max_7cf53_2 (by decide) (fun c1 => ?_) (fun c1 => ?_)
  · refine J_iload_n E dJ9_max_7cf53_9 1 rfl ?_
    exact J_iret E hr dJ9_max_7cf53_10 ⟨rfl, rfl, trivial, trivial⟩
  · refine J_iload_n E dJ9_max_7cf53_5 0 rfl ?_
    refine J_goto E 10 dJ9_max_7cf53_6 (by decide) ?_
    exact J_iret E hr dJ9_max_7cf53_10 ⟨rfl, rfl, trivial, trivial⟩

abbrev rm_X5_oneLifts : Room := { frames := 1, cells := 0, slots := 0, locals := 21 }
set_option maxHeartbeats 4000000 in
set_option maxRecDepth 100000 in
theorem ct_X5_oneLifts (l : Launch) (D : va_G) (dA : Nat → ClassId) (G : Gm) (v : Mv) (w : Mw) (hOk : Ok G v w) (x_0 : Int32) (x_1 : Int32) (x_2 : Int32) : CtI l yX5_oneLifts cX5_oneLifts 4 (some .int) rm_X5_oneLifts D dA G [.int x_0, .int x_1, .int x_2] v w (fun r v1 w1 => v1 = v ∧ w1 = w ∧ True ∧ True) := by
  refine CtI.of RX5 [(0, .int x_0), (1, .int x_1), (2, .int x_2)] (Nat.le_of_ble_eq_true rfl) rfl (by decide) rfl ?_
  intro p e s m args below meth c E hr
  refine J_iconst E 2 dX5_oneLifts_0 (by decide) ?_
  refine J_iload_n E dX5_oneLifts_1 1 rfl ?_
  refine J_imul E dX5_oneLifts_2 (fun x1 e2 => ?_)
  refine J_iload_n E dX5_oneLifts_3 2 rfl ?_
  refine J_bipush E 30 dX5_oneLifts_4 (by decide) ?_
  refine J_callSI E cal_J9_min_7cf53 wd539 [.int x_2, .int 30] [.int x1] (ct_J9_min_7cf53 l D dA G v w (hOk) x_2 30) rfl rfl (Nat.le_of_ble_eq_true rfl) ⟨rfl, rfl⟩ ⟨Nat.le_of_ble_eq_true rfl, Nat.le_of_ble_eq_true rfl⟩ dX5_oneLifts_6 (fun x6 v3 w4 p5 => ?_)
  rw [p5.1, p5.2.1]
  refine J_iconst E 3 dX5_oneLifts_9 (by decide) ?_
  refine J_idiv E dX5_oneLifts_10 (Bd.nz (Bd.lit 3 3 (by decide)) (by decide)) (fun x7 e8 => ?_)
  refine J_iadd E dX5_oneLifts_11 (fun x9 e10 => ?_)
  refine J_istore_n E [(3, .int x9), (0, .int x_0), (1, .int x_1), (2, .int x_2)] dX5_oneLifts_12 rfl (by decide) rfl ?_
  refine J_iload_n E dX5_oneLifts_13 1 rfl ?_
  by_cases h11 : x_0.toInt = 1
  · refine J_tabIn E 1 48 dX5_oneLifts_14 h11 (by decide) (by decide) rfl (by decide) ?_
    have b12 : Bd x_0 1 1 := ⟨by omega, by omega⟩
    refine J_iload_n E dX5_oneLifts_48 0 rfl ?_
    refine J_callSI E cal_X5_smith wd545 [.int x9] [] (ct_X5_smith l D dA G v w (hOk) x9) rfl rfl (Nat.le_of_ble_eq_true rfl) ⟨rfl, rfl⟩ ⟨Nat.le_of_ble_eq_true rfl, Nat.le_of_ble_eq_true rfl⟩ dX5_oneLifts_49 (fun x16 v13 w14 p15 => ?_)
    rw [p15.1, p15.2.1]
    exact J_iret E hr dX5_oneLifts_52 ⟨rfl, rfl, trivial, trivial⟩
  by_cases h17 : x_0.toInt = 2
  · refine J_tabIn E 2 53 dX5_oneLifts_14 h17 (by decide) (by decide) rfl (by decide) ?_
    have b18 : Bd x_0 2 2 := ⟨by omega, by omega⟩
    refine J_iload_n E dX5_oneLifts_53 0 rfl ?_
    refine J_callSI E cal_X5_weak wd548 [.int x9] [] (ct_X5_weak l D dA G v w (hOk) x9) rfl rfl (Nat.le_of_ble_eq_true rfl) ⟨rfl, rfl⟩ ⟨Nat.le_of_ble_eq_true rfl, Nat.le_of_ble_eq_true rfl⟩ dX5_oneLifts_54 (fun x22 v19 w20 p21 => ?_)
    rw [p21.1, p21.2.1]
    exact J_iret E hr dX5_oneLifts_57 ⟨rfl, rfl, trivial, trivial⟩
  by_cases h23 : x_0.toInt = 3
  · refine J_tabIn E 3 58 dX5_oneLifts_14 h23 (by decide) (by decide) rfl (by decide) ?_
    have b24 : Bd x_0 3 3 := ⟨by omega, by omega⟩
    refine J_iload_n E dX5_oneLifts_58 3 rfl ?_
    refine J_bipush E 18 dX5_oneLifts_59 (by decide) ?_
    refine J_icmp_ge E 75 dX5_oneLifts_61 (by decide) (fun c25 => ?_) (fun c25 => ?_)
    · have b26 : Bd x_2 18 I1 := Bd.le_r c25 (Bd.lit 18 18 (by decide)) (Bd.any x_2) 18 (by decide)
      refine J_iload_n E dX5_oneLifts_75 0 rfl ?_
      exact J_iret E hr dX5_oneLifts_76 ⟨rfl, rfl, trivial, trivial⟩
    · have b27 : Bd x_2 I0 17 := Bd.lt_l (nle c25) (Bd.any x_2) (Bd.lit 18 18 (by decide)) 17 (by decide)
      refine J_iconst E 0 dX5_oneLifts_64 (by decide) ?_
      refine J_iload_n E dX5_oneLifts_65 0 rfl ?_
      refine J_bipush E 6 dX5_oneLifts_66 (by decide) ?_
      refine J_isub E dX5_oneLifts_68 (fun x28 e29 => ?_)
      refine J_callSI E cal_J9_max_7cf53 wd551 [.int 0, .int x28] [] (ct_J9_max_7cf53 l D dA G v w (hOk) 0 x28) rfl rfl (Nat.le_of_ble_eq_true rfl) ⟨rfl, rfl⟩ ⟨Nat.le_of_ble_eq_true rfl, Nat.le_of_ble_eq_true rfl⟩ dX5_oneLifts_69 (fun x33 v30 w31 p32 => ?_)
      rw [p32.1, p32.2.1]
      refine J_goto E 76 dX5_oneLifts_72 (by decide) ?_
      exact J_iret E hr dX5_oneLifts_76 ⟨rfl, rfl, trivial, trivial⟩
  by_cases h34 : x_0.toInt = 4
  · refine J_tabIn E 4 77 dX5_oneLifts_14 h34 (by decide) (by decide) rfl (by decide) ?_
    have b35 : Bd x_0 4 4 := ⟨by omega, by omega⟩
    refine J_iload_n E dX5_oneLifts_77 3 rfl ?_
    refine J_bipush E 10 dX5_oneLifts_78 (by decide) ?_
    refine J_irem E dX5_oneLifts_80 (Bd.nz (Bd.lit 10 10 (by decide)) (by decide)) (fun x36 e37 => ?_)
    have b38 : Bd x36 (-9) 9 := (Bd.rem e37 (Bd.lit 10 10 (by decide)) (by decide)).w _ _ (by decide)
    refine J_iconst E 5 dX5_oneLifts_81 (by decide) ?_
    refine J_icmp_ne E 94 dX5_oneLifts_82 (by decide) (fun c39 => ?_) (fun c39 => ?_)
    · refine J_iload_n E dX5_oneLifts_94 0 rfl ?_
      refine J_callSI E cal_X5_smith wd545 [.int x9] [] (ct_X5_smith l D dA G v w (hOk) x9) rfl rfl (Nat.le_of_ble_eq_true rfl) ⟨rfl, rfl⟩ ⟨Nat.le_of_ble_eq_true rfl, Nat.le_of_ble_eq_true rfl⟩ dX5_oneLifts_95 (fun x43 v40 w41 p42 => ?_)
      rw [p42.1, p42.2.1]
      exact J_iret E hr dX5_oneLifts_98 ⟨rfl, rfl, trivial, trivial⟩
    · have b44 : Bd x36 5 5 := Bd.eq_l c39 b38 (Bd.lit 5 5 (by decide)) 5 5 (by decide)
      refine J_iconst E 2 dX5_oneLifts_85 (by decide) ?_
      refine J_iload_n E dX5_oneLifts_86 0 rfl ?_
      refine J_callSI E cal_X5_smith wd545 [.int x9] [.int 2] (ct_X5_smith l D dA G v w (hOk) x9) rfl rfl (Nat.le_of_ble_eq_true rfl) ⟨rfl, rfl⟩ ⟨Nat.le_of_ble_eq_true rfl, Nat.le_of_ble_eq_true rfl⟩ dX5_oneLifts_87 (fun x48 v45 w46 p47 => ?_)
      rw [p47.1, p47.2.1]
      refine J_imul E dX5_oneLifts_90 (fun x49 e50 => ?_)
      refine J_goto E 98 dX5_oneLifts_91 (by decide) ?_
      exact J_iret E hr dX5_oneLifts_98 ⟨rfl, rfl, trivial, trivial⟩
  by_cases h51 : x_0.toInt = 5
  · refine J_tabIn E 5 99 dX5_oneLifts_14 h51 (by decide) (by decide) rfl (by decide) ?_
    have b52 : Bd x_0 5 5 := ⟨by omega, by omega⟩
    refine J_iconst E 0 dX5_oneLifts_99 (by decide) ?_
    refine J_iload_n E dX5_oneLifts_100 0 rfl ?_
    refine J_callSI E cal_X5_weak wd548 [.int x9] [.int 0] (ct_X5_weak l D dA G v w (hOk) x9) rfl rfl (Nat.le_of_ble_eq_true rfl) ⟨rfl, rfl⟩ ⟨Nat.le_of_ble_eq_true rfl, Nat.le_of_ble_eq_true rfl⟩ dX5_oneLifts_101 (fun x56 v53 w54 p55 => ?_)
    rw [p55.1, p55.2.1]
    refine J_iconst E 0 dX5_oneLifts_104 (by decide) ?_
    refine J_iload_n E dX5_oneLifts_105 3 rfl ?_
    refine J_bipush E 60 dX5_oneLifts_106 (by decide) ?_
    refine J_isub E dX5_oneLifts_108 (fun x57 e58 => ?_)
    refine J_callSI E cal_J9_max_7cf53 wd551 [.int 0, .int x57] [.int x56, .int 0] (ct_J9_max_7cf53 l D dA G v w (hOk) 0 x57) rfl rfl (Nat.le_of_ble_eq_true rfl) ⟨rfl, rfl⟩ ⟨Nat.le_of_ble_eq_true rfl, Nat.le_of_ble_eq_true rfl⟩ dX5_oneLifts_109 (fun x62 v59 w60 p61 => ?_)
    rw [p61.1, p61.2.1]
    refine J_iconst E 5 dX5_oneLifts_112 (by decide) ?_
    refine J_idiv E dX5_oneLifts_113 (Bd.nz (Bd.lit 5 5 (by decide)) (by decide)) (fun x63 e64 => ?_)
    refine J_isub E dX5_oneLifts_114 (fun x65 e66 => ?_)
    refine J_callSI E cal_J9_max_7cf53 wd551 [.int 0, .int x65] [] (ct_J9_max_7cf53 l D dA G v w (hOk) 0 x65) rfl rfl (Nat.le_of_ble_eq_true rfl) ⟨rfl, rfl⟩ ⟨Nat.le_of_ble_eq_true rfl, Nat.le_of_ble_eq_true rfl⟩ dX5_oneLifts_115 (fun x70 v67 w68 p69 => ?_)
    rw [p69.1, p69.2.1]
    exact J_iret E hr dX5_oneLifts_118 ⟨rfl, rfl, trivial, trivial⟩
  refine J_tabOut (x := x_0) E 119 dX5_oneLifts_14 (by have := (Bd.any x_0); simp only [Bd, I0, I1] at this; omega) (by decide) ?_
  refine J_iload_n E dX5_oneLifts_119 0 rfl ?_
  exact J_iret E hr dX5_oneLifts_120 ⟨rfl, rfl, trivial, trivial⟩

abbrev rm_X0_put : Room := { frames := 0, cells := 0, slots := 0, locals := 0 }
set_option maxHeartbeats 4000000 in
set_option maxRecDepth 100000 in
theorem ct_X0_put (l : Launch) (D : va_G) (dA : Nat → ClassId) (G : Gm) (v : Mv) (w : Mw) (hOk : Ok G v w) (h0 : Nat) (S0 : S_X0 G h0) (x_0 : Int32) : CtV l yX0_put cX0_put 2 none rm_X0_put D dA G [.ref h0, .int x_0] v w (fun v1 w1 => Ok G v1 w1 ∧ Kp G v v1 ∧ Fr G [0, 109] v v1) := by
  refine CtV.of RX0 [(0, .ref h0), (1, .int x_0)] (Nat.le_of_ble_eq_true rfl) rfl (by decide) rfl ?_
  intro p e s m args below meth c E hr
  refine J_aload_n E dX0_put_0 0 rfl ?_
  refine J_getI E in_X0 rfl (S_X0.h S0) 1 (by decide) wd300 rfl dX0_put_1 (fun x1 e2 => ?_)
  have b3 : Bd x1 0 9 := Ok.fd hOk e2 (S_X0.h S0) rfl
  refine J_bipush E 9 dX0_put_4 (by decide) ?_
  refine J_icmp_ge E 29 dX0_put_6 (by decide) (fun c4 => ?_) (fun c4 => ?_)
  · have b5 : Bd x1 9 9 := Bd.le_r c4 (Bd.lit 9 9 (by decide)) b3 9 (by decide)
    exact J_vret E hr dX0_put_29 ⟨hOk, Kp.rf, Fr.rf⟩
  · have b6 : Bd x1 0 8 := Bd.lt_l (nle c4) b3 (Bd.lit 9 9 (by decide)) 8 (by decide)
    refine J_aload_n E dX0_put_9 0 rfl ?_
    refine J_getR E in_X0 rfl (S_X0.h S0) 0 (by decide) wd299 rfl dX0_put_10 ?_
    refine J_aload_n E dX0_put_13 0 rfl ?_
    refine J_getI E in_X0 rfl (S_X0.h S0) 1 (by decide) wd300 rfl dX0_put_14 (fun x7 e8 => ?_)
    rw [show x7 = x1 from e8.trans (e2).symm]
    refine J_iload_n E dX0_put_17 1 rfl ?_
    refine J_iast1 E (S_X0.f0 S0) (Bd.in b6 (by decide)) dX0_put_18 (fun v9 e10 => ?_)
    have o11 : Ok G v9 w := by rw [e10]; exact Ok.sv hOk (S_X0.f0 S0) b6 (Bd.any x_0) 0 9 (by decide) (by decide +kernel)
    have k12 : Kp G v v9 := by rw [e10]; exact Kp.sv Kp.rf (S_X0.f0 S0) b6 0 9 I0 I1 (by decide) (by decide +kernel)
    have f13 : Fr G [0, 109] v v9 := Fr.st Fr.rf e10 (S_X0.f0 S0) rfl
    have e14 : x1 = v9 h0 1 := by rw [e10, stv_a (tg_ne (S_X0.h S0) ((S_X0.f0 S0)) rfl)]; exact e2
    refine J_aload_n E dX0_put_19 0 rfl ?_
    refine J_dup E dX0_put_20 rfl ?_
    refine J_getI E in_X0 rfl (S_X0.h S0) 1 (by decide) wd300 rfl dX0_put_21 (fun x15 e16 => ?_)
    rw [show x15 = x1 from e16.trans (e14).symm]
    refine J_iconst E 1 dX0_put_24 (by decide) ?_
    refine J_iadd E dX0_put_25 (fun x17 e18 => ?_)
    have b19 : Bd x17 1 9 := (Bd.add e18 b6 (Bd.lit 1 1 (by decide)) (by decide)).w _ _ (by decide)
    refine J_pI E in_X0 rfl (S_X0.h S0) 1 (by decide) wd300 tyX0 tyX0_ok nmX0 rfl rfl .int (by decide +kernel) rfl rfl dX0_put_26 (fun v20 e21 => ?_)
    have o22 : Ok G v20 w := Ok.pf o11 e21 (S_X0.h S0) rfl (b19.w 0 9 (by decide))
    have k23 : Kp G v v20 := Kp.pf k12 e21 (S_X0.h S0) rfl
    have f24 : Fr G [0, 109] v v20 := Fr.st f13 e21 (S_X0.h S0) rfl
    have e25 : x17 = v20 h0 1 := by rw [e21, stv_s]
    exact J_vret E hr dX0_put_29 ⟨o22, k23, f24⟩

abbrev rm_X0_fillByStrength : Room := { frames := 2, cells := 0, slots := 0, locals := 44 }
set_option maxHeartbeats 4000000 in
set_option maxRecDepth 100000 in
theorem ct_X0_fillByStrength (l : Launch) (D : va_G) (dA : Nat → ClassId) (G : Gm) (v : Mv) (w : Mw) (hOk : Ok G v w) (h0 : Nat) (S0 : S_X0 G h0) (x_0 : Int32) (x_1 : Int32) (x_2 : Int32) (bx_2 : Bd x_2 0 90) : CtV l yX0_fillByStrength cX0_fillByStrength 5 none rm_X0_fillByStrength D dA G [.ref h0, .int x_0, .int x_1, .int x_2] v w (fun v1 w1 => Ok G v1 w1 ∧ Kp G v v1 ∧ Fr G [0, 109] v v1) := by
  refine CtV.of RX0 [(0, .ref h0), (1, .int x_0), (2, .int x_1), (3, .int x_2)] (Nat.le_of_ble_eq_true rfl) rfl (by decide) rfl ?_
  intro p e s m args below meth c E hr
  have J8 : ∀ n : Nat, ∀ (v1 : Mv) (w2 : Mw), Ok G v1 w2 → Kp G v v1 → Fr G [0, 109] v v1 → Bd x_2 0 90 → ∀ x7 : Int32, Bd x7 1 10 → Mu x7 10 n → J p l e rm_X0_fillByStrength s m args below meth c 0 0 (MQ below (QcV D dA G (fun v1 w1 => Ok G v1 w1 ∧ Kp G v v1 ∧ Fr G [0, 109] v v1)) args s 0 0 (dm G)) D dA G (dm G) s.heap 5 v1 w2 [(0, .ref h0), (1, .int x_0), (2, .int x_1), (3, .int x_2), (4, .int x7)] 8 [] := by
    intro n
    induction n with
    | zero => intro v1 w2 o3 k4 f5 b6 x7 b8 hm; exact hm.zero b8 (by decide)
    | succ n ih8 =>
      intro v1 w2 o3 k4 f5 b6 x7 b8 hmu8
      have J36 : ∀ (v9 : Mv) (w10 : Mw), Ok G v9 w10 → Kp G v v9 → Fr G [0, 109] v v9 → Bd x_2 0 90 → Bd x7 1 9 → J p l e rm_X0_fillByStrength s m args below meth c 0 0 (MQ below (QcV D dA G (fun v1 w1 => Ok G v1 w1 ∧ Kp G v v1 ∧ Fr G [0, 109] v v1)) args s 0 0 (dm G)) D dA G (dm G) s.heap 5 v9 w10 [(0, .ref h0), (1, .int x_0), (2, .int x_1), (3, .int x_2), (4, .int x7)] 36 [] := by
        intro v9 w10 o11 k12 f13 b14 b15
        refine J_iinc E 4 1 (fun z => [(4, .int z), (0, .ref h0), (1, .int x_0), (2, .int x_1), (3, .int x_2)]) dX0_fillByStrength_36 rfl (by decide) (by decide) (fun _ => rfl) (fun x16 e17 => ?_)
        have b18 : Bd x16 2 10 := (Bd.add e17 b15 (Bd.lit 1 1 (by decide)) (by decide)).w _ _ (by decide)
        refine J_goto E 8 dX0_fillByStrength_39 (by decide) ?_
        exact J.sub [1, 2, 3, 4, 0] rfl (ih8 v9 w10 (o11) (k12) f13 b14 x16 (b18.w 1 10 (by decide)) (Mu.step hmu8 e17 b15 (Bd.lit 1 1 (by decide)) (by decide)))
      refine J_iload E dX0_fillByStrength_8 4 rfl ?_
      refine J_bipush E 9 dX0_fillByStrength_10 (by decide) ?_
      refine J_icmp_gt E 42 dX0_fillByStrength_12 (by decide) (fun c19 => ?_) (fun c19 => ?_)
      · have b20 : Bd x7 10 10 := Bd.lt_r c19 (Bd.lit 9 9 (by decide)) b8 10 (by decide)
        exact J_vret E hr dX0_fillByStrength_42 ⟨o3, k4, f5⟩
      · have b21 : Bd x7 1 9 := Bd.le_l (nlt c19) b8 (Bd.lit 9 9 (by decide)) 9 (by decide)
        refine J_iload_n E dX0_fillByStrength_15 2 rfl ?_
        refine J_iload E dX0_fillByStrength_16 4 rfl ?_
        refine J_ishr E dX0_fillByStrength_18 (fun x22 e23 => ?_)
        refine J_iconst E 1 dX0_fillByStrength_19 (by decide) ?_
        refine J_iand E dX0_fillByStrength_20 (fun x24 e25 => ?_)
        have b26 : Bd x24 0 1 := Bd.and_r e25 (Bd.lit 1 1 (by decide)) (by decide)
        refine J_iconst E 1 dX0_fillByStrength_21 (by decide) ?_
        refine J_icmp_ne E 36 dX0_fillByStrength_22 (by decide) (fun c27 => ?_) (fun c27 => ?_)
        · have b28 : Bd x24 0 0 := (Bd.ne_hi c27 b26 (Bd.lit 1 1 (by decide))).w _ _ (by decide)
          exact J.sub [0, 1, 2, 3, 4] rfl (J36 v1 w2 (o3) (k4) f5 b6 b21)
        · have b29 : Bd x24 1 1 := Bd.eq_l c27 b26 (Bd.lit 1 1 (by decide)) 1 1 (by decide)
          refine J_aload_n E dX0_fillByStrength_25 0 rfl ?_
          refine J_iload_n E dX0_fillByStrength_26 1 rfl ?_
          refine J_iload E dX0_fillByStrength_27 4 rfl ?_
          refine J_iload_n E dX0_fillByStrength_29 3 rfl ?_
          refine J_callSNI E cal_X5_oneLifts wd770 [.int x_0, .int x7, .int x_2] [.ref h0] (ct_X5_oneLifts l D dA G v1 w2 (o3) x_0 x7 x_2) rfl rfl (Nat.le_of_ble_eq_true rfl) ⟨rfl, rfl⟩ ⟨Nat.le_of_ble_eq_true rfl, Nat.le_of_ble_eq_true rfl⟩ dX0_fillByStrength_30 (fun x33 v30 w31 p32 => ?_)
          rw [p32.1, p32.2.1]
          refine J_callVV E cal_X0_put wd771 rfl (S_X0.h S0) [.int x33] [] (ct_X0_put l D dA G v1 w2 (o3) h0 S0 x33) rfl rfl (Nat.le_of_ble_eq_true rfl) ⟨rfl, rfl⟩ ⟨Nat.le_of_ble_eq_true rfl, Nat.le_of_ble_eq_true rfl⟩ dX0_fillByStrength_33 (fun v34 w35 p36 => ?_)
          have o38 := p36.1
          have k39 : Kp G v v34 := (k4).tr p36.2.1
          have f40 : Fr G [0, 109] v v34 := Fr.tr f5 (p36.2.2) (by decide)
          exact J.sub [0, 1, 2, 3, 4] rfl (J36 v34 w35 (o38) (k39) f40 b6 b21)
  refine J_aload_n E dX0_fillByStrength_0 0 rfl ?_
  refine J_iconst E 0 dX0_fillByStrength_1 (by decide) ?_
  refine J_pI E in_X0 rfl (S_X0.h S0) 1 (by decide) wd300 tyX0 tyX0_ok nmX0 rfl rfl .int (by decide +kernel) rfl rfl dX0_fillByStrength_2 (fun v41 e42 => ?_)
  have o43 : Ok G v41 w := Ok.pf hOk e42 (S_X0.h S0) rfl ((Bd.lit 0 0 (by decide)).w 0 9 (by decide))
  have k44 : Kp G v v41 := Kp.pf Kp.rf e42 (S_X0.h S0) rfl
  have f45 : Fr G [0, 109] v v41 := Fr.st Fr.rf e42 (S_X0.h S0) rfl
  have e46 : (0 : Int32) = v41 h0 1 := by rw [e42, stv_s]
  refine J_iconst E 1 dX0_fillByStrength_5 (by decide) ?_
  refine J_istore E [(4, .int 1), (0, .ref h0), (1, .int x_0), (2, .int x_1), (3, .int x_2)] dX0_fillByStrength_6 (by decide) rfl ?_
  exact J.sub [1, 2, 3, 4, 0] rfl (J8 10 v41 w (o43) (k44) f45 bx_2 1 ((Bd.lit 1 1 (by decide)).w 1 10 (by decide)) (Mu.start _ (Bd.lit 1 1 (by decide)) (by decide)))

abbrev rm_X5_bell : Room := { frames := 0, cells := 0, slots := 0, locals := 0 }
set_option maxHeartbeats 4000000 in
set_option maxRecDepth 100000 in
theorem ct_X5_bell (l : Launch) (D : va_G) (dA : Nat → ClassId) (G : Gm) (v : Mv) (w : Mw) (hOk : Ok G v w) (x_0 : Int32) : CtI l yX5_bell cX5_bell 1 (some .int) rm_X5_bell D dA G [.int x_0] v w (fun r v1 w1 => v1 = v ∧ w1 = w ∧ True ∧ True) := by
  refine CtI.of RX5 [(0, .int x_0)] (Nat.le_of_ble_eq_true rfl) rfl (by decide) rfl ?_
  intro p e s m args below meth c E hr
  refine J_iload_n E dX5_bell_0 0 rfl ?_
  refine J_bipush E 6 dX5_bell_1 (by decide) ?_
  refine J_iadd E dX5_bell_3 (fun x1 e2 => ?_)
  exact J_iret E hr dX5_bell_4 ⟨rfl, rfl, trivial, trivial⟩

abbrev rm_X5_trunk : Room := { frames := 0, cells := 0, slots := 0, locals := 0 }
set_option maxHeartbeats 4000000 in
set_option maxRecDepth 100000 in
theorem ct_X5_trunk (l : Launch) (D : va_G) (dA : Nat → ClassId) (G : Gm) (v : Mv) (w : Mw) (hOk : Ok G v w) (x_0 : Int32) : CtI l yX5_trunk cX5_trunk 1 (some .int) rm_X5_trunk D dA G [.int x_0] v w (fun r v1 w1 => v1 = v ∧ w1 = w ∧ True ∧ True) := by
  refine CtI.of RX5 [(0, .int x_0)] (Nat.le_of_ble_eq_true rfl) rfl (by decide) rfl ?_
  intro p e s m args below meth c E hr
  refine J_iload_n E dX5_trunk_0 0 rfl ?_
  refine J_iconst E 1 dX5_trunk_1 (by decide) ?_
  refine J_iadd E dX5_trunk_2 (fun x1 e2 => ?_)
  refine J_iconst E 2 dX5_trunk_3 (by decide) ?_
  refine J_idiv E dX5_trunk_4 (Bd.nz (Bd.lit 2 2 (by decide)) (by decide)) (fun x3 e4 => ?_)
  exact J_iret E hr dX5_trunk_5 ⟨rfl, rfl, trivial, trivial⟩

abbrev rm_X5_thingWeighs : Room := { frames := 1, cells := 0, slots := 0, locals := 21 }
set_option maxHeartbeats 4000000 in
set_option maxRecDepth 100000 in
theorem ct_X5_thingWeighs (l : Launch) (D : va_G) (dA : Nat → ClassId) (G : Gm) (v : Mv) (w : Mw) (hOk : Ok G v w) (x_0 : Int32) (x_1 : Int32) (x_2 : Int32) : CtI l yX5_thingWeighs cX5_thingWeighs 3 (some .int) rm_X5_thingWeighs D dA G [.int x_0, .int x_1, .int x_2] v w (fun r v1 w1 => v1 = v ∧ w1 = w ∧ True ∧ True) := by
  refine CtI.of RX5 [(0, .int x_0), (1, .int x_1), (2, .int x_2)] (Nat.le_of_ble_eq_true rfl) rfl (by decide) rfl ?_
  intro p e s m args below meth c E hr
  refine J_iload_n E dX5_thingWeighs_0 0 rfl ?_
  by_cases h1 : x_0.toInt = 1
  · refine J_tabIn E 1 36 dX5_thingWeighs_1 h1 (by decide) (by decide) rfl (by decide) ?_
    have b2 : Bd x_0 1 1 := ⟨by omega, by omega⟩
    refine J_iload_n E dX5_thingWeighs_36 1 rfl ?_
    refine J_callSI E cal_X5_bell wd533 [.int x_1] [] (ct_X5_bell l D dA G v w (hOk) x_1) rfl rfl (Nat.le_of_ble_eq_true rfl) ⟨rfl, rfl⟩ ⟨Nat.le_of_ble_eq_true rfl, Nat.le_of_ble_eq_true rfl⟩ dX5_thingWeighs_37 (fun x6 v3 w4 p5 => ?_)
    rw [p5.1, p5.2.1]
    exact J_iret E hr dX5_thingWeighs_40 ⟨rfl, rfl, trivial, trivial⟩
  by_cases h7 : x_0.toInt = 2
  · refine J_tabIn E 2 41 dX5_thingWeighs_1 h7 (by decide) (by decide) rfl (by decide) ?_
    have b8 : Bd x_0 2 2 := ⟨by omega, by omega⟩
    refine J_iload_n E dX5_thingWeighs_41 1 rfl ?_
    refine J_callSI E cal_X5_trunk wd536 [.int x_1] [] (ct_X5_trunk l D dA G v w (hOk) x_1) rfl rfl (Nat.le_of_ble_eq_true rfl) ⟨rfl, rfl⟩ ⟨Nat.le_of_ble_eq_true rfl, Nat.le_of_ble_eq_true rfl⟩ dX5_thingWeighs_42 (fun x12 v9 w10 p11 => ?_)
    rw [p11.1, p11.2.1]
    exact J_iret E hr dX5_thingWeighs_45 ⟨rfl, rfl, trivial, trivial⟩
  by_cases h13 : x_0.toInt = 3
  · refine J_tabIn E 3 46 dX5_thingWeighs_1 h13 (by decide) (by decide) rfl (by decide) ?_
    have b14 : Bd x_0 3 3 := ⟨by omega, by omega⟩
    refine J_iload_n E dX5_thingWeighs_46 1 rfl ?_
    refine J_callSI E cal_X5_bell wd533 [.int x_1] [] (ct_X5_bell l D dA G v w (hOk) x_1) rfl rfl (Nat.le_of_ble_eq_true rfl) ⟨rfl, rfl⟩ ⟨Nat.le_of_ble_eq_true rfl, Nat.le_of_ble_eq_true rfl⟩ dX5_thingWeighs_47 (fun x18 v15 w16 p17 => ?_)
    rw [p17.1, p17.2.1]
    refine J_bipush E 20 dX5_thingWeighs_50 (by decide) ?_
    refine J_iload_n E dX5_thingWeighs_52 2 rfl ?_
    refine J_bipush E 10 dX5_thingWeighs_53 (by decide) ?_
    refine J_idiv E dX5_thingWeighs_55 (Bd.nz (Bd.lit 10 10 (by decide)) (by decide)) (fun x19 e20 => ?_)
    refine J_callSI E cal_J9_min_7cf53 wd539 [.int 20, .int x19] [.int x18] (ct_J9_min_7cf53 l D dA G v w (hOk) 20 x19) rfl rfl (Nat.le_of_ble_eq_true rfl) ⟨rfl, rfl⟩ ⟨Nat.le_of_ble_eq_true rfl, Nat.le_of_ble_eq_true rfl⟩ dX5_thingWeighs_56 (fun x24 v21 w22 p23 => ?_)
    rw [p23.1, p23.2.1]
    refine J_iadd E dX5_thingWeighs_59 (fun x25 e26 => ?_)
    exact J_iret E hr dX5_thingWeighs_60 ⟨rfl, rfl, trivial, trivial⟩
  by_cases h27 : x_0.toInt = 4
  · refine J_tabIn E 4 61 dX5_thingWeighs_1 h27 (by decide) (by decide) rfl (by decide) ?_
    have b28 : Bd x_0 4 4 := ⟨by omega, by omega⟩
    refine J_iload_n E dX5_thingWeighs_61 1 rfl ?_
    refine J_callSI E cal_X5_trunk wd536 [.int x_1] [] (ct_X5_trunk l D dA G v w (hOk) x_1) rfl rfl (Nat.le_of_ble_eq_true rfl) ⟨rfl, rfl⟩ ⟨Nat.le_of_ble_eq_true rfl, Nat.le_of_ble_eq_true rfl⟩ dX5_thingWeighs_62 (fun x32 v29 w30 p31 => ?_)
    rw [p31.1, p31.2.1]
    refine J_iload_n E dX5_thingWeighs_65 2 rfl ?_
    refine J_iconst E 2 dX5_thingWeighs_66 (by decide) ?_
    refine J_irem E dX5_thingWeighs_67 (Bd.nz (Bd.lit 2 2 (by decide)) (by decide)) (fun x33 e34 => ?_)
    have b35 : Bd x33 (-1) 1 := (Bd.rem e34 (Bd.lit 2 2 (by decide)) (by decide)).w _ _ (by decide)
    refine J_iconst E 1 dX5_thingWeighs_68 (by decide) ?_
    refine J_icmp_ne E 77 dX5_thingWeighs_69 (by decide) (fun c36 => ?_) (fun c36 => ?_)
    · have b37 : Bd x33 (-1) 0 := (Bd.ne_hi c36 b35 (Bd.lit 1 1 (by decide))).w _ _ (by decide)
      refine J_iconst E 0 dX5_thingWeighs_77 (by decide) ?_
      refine J_iadd E dX5_thingWeighs_78 (fun x38 e39 => ?_)
      exact J_iret E hr dX5_thingWeighs_79 ⟨rfl, rfl, trivial, trivial⟩
    · have b40 : Bd x33 1 1 := Bd.eq_l c36 b35 (Bd.lit 1 1 (by decide)) 1 1 (by decide)
      refine J_bipush E 9 dX5_thingWeighs_72 (by decide) ?_
      refine J_goto E 78 dX5_thingWeighs_74 (by decide) ?_
      refine J_iadd E dX5_thingWeighs_78 (fun x41 e42 => ?_)
      exact J_iret E hr dX5_thingWeighs_79 ⟨rfl, rfl, trivial, trivial⟩
  by_cases h43 : x_0.toInt = 5
  · refine J_tabIn E 5 80 dX5_thingWeighs_1 h43 (by decide) (by decide) rfl (by decide) ?_
    have b44 : Bd x_0 5 5 := ⟨by omega, by omega⟩
    refine J_iconst E 2 dX5_thingWeighs_80 (by decide) ?_
    refine J_iload_n E dX5_thingWeighs_81 1 rfl ?_
    refine J_callSI E cal_X5_trunk wd536 [.int x_1] [.int 2] (ct_X5_trunk l D dA G v w (hOk) x_1) rfl rfl (Nat.le_of_ble_eq_true rfl) ⟨rfl, rfl⟩ ⟨Nat.le_of_ble_eq_true rfl, Nat.le_of_ble_eq_true rfl⟩ dX5_thingWeighs_82 (fun x48 v45 w46 p47 => ?_)
    rw [p47.1, p47.2.1]
    refine J_imul E dX5_thingWeighs_85 (fun x49 e50 => ?_)
    refine J_iconst E 1 dX5_thingWeighs_86 (by decide) ?_
    refine J_isub E dX5_thingWeighs_87 (fun x51 e52 => ?_)
    exact J_iret E hr dX5_thingWeighs_88 ⟨rfl, rfl, trivial, trivial⟩
  refine J_tabOut (x := x_0) E 89 dX5_thingWeighs_1 (by have := (Bd.any x_0); simp only [Bd, I0, I1] at this; omega) (by decide) ?_
  refine J_iload_n E dX5_thingWeighs_89 1 rfl ?_
  exact J_iret E hr dX5_thingWeighs_90 ⟨rfl, rfl, trivial, trivial⟩

abbrev rm_X0_fillByThingKind : Room := { frames := 2, cells := 0, slots := 0, locals := 43 }
set_option maxHeartbeats 4000000 in
set_option maxRecDepth 100000 in
theorem ct_X0_fillByThingKind (l : Launch) (D : va_G) (dA : Nat → ClassId) (G : Gm) (v : Mv) (w : Mw) (hOk : Ok G v w) (h0 : Nat) (S0 : S_X0 G h0) (x_0 : Int32) (x_1 : Int32) (x_2 : Int32) (bx_2 : Bd x_2 0 60) : CtV l yX0_fillByThingKind cX0_fillByThingKind 5 none rm_X0_fillByThingKind D dA G [.ref h0, .int x_0, .int x_1, .int x_2] v w (fun v1 w1 => Ok G v1 w1 ∧ Kp G v v1 ∧ Fr G [0, 109] v v1) := by
  refine CtV.of RX0 [(0, .ref h0), (1, .int x_0), (2, .int x_1), (3, .int x_2)] (Nat.le_of_ble_eq_true rfl) rfl (by decide) rfl ?_
  intro p e s m args below meth c E hr
  have J8 : ∀ n : Nat, ∀ (v1 : Mv) (w2 : Mw), Ok G v1 w2 → Kp G v v1 → Fr G [0, 109] v v1 → Bd x_2 0 60 → ∀ x7 : Int32, Bd x7 0 6 → Mu x7 6 n → J p l e rm_X0_fillByThingKind s m args below meth c 0 0 (MQ below (QcV D dA G (fun v1 w1 => Ok G v1 w1 ∧ Kp G v v1 ∧ Fr G [0, 109] v v1)) args s 0 0 (dm G)) D dA G (dm G) s.heap 5 v1 w2 [(0, .ref h0), (1, .int x_0), (2, .int x_1), (3, .int x_2), (4, .int x7)] 8 [] := by
    intro n
    induction n with
    | zero => intro v1 w2 o3 k4 f5 b6 x7 b8 hm; exact hm.zero b8 (by decide)
    | succ n ih8 =>
      intro v1 w2 o3 k4 f5 b6 x7 b8 hmu8
      have J36 : ∀ (v9 : Mv) (w10 : Mw), Ok G v9 w10 → Kp G v v9 → Fr G [0, 109] v v9 → Bd x_2 0 60 → Bd x7 0 5 → J p l e rm_X0_fillByThingKind s m args below meth c 0 0 (MQ below (QcV D dA G (fun v1 w1 => Ok G v1 w1 ∧ Kp G v v1 ∧ Fr G [0, 109] v v1)) args s 0 0 (dm G)) D dA G (dm G) s.heap 5 v9 w10 [(0, .ref h0), (1, .int x_0), (2, .int x_1), (3, .int x_2), (4, .int x7)] 36 [] := by
        intro v9 w10 o11 k12 f13 b14 b15
        refine J_iinc E 4 1 (fun z => [(4, .int z), (0, .ref h0), (1, .int x_0), (2, .int x_1), (3, .int x_2)]) dX0_fillByThingKind_36 rfl (by decide) (by decide) (fun _ => rfl) (fun x16 e17 => ?_)
        have b18 : Bd x16 1 6 := (Bd.add e17 b15 (Bd.lit 1 1 (by decide)) (by decide)).w _ _ (by decide)
        refine J_goto E 8 dX0_fillByThingKind_39 (by decide) ?_
        exact J.sub [1, 2, 3, 4, 0] rfl (ih8 v9 w10 (o11) (k12) f13 b14 x16 (b18.w 0 6 (by decide)) (Mu.step hmu8 e17 b15 (Bd.lit 1 1 (by decide)) (by decide)))
      refine J_iload E dX0_fillByThingKind_8 4 rfl ?_
      refine J_bipush E 6 dX0_fillByThingKind_10 (by decide) ?_
      refine J_icmp_ge E 42 dX0_fillByThingKind_12 (by decide) (fun c19 => ?_) (fun c19 => ?_)
      · have b20 : Bd x7 6 6 := Bd.le_r c19 (Bd.lit 6 6 (by decide)) b8 6 (by decide)
        exact J_vret E hr dX0_fillByThingKind_42 ⟨o3, k4, f5⟩
      · have b21 : Bd x7 0 5 := Bd.lt_l (nle c19) b8 (Bd.lit 6 6 (by decide)) 5 (by decide)
        refine J_iload_n E dX0_fillByThingKind_15 1 rfl ?_
        refine J_iload E dX0_fillByThingKind_16 4 rfl ?_
        refine J_ishr E dX0_fillByThingKind_18 (fun x22 e23 => ?_)
        refine J_iconst E 1 dX0_fillByThingKind_19 (by decide) ?_
        refine J_iand E dX0_fillByThingKind_20 (fun x24 e25 => ?_)
        have b26 : Bd x24 0 1 := Bd.and_r e25 (Bd.lit 1 1 (by decide)) (by decide)
        refine J_iconst E 1 dX0_fillByThingKind_21 (by decide) ?_
        refine J_icmp_ne E 36 dX0_fillByThingKind_22 (by decide) (fun c27 => ?_) (fun c27 => ?_)
        · have b28 : Bd x24 0 0 := (Bd.ne_hi c27 b26 (Bd.lit 1 1 (by decide))).w _ _ (by decide)
          exact J.sub [0, 1, 2, 3, 4] rfl (J36 v1 w2 (o3) (k4) f5 b6 b21)
        · have b29 : Bd x24 1 1 := Bd.eq_l c27 b26 (Bd.lit 1 1 (by decide)) 1 1 (by decide)
          refine J_aload_n E dX0_fillByThingKind_25 0 rfl ?_
          refine J_iload E dX0_fillByThingKind_26 4 rfl ?_
          refine J_iload_n E dX0_fillByThingKind_28 2 rfl ?_
          refine J_iload_n E dX0_fillByThingKind_29 3 rfl ?_
          refine J_callSNI E cal_X5_thingWeighs wd813 [.int x7, .int x_1, .int x_2] [.ref h0] (ct_X5_thingWeighs l D dA G v1 w2 (o3) x7 x_1 x_2) rfl rfl (Nat.le_of_ble_eq_true rfl) ⟨rfl, rfl⟩ ⟨Nat.le_of_ble_eq_true rfl, Nat.le_of_ble_eq_true rfl⟩ dX0_fillByThingKind_30 (fun x33 v30 w31 p32 => ?_)
          rw [p32.1, p32.2.1]
          refine J_callVV E cal_X0_put wd771 rfl (S_X0.h S0) [.int x33] [] (ct_X0_put l D dA G v1 w2 (o3) h0 S0 x33) rfl rfl (Nat.le_of_ble_eq_true rfl) ⟨rfl, rfl⟩ ⟨Nat.le_of_ble_eq_true rfl, Nat.le_of_ble_eq_true rfl⟩ dX0_fillByThingKind_33 (fun v34 w35 p36 => ?_)
          have o38 := p36.1
          have k39 : Kp G v v34 := (k4).tr p36.2.1
          have f40 : Fr G [0, 109] v v34 := Fr.tr f5 (p36.2.2) (by decide)
          exact J.sub [0, 1, 2, 3, 4] rfl (J36 v34 w35 (o38) (k39) f40 b6 b21)
  refine J_aload_n E dX0_fillByThingKind_0 0 rfl ?_
  refine J_iconst E 0 dX0_fillByThingKind_1 (by decide) ?_
  refine J_pI E in_X0 rfl (S_X0.h S0) 1 (by decide) wd300 tyX0 tyX0_ok nmX0 rfl rfl .int (by decide +kernel) rfl rfl dX0_fillByThingKind_2 (fun v41 e42 => ?_)
  have o43 : Ok G v41 w := Ok.pf hOk e42 (S_X0.h S0) rfl ((Bd.lit 0 0 (by decide)).w 0 9 (by decide))
  have k44 : Kp G v v41 := Kp.pf Kp.rf e42 (S_X0.h S0) rfl
  have f45 : Fr G [0, 109] v v41 := Fr.st Fr.rf e42 (S_X0.h S0) rfl
  have e46 : (0 : Int32) = v41 h0 1 := by rw [e42, stv_s]
  refine J_iconst E 0 dX0_fillByThingKind_5 (by decide) ?_
  refine J_istore E [(4, .int 0), (0, .ref h0), (1, .int x_0), (2, .int x_1), (3, .int x_2)] dX0_fillByThingKind_6 (by decide) rfl ?_
  exact J.sub [1, 2, 3, 4, 0] rfl (J8 7 v41 w (o43) (k44) f45 bx_2 0 ((Bd.lit 0 0 (by decide)).w 0 6 (by decide)) (Mu.start _ (Bd.lit 0 0 (by decide)) (by decide)))

abbrev rm_X0_fillByOneKind : Room := { frames := 2, cells := 0, slots := 0, locals := 44 }
set_option maxHeartbeats 4000000 in
set_option maxRecDepth 100000 in
theorem ct_X0_fillByOneKind (l : Launch) (D : va_G) (dA : Nat → ClassId) (G : Gm) (v : Mv) (w : Mw) (hOk : Ok G v w) (h0 : Nat) (S0 : S_X0 G h0) (x_0 : Int32) (x_1 : Int32) (x_2 : Int32) (bx_2 : Bd x_2 0 99) : CtV l yX0_fillByOneKind cX0_fillByOneKind 5 none rm_X0_fillByOneKind D dA G [.ref h0, .int x_0, .int x_1, .int x_2] v w (fun v1 w1 => Ok G v1 w1 ∧ Kp G v v1 ∧ Fr G [0, 109] v v1) := by
  refine CtV.of RX0 [(0, .ref h0), (1, .int x_0), (2, .int x_1), (3, .int x_2)] (Nat.le_of_ble_eq_true rfl) rfl (by decide) rfl ?_
  intro p e s m args below meth c E hr
  have J8 : ∀ n : Nat, ∀ (v1 : Mv) (w2 : Mw), Ok G v1 w2 → Kp G v v1 → Fr G [0, 109] v v1 → Bd x_2 0 99 → ∀ x7 : Int32, Bd x7 0 6 → Mu x7 6 n → J p l e rm_X0_fillByOneKind s m args below meth c 0 0 (MQ below (QcV D dA G (fun v1 w1 => Ok G v1 w1 ∧ Kp G v v1 ∧ Fr G [0, 109] v v1)) args s 0 0 (dm G)) D dA G (dm G) s.heap 5 v1 w2 [(0, .ref h0), (1, .int x_0), (2, .int x_1), (3, .int x_2), (4, .int x7)] 8 [] := by
    intro n
    induction n with
    | zero => intro v1 w2 o3 k4 f5 b6 x7 b8 hm; exact hm.zero b8 (by decide)
    | succ n ih8 =>
      intro v1 w2 o3 k4 f5 b6 x7 b8 hmu8
      have J36 : ∀ (v9 : Mv) (w10 : Mw), Ok G v9 w10 → Kp G v v9 → Fr G [0, 109] v v9 → Bd x_2 0 99 → Bd x7 0 5 → J p l e rm_X0_fillByOneKind s m args below meth c 0 0 (MQ below (QcV D dA G (fun v1 w1 => Ok G v1 w1 ∧ Kp G v v1 ∧ Fr G [0, 109] v v1)) args s 0 0 (dm G)) D dA G (dm G) s.heap 5 v9 w10 [(0, .ref h0), (1, .int x_0), (2, .int x_1), (3, .int x_2), (4, .int x7)] 36 [] := by
        intro v9 w10 o11 k12 f13 b14 b15
        refine J_iinc E 4 1 (fun z => [(4, .int z), (0, .ref h0), (1, .int x_0), (2, .int x_1), (3, .int x_2)]) dX0_fillByOneKind_36 rfl (by decide) (by decide) (fun _ => rfl) (fun x16 e17 => ?_)
        have b18 : Bd x16 1 6 := (Bd.add e17 b15 (Bd.lit 1 1 (by decide)) (by decide)).w _ _ (by decide)
        refine J_goto E 8 dX0_fillByOneKind_39 (by decide) ?_
        exact J.sub [1, 2, 3, 4, 0] rfl (ih8 v9 w10 (o11) (k12) f13 b14 x16 (b18.w 0 6 (by decide)) (Mu.step hmu8 e17 b15 (Bd.lit 1 1 (by decide)) (by decide)))
      refine J_iload E dX0_fillByOneKind_8 4 rfl ?_
      refine J_bipush E 6 dX0_fillByOneKind_10 (by decide) ?_
      refine J_icmp_ge E 42 dX0_fillByOneKind_12 (by decide) (fun c19 => ?_) (fun c19 => ?_)
      · have b20 : Bd x7 6 6 := Bd.le_r c19 (Bd.lit 6 6 (by decide)) b8 6 (by decide)
        exact J_vret E hr dX0_fillByOneKind_42 ⟨o3, k4, f5⟩
      · have b21 : Bd x7 0 5 := Bd.lt_l (nle c19) b8 (Bd.lit 6 6 (by decide)) 5 (by decide)
        refine J_iload_n E dX0_fillByOneKind_15 1 rfl ?_
        refine J_iload E dX0_fillByOneKind_16 4 rfl ?_
        refine J_ishr E dX0_fillByOneKind_18 (fun x22 e23 => ?_)
        refine J_iconst E 1 dX0_fillByOneKind_19 (by decide) ?_
        refine J_iand E dX0_fillByOneKind_20 (fun x24 e25 => ?_)
        have b26 : Bd x24 0 1 := Bd.and_r e25 (Bd.lit 1 1 (by decide)) (by decide)
        refine J_iconst E 1 dX0_fillByOneKind_21 (by decide) ?_
        refine J_icmp_ne E 36 dX0_fillByOneKind_22 (by decide) (fun c27 => ?_) (fun c27 => ?_)
        · have b28 : Bd x24 0 0 := (Bd.ne_hi c27 b26 (Bd.lit 1 1 (by decide))).w _ _ (by decide)
          exact J.sub [0, 1, 2, 3, 4] rfl (J36 v1 w2 (o3) (k4) f5 b6 b21)
        · have b29 : Bd x24 1 1 := Bd.eq_l c27 b26 (Bd.lit 1 1 (by decide)) 1 1 (by decide)
          refine J_aload_n E dX0_fillByOneKind_25 0 rfl ?_
          refine J_iload E dX0_fillByOneKind_26 4 rfl ?_
          refine J_iload_n E dX0_fillByOneKind_28 2 rfl ?_
          refine J_iload_n E dX0_fillByOneKind_29 3 rfl ?_
          refine J_callSNI E cal_X5_oneLifts wd770 [.int x7, .int x_1, .int x_2] [.ref h0] (ct_X5_oneLifts l D dA G v1 w2 (o3) x7 x_1 x_2) rfl rfl (Nat.le_of_ble_eq_true rfl) ⟨rfl, rfl⟩ ⟨Nat.le_of_ble_eq_true rfl, Nat.le_of_ble_eq_true rfl⟩ dX0_fillByOneKind_30 (fun x33 v30 w31 p32 => ?_)
          rw [p32.1, p32.2.1]
          refine J_callVV E cal_X0_put wd771 rfl (S_X0.h S0) [.int x33] [] (ct_X0_put l D dA G v1 w2 (o3) h0 S0 x33) rfl rfl (Nat.le_of_ble_eq_true rfl) ⟨rfl, rfl⟩ ⟨Nat.le_of_ble_eq_true rfl, Nat.le_of_ble_eq_true rfl⟩ dX0_fillByOneKind_33 (fun v34 w35 p36 => ?_)
          have o38 := p36.1
          have k39 : Kp G v v34 := (k4).tr p36.2.1
          have f40 : Fr G [0, 109] v v34 := Fr.tr f5 (p36.2.2) (by decide)
          exact J.sub [0, 1, 2, 3, 4] rfl (J36 v34 w35 (o38) (k39) f40 b6 b21)
  refine J_aload_n E dX0_fillByOneKind_0 0 rfl ?_
  refine J_iconst E 0 dX0_fillByOneKind_1 (by decide) ?_
  refine J_pI E in_X0 rfl (S_X0.h S0) 1 (by decide) wd300 tyX0 tyX0_ok nmX0 rfl rfl .int (by decide +kernel) rfl rfl dX0_fillByOneKind_2 (fun v41 e42 => ?_)
  have o43 : Ok G v41 w := Ok.pf hOk e42 (S_X0.h S0) rfl ((Bd.lit 0 0 (by decide)).w 0 9 (by decide))
  have k44 : Kp G v v41 := Kp.pf Kp.rf e42 (S_X0.h S0) rfl
  have f45 : Fr G [0, 109] v v41 := Fr.st Fr.rf e42 (S_X0.h S0) rfl
  have e46 : (0 : Int32) = v41 h0 1 := by rw [e42, stv_s]
  refine J_iconst E 0 dX0_fillByOneKind_5 (by decide) ?_
  refine J_istore E [(4, .int 0), (0, .ref h0), (1, .int x_0), (2, .int x_1), (3, .int x_2)] dX0_fillByOneKind_6 (by decide) rfl ?_
  exact J.sub [1, 2, 3, 4, 0] rfl (J8 7 v41 w (o43) (k44) f45 bx_2 0 ((Bd.lit 0 0 (by decide)).w 0 6 (by decide)) (Mu.start _ (Bd.lit 0 0 (by decide)) (by decide)))

abbrev rm_X0_greaterPart : Room := { frames := 1, cells := 0, slots := 0, locals := 21 }
set_option maxHeartbeats 4000000 in
set_option maxRecDepth 100000 in
theorem ct_X0_greaterPart (l : Launch) (D : va_G) (dA : Nat → ClassId) (G : Gm) (v : Mv) (w : Mw) (hOk : Ok G v w) (h0 : Nat) (S0 : S_X0 G h0) (x_0 : Int32) (bx_0 : Bd x_0 0 60) : CtI l yX0_greaterPart cX0_greaterPart 4 (some .int) rm_X0_greaterPart D dA G [.ref h0, .int x_0] v w (fun r v1 w1 => v1 = v ∧ w1 = w ∧ True ∧ True) := by
  refine CtI.of RX0 [(0, .ref h0), (1, .int x_0)] (Nat.le_of_ble_eq_true rfl) rfl (by decide) rfl ?_
  intro p e s m args below meth c E hr
  have J4 : ∀ n : Nat, Bd x_0 0 60 → ∀ x2 : Int32, ∀ x3 : Int32, Bd x3 0 9 → Mu x3 9 n → J p l e rm_X0_greaterPart s m args below meth c 0 0 (MQ below (QcI D dA G (fun r v1 w1 => v1 = v ∧ w1 = w ∧ True ∧ True)) args s 0 0 (dm G)) D dA G (dm G) s.heap 4 v w [(0, .ref h0), (1, .int x_0), (2, .int x2), (3, .int x3)] 4 [] := by
    intro n
    induction n with
    | zero => intro b1 x2 x3 b4 hm; exact hm.zero b4 (by decide)
    | succ n ih4 =>
      intro b1 x2 x3 b4 hmu4
      have J25 : Bd x_0 0 60 → ∀ x6 : Int32, Bd x3 0 8 → J p l e rm_X0_greaterPart s m args below meth c 0 0 (MQ below (QcI D dA G (fun r v1 w1 => v1 = v ∧ w1 = w ∧ True ∧ True)) args s 0 0 (dm G)) D dA G (dm G) s.heap 4 v w [(0, .ref h0), (1, .int x_0), (2, .int x6), (3, .int x3)] 25 [] := by
        intro b5 x6 b7
        refine J_iinc E 3 1 (fun z => [(3, .int z), (0, .ref h0), (1, .int x_0), (2, .int x6)]) dX0_greaterPart_25 rfl (by decide) (by decide) (fun _ => rfl) (fun x8 e9 => ?_)
        have b10 : Bd x8 1 9 := (Bd.add e9 b7 (Bd.lit 1 1 (by decide)) (by decide)).w _ _ (by decide)
        refine J_goto E 4 dX0_greaterPart_28 (by decide) ?_
        exact J.sub [1, 2, 3, 0] rfl (ih4 b5 x6 x8 (b10.w 0 9 (by decide)) (Mu.step hmu4 e9 b7 (Bd.lit 1 1 (by decide)) (by decide)))
      refine J_iload_n E dX0_greaterPart_4 3 rfl ?_
      refine J_aload_n E dX0_greaterPart_5 0 rfl ?_
      refine J_getI E in_X0 rfl (S_X0.h S0) 1 (by decide) wd300 rfl dX0_greaterPart_6 (fun x11 e12 => ?_)
      have b13 : Bd x11 0 9 := Ok.fd hOk e12 (S_X0.h S0) rfl
      refine J_icmp_ge E 31 dX0_greaterPart_9 (by decide) (fun c14 => ?_) (fun c14 => ?_)
      · refine J_iload_n E dX0_greaterPart_31 2 rfl ?_
        refine J_aload_n E dX0_greaterPart_32 0 rfl ?_
        refine J_getI E in_X0 rfl (S_X0.h S0) 1 (by decide) wd300 rfl dX0_greaterPart_33 (fun x15 e16 => ?_)
        rw [show x15 = x11 from e16.trans (e12).symm]
        refine J_iload_n E dX0_greaterPart_36 2 rfl ?_
        refine J_isub E dX0_greaterPart_37 (fun x17 e18 => ?_)
        refine J_callSI E cal_J9_max_7cf53 wd779 [.int x2, .int x17] [] (ct_J9_max_7cf53 l D dA G v w (hOk) x2 x17) rfl rfl (Nat.le_of_ble_eq_true rfl) ⟨rfl, rfl⟩ ⟨Nat.le_of_ble_eq_true rfl, Nat.le_of_ble_eq_true rfl⟩ dX0_greaterPart_38 (fun x22 v19 w20 p21 => ?_)
        rw [p21.1, p21.2.1]
        exact J_iret E hr dX0_greaterPart_41 ⟨rfl, rfl, trivial, trivial⟩
      · have b23 : Bd x3 0 8 := Bd.lt_l (nle c14) b4 b13 8 (by decide)
        have b24 : Bd x11 1 9 := Bd.lt_r (nle c14) b4 b13 1 (by decide)
        refine J_aload_n E dX0_greaterPart_12 0 rfl ?_
        refine J_getR E in_X0 rfl (S_X0.h S0) 0 (by decide) wd299 rfl dX0_greaterPart_13 ?_
        refine J_iload_n E dX0_greaterPart_16 3 rfl ?_
        refine J_iald1 E (S_X0.f0 S0) (Bd.in b23 (by decide)) dX0_greaterPart_17 (fun x25 e26 => ?_)
        refine J_iload_n E dX0_greaterPart_18 1 rfl ?_
        refine J_icmp_lt E 25 dX0_greaterPart_19 (by decide) (fun c27 => ?_) (fun c27 => ?_)
        · have b28 : Bd x25 I0 59 := Bd.lt_l c27 (Bd.any x25) b1 59 (by decide)
          exact J.sub [0, 1, 2, 3] rfl (J25 b1 x2 b23)
        · have b29 : Bd x25 0 I1 := Bd.le_r (nlt c27) b1 (Bd.any x25) 0 (by decide)
          refine J_iinc E 2 1 (fun z => [(2, .int z), (0, .ref h0), (1, .int x_0), (3, .int x3)]) dX0_greaterPart_22 rfl (by decide) (by decide) (fun _ => rfl) (fun x30 e31 => ?_)
          exact J.sub [1, 2, 0, 3] rfl (J25 b1 x30 b23)
  refine J_iconst E 0 dX0_greaterPart_0 (by decide) ?_
  refine J_istore_n E [(2, .int 0), (0, .ref h0), (1, .int x_0)] dX0_greaterPart_1 rfl (by decide) rfl ?_
  refine J_iconst E 0 dX0_greaterPart_2 (by decide) ?_
  refine J_istore_n E [(3, .int 0), (2, .int 0), (0, .ref h0), (1, .int x_0)] dX0_greaterPart_3 rfl (by decide) rfl ?_
  exact J.sub [2, 3, 1, 0] rfl (J4 10 bx_0 0 0 ((Bd.lit 0 0 (by decide)).w 0 9 (by decide)) (Mu.start _ (Bd.lit 0 0 (by decide)) (by decide)))

abbrev rm_X0_mostAlike : Room := { frames := 1, cells := 0, slots := 0, locals := 21 }
set_option maxHeartbeats 4000000 in
set_option maxRecDepth 100000 in
theorem ct_X0_mostAlike (l : Launch) (D : va_G) (dA : Nat → ClassId) (G : Gm) (v : Mv) (w : Mw) (hOk : Ok G v w) (h0 : Nat) (S0 : S_X0 G h0) : CtI l yX0_mostAlike cX0_mostAlike 5 (some .int) rm_X0_mostAlike D dA G [.ref h0] v w (fun r v1 w1 => v1 = v ∧ w1 = w ∧ True ∧ True) := by
  refine CtI.of RX0 [(0, .ref h0)] (Nat.le_of_ble_eq_true rfl) rfl (by decide) rfl ?_
  intro p e s m args below meth c E hr
  have J4 : ∀ n : Nat, ∀ x1 : Int32, ∀ x2 : Int32, Bd x2 0 9 → Mu x2 9 n → J p l e rm_X0_mostAlike s m args below meth c 0 0 (MQ below (QcI D dA G (fun r v1 w1 => v1 = v ∧ w1 = w ∧ True ∧ True)) args s 0 0 (dm G)) D dA G (dm G) s.heap 5 v w [(0, .ref h0), (1, .int x1), (2, .int x2)] 4 [] := by
    intro n
    induction n with
    | zero => intro x1 x2 b3 hm; exact hm.zero b3 (by decide)
    | succ n ih4 =>
      intro x1 x2 b3 hmu4
      have J17 : ∀ n : Nat, Bd x2 0 8 → ∀ x5 : Int32, ∀ x6 : Int32, Bd x6 0 9 → Mu x6 9 n → J p l e rm_X0_mostAlike s m args below meth c 0 0 (MQ below (QcI D dA G (fun r v1 w1 => v1 = v ∧ w1 = w ∧ True ∧ True)) args s 0 0 (dm G)) D dA G (dm G) s.heap 5 v w [(0, .ref h0), (1, .int x1), (2, .int x2), (3, .int x5), (4, .int x6)] 17 [] := by
        intro n
        induction n with
        | zero => intro b4 x5 x6 b7 hm; exact hm.zero b7 (by decide)
        | succ n ih17 =>
          intro b4 x5 x6 b7 hmu17
          have J45 : Bd x2 0 8 → ∀ x9 : Int32, Bd x6 0 8 → J p l e rm_X0_mostAlike s m args below meth c 0 0 (MQ below (QcI D dA G (fun r v1 w1 => v1 = v ∧ w1 = w ∧ True ∧ True)) args s 0 0 (dm G)) D dA G (dm G) s.heap 5 v w [(0, .ref h0), (1, .int x1), (2, .int x2), (3, .int x9), (4, .int x6)] 45 [] := by
            intro b8 x9 b10
            refine J_iinc E 4 1 (fun z => [(4, .int z), (0, .ref h0), (1, .int x1), (2, .int x2), (3, .int x9)]) dX0_mostAlike_45 rfl (by decide) (by decide) (fun _ => rfl) (fun x11 e12 => ?_)
            have b13 : Bd x11 1 9 := (Bd.add e12 b10 (Bd.lit 1 1 (by decide)) (by decide)).w _ _ (by decide)
            refine J_goto E 17 dX0_mostAlike_48 (by decide) ?_
            exact J.sub [1, 2, 3, 4, 0] rfl (ih17 b8 x9 x11 (b13.w 0 9 (by decide)) (Mu.step hmu17 e12 b10 (Bd.lit 1 1 (by decide)) (by decide)))
          refine J_iload E dX0_mostAlike_17 4 rfl ?_
          refine J_aload_n E dX0_mostAlike_19 0 rfl ?_
          refine J_getI E in_X0 rfl (S_X0.h S0) 1 (by decide) wd300 rfl dX0_mostAlike_20 (fun x14 e15 => ?_)
          have b16 : Bd x14 0 9 := Ok.fd hOk e15 (S_X0.h S0) rfl
          refine J_icmp_ge E 51 dX0_mostAlike_23 (by decide) (fun c17 => ?_) (fun c17 => ?_)
          · refine J_iload_n E dX0_mostAlike_51 1 rfl ?_
            refine J_iload_n E dX0_mostAlike_52 3 rfl ?_
            refine J_callSI E cal_J9_max_7cf53 wd779 [.int x1, .int x5] [] (ct_J9_max_7cf53 l D dA G v w (hOk) x1 x5) rfl rfl (Nat.le_of_ble_eq_true rfl) ⟨rfl, rfl⟩ ⟨Nat.le_of_ble_eq_true rfl, Nat.le_of_ble_eq_true rfl⟩ dX0_mostAlike_53 (fun x21 v18 w19 p20 => ?_)
            rw [p20.1, p20.2.1]
            refine J_istore_n E [(1, .int x21), (0, .ref h0), (2, .int x2), (3, .int x5), (4, .int x6)] dX0_mostAlike_56 rfl (by decide) rfl ?_
            refine J_iinc E 2 1 (fun z => [(2, .int z), (1, .int x21), (0, .ref h0), (3, .int x5), (4, .int x6)]) dX0_mostAlike_57 rfl (by decide) (by decide) (fun _ => rfl) (fun x22 e23 => ?_)
            have b24 : Bd x22 1 9 := (Bd.add e23 b4 (Bd.lit 1 1 (by decide)) (by decide)).w _ _ (by decide)
            refine J_goto E 4 dX0_mostAlike_60 (by decide) ?_
            exact J.sub [2, 1, 0] rfl (ih4 x21 x22 (b24.w 0 9 (by decide)) (Mu.step hmu4 e23 b4 (Bd.lit 1 1 (by decide)) (by decide)))
          · have b25 : Bd x6 0 8 := Bd.lt_l (nle c17) b7 b16 8 (by decide)
            have b26 : Bd x14 1 9 := Bd.lt_r (nle c17) b7 b16 1 (by decide)
            refine J_aload_n E dX0_mostAlike_26 0 rfl ?_
            refine J_getR E in_X0 rfl (S_X0.h S0) 0 (by decide) wd299 rfl dX0_mostAlike_27 ?_
            refine J_iload E dX0_mostAlike_30 4 rfl ?_
            refine J_iald1 E (S_X0.f0 S0) (Bd.in b25 (by decide)) dX0_mostAlike_32 (fun x27 e28 => ?_)
            refine J_aload_n E dX0_mostAlike_33 0 rfl ?_
            refine J_getR E in_X0 rfl (S_X0.h S0) 0 (by decide) wd299 rfl dX0_mostAlike_34 ?_
            refine J_iload_n E dX0_mostAlike_37 2 rfl ?_
            refine J_iald1 E (S_X0.f0 S0) (Bd.in b4 (by decide)) dX0_mostAlike_38 (fun x29 e30 => ?_)
            refine J_icmp_ne E 45 dX0_mostAlike_39 (by decide) (fun c31 => ?_) (fun c31 => ?_)
            · exact J.sub [0, 1, 2, 3, 4] rfl (J45 b4 x5 b25)
            · refine J_iinc E 3 1 (fun z => [(3, .int z), (0, .ref h0), (1, .int x1), (2, .int x2), (4, .int x6)]) dX0_mostAlike_42 rfl (by decide) (by decide) (fun _ => rfl) (fun x32 e33 => ?_)
              exact J.sub [1, 2, 3, 0, 4] rfl (J45 b4 x32 b25)
      refine J_iload_n E dX0_mostAlike_4 2 rfl ?_
      refine J_aload_n E dX0_mostAlike_5 0 rfl ?_
      refine J_getI E in_X0 rfl (S_X0.h S0) 1 (by decide) wd300 rfl dX0_mostAlike_6 (fun x34 e35 => ?_)
      have b36 : Bd x34 0 9 := Ok.fd hOk e35 (S_X0.h S0) rfl
      refine J_icmp_ge E 63 dX0_mostAlike_9 (by decide) (fun c37 => ?_) (fun c37 => ?_)
      · refine J_iload_n E dX0_mostAlike_63 1 rfl ?_
        exact J_iret E hr dX0_mostAlike_64 ⟨rfl, rfl, trivial, trivial⟩
      · have b38 : Bd x2 0 8 := Bd.lt_l (nle c37) b3 b36 8 (by decide)
        have b39 : Bd x34 1 9 := Bd.lt_r (nle c37) b3 b36 1 (by decide)
        refine J_iconst E 0 dX0_mostAlike_12 (by decide) ?_
        refine J_istore_n E [(3, .int 0), (0, .ref h0), (1, .int x1), (2, .int x2)] dX0_mostAlike_13 rfl (by decide) rfl ?_
        refine J_iconst E 0 dX0_mostAlike_14 (by decide) ?_
        refine J_istore E [(4, .int 0), (3, .int 0), (0, .ref h0), (1, .int x1), (2, .int x2)] dX0_mostAlike_15 (by decide) rfl ?_
        exact J.sub [2, 3, 4, 1, 0] rfl (J17 10 b38 0 0 ((Bd.lit 0 0 (by decide)).w 0 9 (by decide)) (Mu.start _ (Bd.lit 0 0 (by decide)) (by decide)))
  refine J_iconst E 0 dX0_mostAlike_0 (by decide) ?_
  refine J_istore_n E [(1, .int 0), (0, .ref h0)] dX0_mostAlike_1 rfl (by decide) rfl ?_
  refine J_iconst E 0 dX0_mostAlike_2 (by decide) ?_
  refine J_istore_n E [(2, .int 0), (1, .int 0), (0, .ref h0)] dX0_mostAlike_3 rfl (by decide) rfl ?_
  exact J.sub [2, 1, 0] rfl (J4 10 0 0 ((Bd.lit 0 0 (by decide)).w 0 9 (by decide)) (Mu.start _ (Bd.lit 0 0 (by decide)) (by decide)))

abbrev rm_X2_isHere : Room := { frames := 0, cells := 0, slots := 0, locals := 0 }
set_option maxHeartbeats 4000000 in
set_option maxRecDepth 100000 in
theorem ct_X2_isHere (l : Launch) (D : va_G) (dA : Nat → ClassId) (G : Gm) (v : Mv) (w : Mw) (hOk : Ok G v w) (h0 : Nat) (S0 : S_X2 G h0) (x_0 : Int32) (bx_0 : Bd x_0 0 6) : CtI l yX2_isHere cX2_isHere 2 (some .boolean) rm_X2_isHere D dA G [.ref h0, .int x_0] v w (fun r v1 w1 => v1 = v ∧ w1 = w ∧ Bd r 0 1 ∧ True) := by
  refine CtI.of RX2 [(0, .ref h0), (1, .int x_0)] (Nat.le_of_ble_eq_true rfl) rfl (by decide) rfl ?_
  intro p e s m args below meth c E hr
  refine J_aload_n E dX2_isHere_0 0 rfl ?_
  refine J_getI E in_X2 rfl (S_X2.h S0) 2 (by decide) wd157 rfl dX2_isHere_1 (fun x1 e2 => ?_)
  refine J_iload_n E dX2_isHere_4 1 rfl ?_
  refine J_ishr E dX2_isHere_5 (fun x3 e4 => ?_)
  refine J_iconst E 1 dX2_isHere_6 (by decide) ?_
  refine J_iand E dX2_isHere_7 (fun x5 e6 => ?_)
  have b7 : Bd x5 0 1 := Bd.and_r e6 (Bd.lit 1 1 (by decide)) (by decide)
  refine J_iconst E 1 dX2_isHere_8 (by decide) ?_
  refine J_icmp_ne E 16 dX2_isHere_9 (by decide) (fun c8 => ?_) (fun c8 => ?_)
  · have b9 : Bd x5 0 0 := (Bd.ne_hi c8 b7 (Bd.lit 1 1 (by decide))).w _ _ (by decide)
    refine J_iconst E 0 dX2_isHere_16 (by decide) ?_
    exact J_zret E hr (Bd.z (Bd.lit 0 0 (by decide)) (by decide)) dX2_isHere_17 ⟨rfl, rfl, ((Bd.lit 0 0 (by decide)).w 0 1 (by decide)), trivial⟩
  · have b10 : Bd x5 1 1 := Bd.eq_l c8 b7 (Bd.lit 1 1 (by decide)) 1 1 (by decide)
    refine J_iconst E 1 dX2_isHere_12 (by decide) ?_
    refine J_goto E 17 dX2_isHere_13 (by decide) ?_
    exact J_zret E hr (Bd.z (Bd.lit 1 1 (by decide)) (by decide)) dX2_isHere_17 ⟨rfl, rfl, ((Bd.lit 1 1 (by decide)).w 0 1 (by decide)), trivial⟩

abbrev rm_X6_weightOf : Room := { frames := 2, cells := 0, slots := 0, locals := 43 }
set_option maxHeartbeats 4000000 in
set_option maxRecDepth 100000 in
theorem ct_X6_weightOf (l : Launch) (D : va_G) (dA : Nat → ClassId) (G : Gm) (v : Mv) (w : Mw) (hOk : Ok G v w) (h0 : Nat) (S0 : S_X6 G h0) (x_0 : Int32) (bx_0 : Bd x_0 0 6) (x_1 : Int32) (bx_1 : Bd x_1 0 60) : CtI l yX6_weightOf cX6_weightOf 3 (some .int) rm_X6_weightOf D dA G [.ref h0, .int x_0, .int x_1] v w (fun r v1 w1 => v1 = v ∧ w1 = w ∧ True ∧ True) := by
  refine CtI.of RX6 [(0, .ref h0), (1, .int x_0), (2, .int x_1)] (Nat.le_of_ble_eq_true rfl) rfl (by decide) rfl ?_
  intro p e s m args below meth c E hr
  refine J_aload_n E dX6_weightOf_0 0 rfl ?_
  refine J_getR E in_X6 rfl (S_X6.h S0) 1 (by decide) wd195 rfl dX6_weightOf_1 ?_
  refine J_iload_n E dX6_weightOf_4 1 rfl ?_
  refine J_iald1 E (S_X6.f1 S0) (Bd.in bx_0 (by decide)) dX6_weightOf_5 (fun x1 e2 => ?_)
  refine J_aload_n E dX6_weightOf_6 0 rfl ?_
  refine J_getR E in_X6 rfl (S_X6.h S0) 2 (by decide) wd197 rfl dX6_weightOf_7 ?_
  refine J_iload_n E dX6_weightOf_10 1 rfl ?_
  refine J_iald1 E (S_X6.f2 S0) (Bd.in bx_0 (by decide)) dX6_weightOf_11 (fun x3 e4 => ?_)
  refine J_aload_n E dX6_weightOf_12 0 rfl ?_
  refine J_getR E in_X6 rfl (S_X6.h S0) 6 (by decide) wd207 rfl dX6_weightOf_13 ?_
  refine J_getIN E in_X2 rfl (S_X2.h (S_X6.f6 S0)) 3 (by decide) wd159 rfl dX6_weightOf_16 (fun x5 e6 => ?_)
  refine J_iload_n E dX6_weightOf_19 2 rfl ?_
  refine J_iadd E dX6_weightOf_20 (fun x7 e8 => ?_)
  refine J_callSNI E cal_X5_thingWeighs wd530 [.int x1, .int x3, .int x7] [] (ct_X5_thingWeighs l D dA G v w (hOk) x1 x3 x7) rfl rfl (Nat.le_of_ble_eq_true rfl) ⟨rfl, rfl⟩ ⟨Nat.le_of_ble_eq_true rfl, Nat.le_of_ble_eq_true rfl⟩ dX6_weightOf_21 (fun x12 v9 w10 p11 => ?_)
  rw [p11.1, p11.2.1]
  exact J_iret E hr dX6_weightOf_24 ⟨rfl, rfl, trivial, trivial⟩

abbrev rm_X6_liftOf : Room := { frames := 2, cells := 0, slots := 0, locals := 44 }
set_option maxHeartbeats 4000000 in
set_option maxRecDepth 100000 in
theorem ct_X6_liftOf (l : Launch) (D : va_G) (dA : Nat → ClassId) (G : Gm) (v : Mv) (w : Mw) (hOk : Ok G v w) (h0 : Nat) (S0 : S_X6 G h0) (x_0 : Int32) (bx_0 : Bd x_0 0 6) (x_1 : Int32) (bx_1 : Bd x_1 0 60) : CtI l yX6_liftOf cX6_liftOf 4 (some .int) rm_X6_liftOf D dA G [.ref h0, .int x_0, .int x_1] v w (fun r v1 w1 => v1 = v ∧ w1 = w ∧ True ∧ True) := by
  refine CtI.of RX6 [(0, .ref h0), (1, .int x_0), (2, .int x_1)] (Nat.le_of_ble_eq_true rfl) rfl (by decide) rfl ?_
  intro p e s m args below meth c E hr
  have J39 : Bd x_0 0 6 → ∀ x2 : Int32, J p l e rm_X6_liftOf s m args below meth c 0 0 (MQ below (QcI D dA G (fun r v1 w1 => v1 = v ∧ w1 = w ∧ True ∧ True)) args s 0 0 (dm G)) D dA G (dm G) s.heap 4 v w [(0, .ref h0), (1, .int x_0)] 39 [.int x2] := by
    intro b1 x2
    refine J_istore_n E [(3, .int x2), (0, .ref h0), (1, .int x_0)] dX6_liftOf_39 rfl (by decide) rfl ?_
    refine J_aload_n E dX6_liftOf_40 1 rfl ?_
    refine J_getR E in_X6 rfl (S_X6.h S0) 4 (by decide) wd203 rfl dX6_liftOf_41 ?_
    refine J_iload_n E dX6_liftOf_44 2 rfl ?_
    refine J_iald1 E (S_X6.f4 S0) (Bd.in b1 (by decide)) dX6_liftOf_45 (fun x3 e4 => ?_)
    refine J_aload_n E dX6_liftOf_46 1 rfl ?_
    refine J_getR E in_X6 rfl (S_X6.h S0) 5 (by decide) wd205 rfl dX6_liftOf_47 ?_
    refine J_iload_n E dX6_liftOf_50 2 rfl ?_
    refine J_iald1 E (S_X6.f5 S0) (Bd.in b1 (by decide)) dX6_liftOf_51 (fun x5 e6 => ?_)
    refine J_iload_n E dX6_liftOf_52 0 rfl ?_
    refine J_callSNI E cal_X5_oneLifts wd542 [.int x3, .int x5, .int x2] [] (ct_X5_oneLifts l D dA G v w (hOk) x3 x5 x2) rfl rfl (Nat.le_of_ble_eq_true rfl) ⟨rfl, rfl⟩ ⟨Nat.le_of_ble_eq_true rfl, Nat.le_of_ble_eq_true rfl⟩ dX6_liftOf_53 (fun x10 v7 w8 p9 => ?_)
    rw [p9.1, p9.2.1]
    exact J_iret E hr dX6_liftOf_56 ⟨rfl, rfl, trivial, trivial⟩
  refine J_aload_n E dX6_liftOf_0 0 rfl ?_
  refine J_getR E in_X6 rfl (S_X6.h S0) 6 (by decide) wd207 rfl dX6_liftOf_1 ?_
  refine J_iload_n E dX6_liftOf_4 1 rfl ?_
  refine J_callVNI E cal_X2_isHere wd496 rfl (S_X2.h (S_X6.f6 S0)) [.int x_0] [] (ct_X2_isHere l D dA G v w (hOk) (rf G h0 6) (S_X6.f6 S0) x_0 bx_0) rfl rfl (Nat.le_of_ble_eq_true rfl) ⟨rfl, rfl⟩ ⟨Nat.le_of_ble_eq_true rfl, Nat.le_of_ble_eq_true rfl⟩ dX6_liftOf_5 (fun x14 v11 w12 p13 => ?_)
  rw [p13.1, p13.2.1]
  have b15 : Bd x14 0 1 := p13.2.2.1
  refine J_if_eq E 30 dX6_liftOf_8 (by decide) (fun c16 => ?_) (fun c16 => ?_)
  · have b17 : Bd x14 0 0 := Bd.eq_l c16 b15 (Bd.lit 0 0 (by decide)) 0 0 (by decide)
    refine J_aload_n E dX6_liftOf_30 0 rfl ?_
    refine J_getR E in_X6 rfl (S_X6.h S0) 6 (by decide) wd207 rfl dX6_liftOf_31 ?_
    refine J_getRN E in_X2 rfl (S_X2.h (S_X6.f6 S0)) 0 (by decide) wd151 rfl dX6_liftOf_34 ?_
    refine J_iload_n E dX6_liftOf_37 1 rfl ?_
    refine J_iald1 E (S_X2.f0 (S_X6.f6 S0)) (Bd.in bx_0 (by decide)) dX6_liftOf_38 (fun x18 e19 => ?_)
    exact J.sub [0, 1] rfl (J39 bx_0 x18)
  · have b20 : Bd x14 1 1 := (Bd.ne_lo c16 b15 (Bd.lit 0 0 (by decide))).w _ _ (by decide)
    refine J_bipush E 99 dX6_liftOf_11 (by decide) ?_
    refine J_aload_n E dX6_liftOf_13 0 rfl ?_
    refine J_getR E in_X6 rfl (S_X6.h S0) 6 (by decide) wd207 rfl dX6_liftOf_14 ?_
    refine J_getRN E in_X2 rfl (S_X2.h (S_X6.f6 S0)) 0 (by decide) wd151 rfl dX6_liftOf_17 ?_
    refine J_iload_n E dX6_liftOf_20 1 rfl ?_
    refine J_iald1 E (S_X2.f0 (S_X6.f6 S0)) (Bd.in bx_0 (by decide)) dX6_liftOf_21 (fun x21 e22 => ?_)
    refine J_iload_n E dX6_liftOf_22 2 rfl ?_
    refine J_iadd E dX6_liftOf_23 (fun x23 e24 => ?_)
    refine J_callSI E cal_J9_min_7cf53 wd611 [.int 99, .int x23] [] (ct_J9_min_7cf53 l D dA G v w (hOk) 99 x23) rfl rfl (Nat.le_of_ble_eq_true rfl) ⟨rfl, rfl⟩ ⟨Nat.le_of_ble_eq_true rfl, Nat.le_of_ble_eq_true rfl⟩ dX6_liftOf_24 (fun x28 v25 w26 p27 => ?_)
    rw [p27.1, p27.2.1]
    refine J_goto E 39 dX6_liftOf_27 (by decide) ?_
    exact J.sub [0, 1] rfl (J39 bx_0 x28)

abbrev rm_X6_holdsFor : Room := { frames := 3, cells := 0, slots := 0, locals := 67 }
set_option maxHeartbeats 4000000 in
set_option maxRecDepth 100000 in
theorem ct_X6_holdsFor (l : Launch) (D : va_G) (dA : Nat → ClassId) (G : Gm) (v : Mv) (w : Mw) (hOk : Ok G v w) (h0 : Nat) (S0 : S_X6 G h0) (x_0 : Int32) (bx_0 : Bd x_0 0 6) (x_1 : Int32) (bx_1 : Bd x_1 0 6) (x_2 : Int32) (bx_2 : Bd x_2 1 60) : CtI l yX6_holdsFor cX6_holdsFor 5 (some .int) rm_X6_holdsFor D dA G [.ref h0, .int x_0, .int x_1, .int x_2] v w (fun r v1 w1 => v1 = v ∧ w1 = w ∧ Bd r 0 60 ∧ True) := by
  refine CtI.of RX6 [(0, .ref h0), (1, .int x_0), (2, .int x_1), (3, .int x_2)] (Nat.le_of_ble_eq_true rfl) rfl (by decide) rfl ?_
  intro p e s m args below meth c E hr
  have J3 : ∀ n : Nat, Bd x_0 0 6 → Bd x_1 0 6 → Bd x_2 1 60 → ∀ x4 : Int32, Bd x4 0 60 → Mu x4 60 n → J p l e rm_X6_holdsFor s m args below meth c 0 0 (MQ below (QcI D dA G (fun r v1 w1 => v1 = v ∧ w1 = w ∧ Bd r 0 60 ∧ True)) args s 0 0 (dm G)) D dA G (dm G) s.heap 5 v w [(0, .ref h0), (1, .int x_0), (2, .int x_1), (3, .int x_2), (4, .int x4)] 3 [] := by
    intro n
    induction n with
    | zero => intro b1 b2 b3 x4 b5 hm; exact hm.zero b5 (by decide)
    | succ n ih3 =>
      intro b1 b2 b3 x4 b5 hmu3
      refine J_iload E dX6_holdsFor_3 4 rfl ?_
      refine J_iload_n E dX6_holdsFor_5 3 rfl ?_
      refine J_icmp_ge E 35 dX6_holdsFor_6 (by decide) (fun c6 => ?_) (fun c6 => ?_)
      · have b7 : Bd x4 1 60 := Bd.le_r c6 b3 b5 1 (by decide)
        refine J_iload_n E dX6_holdsFor_35 3 rfl ?_
        exact J_iret E hr dX6_holdsFor_36 ⟨rfl, rfl, (b3.w 0 60 (by decide)), trivial⟩
      · have b8 : Bd x4 0 59 := Bd.lt_l (nle c6) b5 b3 59 (by decide)
        refine J_aload_n E dX6_holdsFor_9 0 rfl ?_
        refine J_iload_n E dX6_holdsFor_10 1 rfl ?_
        refine J_iload E dX6_holdsFor_11 4 rfl ?_
        refine J_callVI E cal_X6_weightOf wd603 rfl (S_X6.h S0) [.int x_0, .int x4] [] (ct_X6_weightOf l D dA G v w (hOk) h0 S0 x_0 b1 x4 (b8.w 0 60 (by decide))) rfl rfl (Nat.le_of_ble_eq_true rfl) ⟨rfl, rfl⟩ ⟨Nat.le_of_ble_eq_true rfl, Nat.le_of_ble_eq_true rfl⟩ dX6_holdsFor_13 (fun x12 v9 w10 p11 => ?_)
        rw [p11.1, p11.2.1]
        refine J_aload_n E dX6_holdsFor_16 0 rfl ?_
        refine J_iload_n E dX6_holdsFor_17 2 rfl ?_
        refine J_iload E dX6_holdsFor_18 4 rfl ?_
        refine J_callVI E cal_X6_liftOf wd607 rfl (S_X6.h S0) [.int x_1, .int x4] [.int x12] (ct_X6_liftOf l D dA G v w (hOk) h0 S0 x_1 b2 x4 (b8.w 0 60 (by decide))) rfl rfl (Nat.le_of_ble_eq_true rfl) ⟨rfl, rfl⟩ ⟨Nat.le_of_ble_eq_true rfl, Nat.le_of_ble_eq_true rfl⟩ dX6_holdsFor_20 (fun x16 v13 w14 p15 => ?_)
        rw [p15.1, p15.2.1]
        refine J_icmp_gt E 29 dX6_holdsFor_23 (by decide) (fun c17 => ?_) (fun c17 => ?_)
        · refine J_iinc E 4 1 (fun z => [(4, .int z), (0, .ref h0), (1, .int x_0), (2, .int x_1), (3, .int x_2)]) dX6_holdsFor_29 rfl (by decide) (by decide) (fun _ => rfl) (fun x18 e19 => ?_)
          have b20 : Bd x18 1 60 := (Bd.add e19 b8 (Bd.lit 1 1 (by decide)) (by decide)).w _ _ (by decide)
          refine J_goto E 3 dX6_holdsFor_32 (by decide) ?_
          exact J.sub [1, 2, 3, 4, 0] rfl (ih3 b1 b2 b3 x18 (b20.w 0 60 (by decide)) (Mu.step hmu3 e19 b8 (Bd.lit 1 1 (by decide)) (by decide)))
        · refine J_iload E dX6_holdsFor_26 4 rfl ?_
          exact J_iret E hr dX6_holdsFor_28 ⟨rfl, rfl, (b8.w 0 60 (by decide)), trivial⟩
  refine J_iconst E 0 dX6_holdsFor_0 (by decide) ?_
  refine J_istore E [(4, .int 0), (0, .ref h0), (1, .int x_0), (2, .int x_1), (3, .int x_2)] dX6_holdsFor_1 (by decide) rfl ?_
  exact J.sub [1, 2, 3, 4, 0] rfl (J3 61 bx_0 bx_1 bx_2 0 ((Bd.lit 0 0 (by decide)).w 0 60 (by decide)) (Mu.start _ (Bd.lit 0 0 (by decide)) (by decide)))

abbrev rm_X6_thingsHolding : Room := { frames := 4, cells := 0, slots := 0, locals := 91 }
set_option maxHeartbeats 4000000 in
set_option maxRecDepth 100000 in
theorem ct_X6_thingsHolding (l : Launch) (D : va_G) (dA : Nat → ClassId) (G : Gm) (v : Mv) (w : Mw) (hOk : Ok G v w) (h0 : Nat) (S0 : S_X6 G h0) (x_0 : Int32) (bx_0 : Bd x_0 0 6) (x_1 : Int32) (bx_1 : Bd x_1 1 60) : CtI l yX6_thingsHolding cX6_thingsHolding 5 (some .int) rm_X6_thingsHolding D dA G [.ref h0, .int x_0, .int x_1] v w (fun r v1 w1 => v1 = v ∧ w1 = w ∧ Bd r 0 127 ∧ True) := by
  refine CtI.of RX6 [(0, .ref h0), (1, .int x_0), (2, .int x_1)] (Nat.le_of_ble_eq_true rfl) rfl (by decide) rfl ?_
  intro p e s m args below meth c E hr
  have J16 : ∀ n : Nat, Bd x_0 0 6 → Bd x_1 1 60 → ∀ x3 : Int32, Bd x3 0 127 → ∀ x5 : Int32, Bd x5 0 7 → Mu x5 7 n → J p l e rm_X6_thingsHolding s m args below meth c 0 0 (MQ below (QcI D dA G (fun r v1 w1 => v1 = v ∧ w1 = w ∧ Bd r 0 127 ∧ True)) args s 0 0 (dm G)) D dA G (dm G) s.heap 5 v w [(0, .ref h0), (1, .int x_0), (2, .int x_1), (3, .int x3), (4, .int x5)] 16 [] := by
    intro n
    induction n with
    | zero => intro b1 b2 x3 b4 x5 b6 hm; exact hm.zero b6 (by decide)
    | succ n ih16 =>
      intro b1 b2 x3 b4 x5 b6 hmu16
      have J44 : Bd x_0 0 6 → Bd x_1 1 60 → ∀ x9 : Int32, Bd x9 0 127 → Bd x5 0 6 → J p l e rm_X6_thingsHolding s m args below meth c 0 0 (MQ below (QcI D dA G (fun r v1 w1 => v1 = v ∧ w1 = w ∧ Bd r 0 127 ∧ True)) args s 0 0 (dm G)) D dA G (dm G) s.heap 5 v w [(0, .ref h0), (1, .int x_0), (2, .int x_1), (3, .int x9), (4, .int x5)] 44 [] := by
        intro b7 b8 x9 b10 b11
        refine J_iinc E 4 1 (fun z => [(4, .int z), (0, .ref h0), (1, .int x_0), (2, .int x_1), (3, .int x9)]) dX6_thingsHolding_44 rfl (by decide) (by decide) (fun _ => rfl) (fun x12 e13 => ?_)
        have b14 : Bd x12 1 7 := (Bd.add e13 b11 (Bd.lit 1 1 (by decide)) (by decide)).w _ _ (by decide)
        refine J_goto E 16 dX6_thingsHolding_47 (by decide) ?_
        exact J.sub [1, 2, 3, 4, 0] rfl (ih16 b7 b8 x9 b10 x12 (b14.w 0 7 (by decide)) (Mu.step hmu16 e13 b11 (Bd.lit 1 1 (by decide)) (by decide)))
      refine J_iload E dX6_thingsHolding_16 4 rfl ?_
      refine J_aload_n E dX6_thingsHolding_18 0 rfl ?_
      refine J_getI E in_X6 rfl (S_X6.h S0) 0 (by decide) wd191 rfl dX6_thingsHolding_19 (fun x15 e16 => ?_)
      have b17 : Bd x15 0 7 := Ok.fd hOk e16 (S_X6.h S0) rfl
      refine J_icmp_ge E 50 dX6_thingsHolding_22 (by decide) (fun c18 => ?_) (fun c18 => ?_)
      · refine J_iload_n E dX6_thingsHolding_50 3 rfl ?_
        exact J_iret E hr dX6_thingsHolding_51 ⟨rfl, rfl, b4, trivial⟩
      · have b19 : Bd x5 0 6 := Bd.lt_l (nle c18) b6 b17 6 (by decide)
        have b20 : Bd x15 1 7 := Bd.lt_r (nle c18) b6 b17 1 (by decide)
        refine J_aload_n E dX6_thingsHolding_25 0 rfl ?_
        refine J_iload E dX6_thingsHolding_26 4 rfl ?_
        refine J_iload_n E dX6_thingsHolding_28 1 rfl ?_
        refine J_iload_n E dX6_thingsHolding_29 2 rfl ?_
        refine J_callVI E cal_X6_holdsFor wd692 rfl (S_X6.h S0) [.int x5, .int x_0, .int x_1] [] (ct_X6_holdsFor l D dA G v w (hOk) h0 S0 x5 b19 x_0 b1 x_1 b2) rfl rfl (Nat.le_of_ble_eq_true rfl) ⟨rfl, rfl⟩ ⟨Nat.le_of_ble_eq_true rfl, Nat.le_of_ble_eq_true rfl⟩ dX6_thingsHolding_30 (fun x24 v21 w22 p23 => ?_)
        rw [p23.1, p23.2.1]
        have b25 : Bd x24 0 60 := p23.2.2.1
        refine J_iload_n E dX6_thingsHolding_33 2 rfl ?_
        refine J_icmp_lt E 44 dX6_thingsHolding_34 (by decide) (fun c26 => ?_) (fun c26 => ?_)
        · have b27 : Bd x24 0 59 := Bd.lt_l c26 b25 b2 59 (by decide)
          exact J.sub [0, 1, 2, 3, 4] rfl (J44 b1 b2 x3 b4 b19)
        · have b28 : Bd x24 1 60 := Bd.le_r (nlt c26) b2 b25 1 (by decide)
          refine J_iload_n E dX6_thingsHolding_37 3 rfl ?_
          refine J_iconst E 1 dX6_thingsHolding_38 (by decide) ?_
          refine J_iload E dX6_thingsHolding_39 4 rfl ?_
          refine J_ishl E dX6_thingsHolding_41 (fun x29 e30 => ?_)
          have b31 : Bd x29 1 64 := Bd.shl1 e30 b19 6 (by decide)
          refine J_ior E dX6_thingsHolding_42 (fun x32 e33 => ?_)
          have b34 : Bd x32 0 127 := Bd.or e33 b4 b31 7 (by decide)
          refine J_istore_n E [(3, .int x32), (0, .ref h0), (1, .int x_0), (2, .int x_1), (4, .int x5)] dX6_thingsHolding_43 rfl (by decide) rfl ?_
          exact J.sub [1, 2, 3, 0, 4] rfl (J44 b1 b2 x32 b34 b19)
  refine J_iconst E 0 dX6_thingsHolding_0 (by decide) ?_
  refine J_istore_n E [(3, .int 0), (0, .ref h0), (1, .int x_0), (2, .int x_1)] dX6_thingsHolding_1 rfl (by decide) rfl ?_
  refine J_aload_n E dX6_thingsHolding_2 1 rfl ?_
  refine J_getR E in_X6 rfl (S_X6.h S0) 6 (by decide) wd207 rfl dX6_thingsHolding_3 ?_
  refine J_iload_n E dX6_thingsHolding_6 2 rfl ?_
  refine J_callVNI E cal_X2_isHere wd496 rfl (S_X2.h (S_X6.f6 S0)) [.int x_0] [] (ct_X2_isHere l D dA G v w (hOk) (rf G h0 6) (S_X6.f6 S0) x_0 bx_0) rfl rfl (Nat.le_of_ble_eq_true rfl) ⟨rfl, rfl⟩ ⟨Nat.le_of_ble_eq_true rfl, Nat.le_of_ble_eq_true rfl⟩ dX6_thingsHolding_7 (fun x38 v35 w36 p37 => ?_)
  rw [p37.1, p37.2.1]
  have b39 : Bd x38 0 1 := p37.2.2.1
  refine J_if_eq E 50 dX6_thingsHolding_10 (by decide) (fun c40 => ?_) (fun c40 => ?_)
  · have b41 : Bd x38 0 0 := Bd.eq_l c40 b39 (Bd.lit 0 0 (by decide)) 0 0 (by decide)
    refine J_iload_n E dX6_thingsHolding_50 0 rfl ?_
    exact J_iret E hr dX6_thingsHolding_51 ⟨rfl, rfl, ((Bd.lit 0 0 (by decide)).w 0 127 (by decide)), trivial⟩
  · have b42 : Bd x38 1 1 := (Bd.ne_lo c40 b39 (Bd.lit 0 0 (by decide))).w _ _ (by decide)
    refine J_iconst E 0 dX6_thingsHolding_13 (by decide) ?_
    refine J_istore E [(4, .int 0), (3, .int 0), (0, .ref h0), (1, .int x_0), (2, .int x_1)] dX6_thingsHolding_14 (by decide) rfl ?_
    exact J.sub [2, 3, 4, 1, 0] rfl (J16 8 bx_0 bx_1 0 ((Bd.lit 0 0 (by decide)).w 0 127 (by decide)) 0 ((Bd.lit 0 0 (by decide)).w 0 7 (by decide)) (Mu.start _ (Bd.lit 0 0 (by decide)) (by decide)))

abbrev rm_X1_most : Room := { frames := 0, cells := 0, slots := 0, locals := 0 }
set_option maxHeartbeats 4000000 in
set_option maxRecDepth 100000 in
theorem ct_X1_most (l : Launch) (D : va_G) (dA : Nat → ClassId) (G : Gm) (v : Mv) (w : Mw) (hOk : Ok G v w) (h0 : Nat) (S0 : S_X1 G h0) (x_0 : Int32) (bx_0 : Bd x_0 0 7) (x_1 : Int32) (bx_1 : Bd x_1 0 127) : CtI l yX1_most cX1_most 3 (some .int) rm_X1_most D dA G [.ref h0, .int x_0, .int x_1] v w (fun r v1 w1 => v1 = v ∧ w1 = w ∧ True ∧ True) := by
  refine CtI.of RX1 [(0, .ref h0), (1, .int x_0), (2, .int x_1)] (Nat.le_of_ble_eq_true rfl) rfl (by decide) rfl ?_
  intro p e s m args below meth c E hr
  refine J_iload_n E dX1_most_0 1 rfl ?_
  refine J_aload_n E dX1_most_1 0 rfl ?_
  refine J_getI E in_X1 rfl (S_X1.h S0) 2 (by decide) wd285 rfl dX1_most_2 (fun x1 e2 => ?_)
  have b3 : Bd x1 0 7 := Ok.fd hOk e2 (S_X1.h S0) rfl
  refine J_icmp_ge E 23 dX1_most_5 (by decide) (fun c4 => ?_) (fun c4 => ?_)
  · refine J_iconst E 0 dX1_most_23 (by decide) ?_
    exact J_iret E hr dX1_most_24 ⟨rfl, rfl, trivial, trivial⟩
  · have b5 : Bd x_0 0 6 := Bd.lt_l (nle c4) bx_0 b3 6 (by decide)
    have b6 : Bd x1 1 7 := Bd.lt_r (nle c4) bx_0 b3 1 (by decide)
    refine J_aload_n E dX1_most_8 0 rfl ?_
    refine J_getR E in_X1 rfl (S_X1.h S0) 1 (by decide) wd284 rfl dX1_most_9 ?_
    refine J_iload_n E dX1_most_12 1 rfl ?_
    refine J_sipush E 128 dX1_most_13 (by decide) ?_
    refine J_imul E dX1_most_16 (fun x7 e8 => ?_)
    have b9 : Bd x7 0 768 := Bd.mul e8 b5 (Bd.lit 128 128 (by decide)) (by decide)
    refine J_iload_n E dX1_most_17 2 rfl ?_
    refine J_iadd E dX1_most_18 (fun x10 e11 => ?_)
    have b12 : Bd x10 0 895 := (Bd.add e11 b9 bx_1 (by decide)).w _ _ (by decide)
    refine J_iald1 E (S_X1.f1 S0) (Bd.in b12 (by decide)) dX1_most_19 (fun x13 e14 => ?_)
    refine J_goto E 24 dX1_most_20 (by decide) ?_
    exact J_iret E hr dX1_most_24 ⟨rfl, rfl, trivial, trivial⟩

abbrev rm_X1_best : Room := { frames := 1, cells := 0, slots := 0, locals := 22 }
set_option maxHeartbeats 4000000 in
set_option maxRecDepth 100000 in
theorem ct_X1_best (l : Launch) (D : va_G) (dA : Nat → ClassId) (G : Gm) (v : Mv) (w : Mw) (hOk : Ok G v w) (h0 : Nat) (S0 : S_X1 G h0) (x_0 : Int32) (bx_0 : Bd x_0 0 6) (x_1 : Int32) (bx_1 : Bd x_1 0 127) : CtI l yX1_best cX1_best 6 (some .int) rm_X1_best D dA G [.ref h0, .int x_0, .int x_1] v w (fun r v1 w1 => v1 = v ∧ w1 = w ∧ True ∧ True) := by
  refine CtI.of RX1 [(0, .ref h0), (1, .int x_0), (2, .int x_1)] (Nat.le_of_ble_eq_true rfl) rfl (by decide) rfl ?_
  intro p e s m args below meth c E hr
  have J22 : ∀ n : Nat, Bd x_0 0 6 → Bd x_1 0 127 → ∀ x3 : Int32, ∀ x4 : Int32, Bd x4 0 127 → ∀ x6 : Int32, Bd x6 0 7 → Mu x6 7 n → J p l e rm_X1_best s m args below meth c 0 0 (MQ below (QcI D dA G (fun r v1 w1 => v1 = v ∧ w1 = w ∧ True ∧ True)) args s 0 0 (dm G)) D dA G (dm G) s.heap 6 v w [(0, .ref h0), (1, .int x_0), (2, .int x_1), (3, .int x3), (4, .int x4), (5, .int x6)] 22 [] := by
    intro n
    induction n with
    | zero => intro b1 b2 x3 x4 b5 x6 b7 hm; exact hm.zero b7 (by decide)
    | succ n ih22 =>
      intro b1 b2 x3 x4 b5 x6 b7 hmu22
      have J63 : Bd x_0 0 6 → Bd x_1 0 127 → Bd x4 0 127 → Bd x6 0 6 → J p l e rm_X1_best s m args below meth c 0 0 (MQ below (QcI D dA G (fun r v1 w1 => v1 = v ∧ w1 = w ∧ True ∧ True)) args s 0 0 (dm G)) D dA G (dm G) s.heap 6 v w [(0, .ref h0), (1, .int x_0), (2, .int x_1), (3, .int x3), (4, .int x4), (5, .int x6)] 63 [] := by
        intro b8 b9 b10 b11
        refine J_iinc E 5 1 (fun z => [(5, .int z), (0, .ref h0), (1, .int x_0), (2, .int x_1), (3, .int x3), (4, .int x4)]) dX1_best_63 rfl (by decide) (by decide) (fun _ => rfl) (fun x12 e13 => ?_)
        have b14 : Bd x12 1 7 := (Bd.add e13 b11 (Bd.lit 1 1 (by decide)) (by decide)).w _ _ (by decide)
        refine J_goto E 22 dX1_best_66 (by decide) ?_
        exact J.sub [1, 2, 3, 4, 5, 0] rfl (ih22 b8 b9 x3 x4 b10 x12 (b14.w 0 7 (by decide)) (Mu.step hmu22 e13 b11 (Bd.lit 1 1 (by decide)) (by decide)))
      refine J_iload E dX1_best_22 5 rfl ?_
      refine J_bipush E 7 dX1_best_24 (by decide) ?_
      refine J_icmp_ge E 69 dX1_best_26 (by decide) (fun c15 => ?_) (fun c15 => ?_)
      · have b16 : Bd x6 7 7 := Bd.le_r c15 (Bd.lit 7 7 (by decide)) b7 7 (by decide)
        refine J_iload_n E dX1_best_69 3 rfl ?_
        exact J_iret E hr dX1_best_70 ⟨rfl, rfl, trivial, trivial⟩
      · have b17 : Bd x6 0 6 := Bd.lt_l (nle c15) b7 (Bd.lit 7 7 (by decide)) 6 (by decide)
        refine J_iload E dX1_best_29 4 rfl ?_
        refine J_iload E dX1_best_31 5 rfl ?_
        refine J_ishr E dX1_best_33 (fun x18 e19 => ?_)
        have b20 : Bd x18 0 127 := Bd.shr e19 b5 (by decide)
        refine J_iconst E 1 dX1_best_34 (by decide) ?_
        refine J_iand E dX1_best_35 (fun x21 e22 => ?_)
        have b23 : Bd x21 0 1 := Bd.and_r e22 (Bd.lit 1 1 (by decide)) (by decide)
        refine J_iconst E 1 dX1_best_36 (by decide) ?_
        refine J_icmp_ne E 63 dX1_best_37 (by decide) (fun c24 => ?_) (fun c24 => ?_)
        · have b25 : Bd x21 0 0 := (Bd.ne_hi c24 b23 (Bd.lit 1 1 (by decide))).w _ _ (by decide)
          exact J.sub [0, 1, 2, 3, 4, 5] rfl (J63 b1 b2 b5 b17)
        · have b26 : Bd x21 1 1 := Bd.eq_l c24 b23 (Bd.lit 1 1 (by decide)) 1 1 (by decide)
          refine J_aload_n E dX1_best_40 0 rfl ?_
          refine J_iload_n E dX1_best_41 1 rfl ?_
          refine J_iconst E 1 dX1_best_42 (by decide) ?_
          refine J_iadd E dX1_best_43 (fun x27 e28 => ?_)
          have b29 : Bd x27 1 7 := (Bd.add e28 b1 (Bd.lit 1 1 (by decide)) (by decide)).w _ _ (by decide)
          refine J_iload_n E dX1_best_44 2 rfl ?_
          refine J_iconst E 1 dX1_best_45 (by decide) ?_
          refine J_iload E dX1_best_46 5 rfl ?_
          refine J_ishl E dX1_best_48 (fun x30 e31 => ?_)
          have b32 : Bd x30 1 64 := Bd.shl1 e31 b17 6 (by decide)
          refine J_iconst E (-1) dX1_best_49 (by decide) ?_
          refine J_ixor E dX1_best_50 (fun x33 e34 => ?_)
          refine J_iand E dX1_best_51 (fun x35 e36 => ?_)
          have b37 : Bd x35 0 127 := Bd.and_l e36 b2 (by decide)
          refine J_callVI E cal_X1_most wd697 rfl (S_X1.h S0) [.int x27, .int x35] [] (ct_X1_most l D dA G v w (hOk) h0 S0 x27 (b29.w 0 7 (by decide)) x35 b37) rfl rfl (Nat.le_of_ble_eq_true rfl) ⟨rfl, rfl⟩ ⟨Nat.le_of_ble_eq_true rfl, Nat.le_of_ble_eq_true rfl⟩ dX1_best_52 (fun x41 v38 w39 p40 => ?_)
          rw [p40.1, p40.2.1]
          refine J_iload_n E dX1_best_55 3 rfl ?_
          refine J_icmp_ne E 63 dX1_best_56 (by decide) (fun c42 => ?_) (fun c42 => ?_)
          · exact J.sub [0, 1, 2, 3, 4, 5] rfl (J63 b1 b2 b5 b17)
          · refine J_iload_n E dX1_best_59 3 rfl ?_
            refine J_iconst E 1 dX1_best_60 (by decide) ?_
            refine J_iadd E dX1_best_61 (fun x43 e44 => ?_)
            exact J_iret E hr dX1_best_62 ⟨rfl, rfl, trivial, trivial⟩
  refine J_aload_n E dX1_best_0 0 rfl ?_
  refine J_iload_n E dX1_best_1 1 rfl ?_
  refine J_iconst E 1 dX1_best_2 (by decide) ?_
  refine J_iadd E dX1_best_3 (fun x45 e46 => ?_)
  have b47 : Bd x45 1 7 := (Bd.add e46 bx_0 (Bd.lit 1 1 (by decide)) (by decide)).w _ _ (by decide)
  refine J_iload_n E dX1_best_4 2 rfl ?_
  refine J_callVI E cal_X1_most wd697 rfl (S_X1.h S0) [.int x45, .int x_1] [] (ct_X1_most l D dA G v w (hOk) h0 S0 x45 (b47.w 0 7 (by decide)) x_1 bx_1) rfl rfl (Nat.le_of_ble_eq_true rfl) ⟨rfl, rfl⟩ ⟨Nat.le_of_ble_eq_true rfl, Nat.le_of_ble_eq_true rfl⟩ dX1_best_5 (fun x51 v48 w49 p50 => ?_)
  rw [p50.1, p50.2.1]
  refine J_istore_n E [(3, .int x51), (0, .ref h0), (1, .int x_0), (2, .int x_1)] dX1_best_8 rfl (by decide) rfl ?_
  refine J_aload_n E dX1_best_9 1 rfl ?_
  refine J_getR E in_X1 rfl (S_X1.h S0) 0 (by decide) wd283 rfl dX1_best_10 ?_
  refine J_iload_n E dX1_best_13 2 rfl ?_
  refine J_iald1 E (S_X1.f0 S0) (Bd.in bx_0 (by decide)) dX1_best_14 (fun x52 e53 => ?_)
  refine J_iload_n E dX1_best_15 3 rfl ?_
  refine J_iand E dX1_best_16 (fun x54 e55 => ?_)
  have b56 : Bd x54 0 127 := Bd.and_r e55 bx_1 (by decide)
  refine J_istore E [(4, .int x54), (3, .int x51), (0, .ref h0), (1, .int x_0), (2, .int x_1)] dX1_best_17 (by decide) rfl ?_
  refine J_iconst E 0 dX1_best_19 (by decide) ?_
  refine J_istore E [(5, .int 0), (4, .int x54), (3, .int x51), (0, .ref h0), (1, .int x_0), (2, .int x_1)] dX1_best_20 (by decide) rfl ?_
  exact J.sub [3, 4, 5, 2, 1, 0] rfl (J22 8 bx_0 bx_1 x51 x54 b56 0 ((Bd.lit 0 0 (by decide)).w 0 7 (by decide)) (Mu.start _ (Bd.lit 0 0 (by decide)) (by decide)))

abbrev rm_X1_fill : Room := { frames := 5, cells := 0, slots := 0, locals := 115 }
set_option maxHeartbeats 4000000 in
set_option maxRecDepth 100000 in
theorem ct_X1_fill (l : Launch) (D : va_G) (dA : Nat → ClassId) (G : Gm) (v : Mv) (w : Mw) (hOk : Ok G v w) (h0 : Nat) (S0 : S_X1 G h0) (h_0 : Nat) (S_0 : S_X6 G h_0) (x_1 : Int32) (bx_1 : Bd x_1 1 60) : CtV l yX1_fill cX1_fill 5 none rm_X1_fill D dA G [.ref h0, .ref h_0, .int x_1] v w (fun v1 w1 => Ok G v1 w1 ∧ Kp G v v1 ∧ Fr G [1, 107, 996] v v1) := by
  refine CtV.of RX1 [(0, .ref h0), (1, .ref h_0), (2, .int x_1)] (Nat.le_of_ble_eq_true rfl) rfl (by decide) rfl ?_
  intro p e s m args below meth c E hr
  have J15 : ∀ n : Nat, ∀ (v1 : Mv) (w2 : Mw), Ok G v1 w2 → Kp G v v1 → Fr G [1, 107, 996] v v1 → Bd x_1 1 60 → ∀ x7 : Int32, Bd x7 (-1) 6 → Md x7 (-1) n → J p l e rm_X1_fill s m args below meth c 0 0 (MQ below (QcV D dA G (fun v1 w1 => Ok G v1 w1 ∧ Kp G v v1 ∧ Fr G [1, 107, 996] v v1)) args s 0 0 (dm G)) D dA G (dm G) s.heap 5 v1 w2 [(0, .ref h0), (1, .ref h_0), (2, .int x_1), (3, .int x7)] 15 [] := by
    intro n
    induction n with
    | zero => intro v1 w2 o3 k4 f5 b6 x7 b8 hm; exact hm.zero b8 (by decide)
    | succ n ih15 =>
      intro v1 w2 o3 k4 f5 b6 x7 b8 hmu15
      have J34 : ∀ n : Nat, ∀ (v9 : Mv) (w10 : Mw), Ok G v9 w10 → Kp G v v9 → Fr G [1, 107, 996] v v9 → Bd x_1 1 60 → Bd x7 0 6 → ∀ x16 : Int32, Bd x16 0 128 → Mu x16 128 n → J p l e rm_X1_fill s m args below meth c 0 0 (MQ below (QcV D dA G (fun v1 w1 => Ok G v1 w1 ∧ Kp G v v1 ∧ Fr G [1, 107, 996] v v1)) args s 0 0 (dm G)) D dA G (dm G) s.heap 5 v9 w10 [(0, .ref h0), (1, .ref h_0), (2, .int x_1), (3, .int x7), (4, .int x16)] 34 [] := by
        intro n
        induction n with
        | zero => intro v9 w10 o11 k12 f13 b14 b15 x16 b17 hm; exact hm.zero b17 (by decide)
        | succ n ih34 =>
          intro v9 w10 o11 k12 f13 b14 b15 x16 b17 hmu34
          refine J_iload E dX1_fill_34 4 rfl ?_
          refine J_iconst E 1 dX1_fill_36 (by decide) ?_
          refine J_aload_n E dX1_fill_37 1 rfl ?_
          refine J_getIN E in_X6 rfl (S_X6.h S_0) 0 (by decide) wd192 rfl dX1_fill_38 (fun x18 e19 => ?_)
          have b20 : Bd x18 0 7 := Ok.fd o11 e19 (S_X6.h S_0) rfl
          refine J_ishl E dX1_fill_41 (fun x21 e22 => ?_)
          have b23 : Bd x21 1 128 := Bd.shl1 e22 b20 7 (by decide)
          refine J_icmp_ge E 71 dX1_fill_42 (by decide) (fun c24 => ?_) (fun c24 => ?_)
          · have b25 : Bd x16 1 128 := Bd.le_r c24 b23 b17 1 (by decide)
            refine J_iinc E 3 (-1) (fun z => [(3, .int z), (0, .ref h0), (1, .ref h_0), (2, .int x_1), (4, .int x16)]) dX1_fill_71 rfl (by decide) (by decide) (fun _ => rfl) (fun x26 e27 => ?_)
            have b28 : Bd x26 (-1) 5 := (Bd.add e27 b15 (Bd.lit (-1) (-1) (by decide)) (by decide)).w _ _ (by decide)
            refine J_goto E 15 dX1_fill_74 (by decide) ?_
            exact J.sub [1, 2, 3, 0] rfl (ih15 v9 w10 (o11) (k12) f13 b14 x26 (b28.w (-1) 6 (by decide)) (Md.step hmu15 e27 b15 (Bd.lit (-1) (-1) (by decide)) (by decide)))
          · have b29 : Bd x16 0 127 := Bd.lt_l (nle c24) b17 b23 127 (by decide)
            refine J_aload_n E dX1_fill_45 0 rfl ?_
            refine J_getR E in_X1 rfl (S_X1.h S0) 1 (by decide) wd284 rfl dX1_fill_46 ?_
            refine J_iload_n E dX1_fill_49 3 rfl ?_
            refine J_sipush E 128 dX1_fill_50 (by decide) ?_
            refine J_imul E dX1_fill_53 (fun x30 e31 => ?_)
            have b32 : Bd x30 0 768 := Bd.mul e31 b15 (Bd.lit 128 128 (by decide)) (by decide)
            refine J_iload E dX1_fill_54 4 rfl ?_
            refine J_iadd E dX1_fill_56 (fun x33 e34 => ?_)
            have b35 : Bd x33 0 895 := (Bd.add e34 b32 b29 (by decide)).w _ _ (by decide)
            refine J_aload_n E dX1_fill_57 0 rfl ?_
            refine J_iload_n E dX1_fill_58 3 rfl ?_
            refine J_iload E dX1_fill_59 4 rfl ?_
            refine J_callVI E cal_X1_best wd693 rfl (S_X1.h S0) [.int x7, .int x16] [.int x33, .ref (rf G h0 1)] (ct_X1_best l D dA G v9 w10 (o11) h0 S0 x7 b15 x16 b29) rfl rfl (Nat.le_of_ble_eq_true rfl) ⟨rfl, rfl⟩ ⟨Nat.le_of_ble_eq_true rfl, Nat.le_of_ble_eq_true rfl⟩ dX1_fill_61 (fun x39 v36 w37 p38 => ?_)
            rw [p38.1, p38.2.1]
            refine J_iast1 E (S_X1.f1 S0) (Bd.in b35 (by decide)) dX1_fill_64 (fun v40 e41 => ?_)
            have o42 : Ok G v40 w10 := by rw [e41]; exact Ok.sv o11 (S_X1.f1 S0) b35 (Bd.any x39) 0 896 (by decide) (by decide +kernel)
            have k43 : Kp G v v40 := by rw [e41]; exact Kp.sv k12 (S_X1.f1 S0) b35 0 896 I0 I1 (by decide) (by decide +kernel)
            have f44 : Fr G [1, 107, 996] v v40 := Fr.st f13 e41 (S_X1.f1 S0) rfl
            have e45 : x18 = v40 h_0 0 := by rw [e41, stv_a (tg_ne (S_X6.h S_0) ((S_X1.f1 S0)) rfl)]; exact e19
            refine J_iinc E 4 1 (fun z => [(4, .int z), (0, .ref h0), (1, .ref h_0), (2, .int x_1), (3, .int x7)]) dX1_fill_65 rfl (by decide) (by decide) (fun _ => rfl) (fun x46 e47 => ?_)
            have b48 : Bd x46 1 128 := (Bd.add e47 b29 (Bd.lit 1 1 (by decide)) (by decide)).w _ _ (by decide)
            refine J_goto E 34 dX1_fill_68 (by decide) ?_
            exact J.sub [1, 2, 3, 4, 0] rfl (ih34 v40 w10 (o42) (k43) f44 b14 b15 x46 (b48.w 0 128 (by decide)) (Mu.step hmu34 e47 b29 (Bd.lit 1 1 (by decide)) (by decide)))
      refine J_iload_n E dX1_fill_15 3 rfl ?_
      refine J_if_lt E 77 dX1_fill_16 (by decide) (fun c49 => ?_) (fun c49 => ?_)
      · have b50 : Bd x7 (-1) (-1) := Bd.lt_l c49 b8 (Bd.lit 0 0 (by decide)) (-1) (by decide)
        exact J_vret E hr dX1_fill_77 ⟨o3, k4, f5⟩
      · have b51 : Bd x7 0 6 := Bd.le_r (nlt c49) (Bd.lit 0 0 (by decide)) b8 0 (by decide)
        refine J_aload_n E dX1_fill_19 0 rfl ?_
        refine J_getR E in_X1 rfl (S_X1.h S0) 0 (by decide) wd283 rfl dX1_fill_20 ?_
        refine J_iload_n E dX1_fill_23 3 rfl ?_
        refine J_aload_n E dX1_fill_24 1 rfl ?_
        refine J_iload_n E dX1_fill_25 3 rfl ?_
        refine J_iload_n E dX1_fill_26 2 rfl ?_
        refine J_callVNI E cal_X6_thingsHolding wd688 rfl (S_X6.h S_0) [.int x7, .int x_1] [.int x7, .ref (rf G h0 0)] (ct_X6_thingsHolding l D dA G v1 w2 (o3) h_0 S_0 x7 b51 x_1 b6) rfl rfl (Nat.le_of_ble_eq_true rfl) ⟨rfl, rfl⟩ ⟨Nat.le_of_ble_eq_true rfl, Nat.le_of_ble_eq_true rfl⟩ dX1_fill_27 (fun x55 v52 w53 p54 => ?_)
        rw [p54.1, p54.2.1]
        have b56 : Bd x55 0 127 := p54.2.2.1
        refine J_iast1 E (S_X1.f0 S0) (Bd.in b51 (by decide)) dX1_fill_30 (fun v57 e58 => ?_)
        have o59 : Ok G v57 w2 := by rw [e58]; exact Ok.sv o3 (S_X1.f0 S0) b51 b56 0 7 (by decide) (by decide +kernel)
        have k60 : Kp G v v57 := by rw [e58]; exact Kp.sv k4 (S_X1.f0 S0) b51 0 7 0 127 (by decide) (by decide +kernel)
        have f61 : Fr G [1, 107, 996] v v57 := Fr.st f5 e58 (S_X1.f0 S0) rfl
        refine J_iconst E 0 dX1_fill_31 (by decide) ?_
        refine J_istore E [(4, .int 0), (0, .ref h0), (1, .ref h_0), (2, .int x_1), (3, .int x7)] dX1_fill_32 (by decide) rfl ?_
        exact J.sub [1, 2, 3, 4, 0] rfl (J34 129 v57 w2 (o59) (k60) f61 b6 b51 0 ((Bd.lit 0 0 (by decide)).w 0 128 (by decide)) (Mu.start _ (Bd.lit 0 0 (by decide)) (by decide)))
  refine J_aload_n E dX1_fill_0 0 rfl ?_
  refine J_aload_n E dX1_fill_1 1 rfl ?_
  refine J_getIN E in_X6 rfl (S_X6.h S_0) 3 (by decide) wd199 rfl dX1_fill_2 (fun x62 e63 => ?_)
  have b64 : Bd x62 0 7 := Ok.fd hOk e63 (S_X6.h S_0) rfl
  refine J_pI E in_X1 rfl (S_X1.h S0) 2 (by decide) wd285 tyX1 tyX1_ok nmX1 rfl rfl .int (by decide +kernel) rfl rfl dX1_fill_5 (fun v65 e66 => ?_)
  have o67 : Ok G v65 w := Ok.pf hOk e66 (S_X1.h S0) rfl b64
  have k68 : Kp G v v65 := Kp.pf Kp.rf e66 (S_X1.h S0) rfl
  have e69 : x62 = v65 h_0 3 := by rw [e66, stv_k (by decide)]; exact e63
  have f70 : Fr G [1, 107, 996] v v65 := Fr.st Fr.rf e66 (S_X1.h S0) rfl
  have e71 : x62 = v65 h0 2 := by rw [e66, stv_s]
  refine J_aload_n E dX1_fill_8 0 rfl ?_
  refine J_getI E in_X1 rfl (S_X1.h S0) 2 (by decide) wd285 rfl dX1_fill_9 (fun x72 e73 => ?_)
  rw [show x72 = x62 from e73.trans (e71).symm]
  refine J_iconst E 1 dX1_fill_12 (by decide) ?_
  refine J_isub E dX1_fill_13 (fun x74 e75 => ?_)
  have b76 : Bd x74 (-1) 6 := (Bd.sub e75 b64 (Bd.lit 1 1 (by decide)) (by decide)).w _ _ (by decide)
  refine J_istore_n E [(3, .int x74), (0, .ref h0), (1, .ref h_0), (2, .int x_1)] dX1_fill_14 rfl (by decide) rfl ?_
  exact J.sub [1, 2, 3, 0] rfl (J15 8 v65 w (o67) (k68) f70 bx_1 x74 b76 (Md.start _ b76 (by decide)))

abbrev rm_X1_firstThing : Room := { frames := 1, cells := 0, slots := 0, locals := 22 }
set_option maxHeartbeats 4000000 in
set_option maxRecDepth 100000 in
theorem ct_X1_firstThing (l : Launch) (D : va_G) (dA : Nat → ClassId) (G : Gm) (v : Mv) (w : Mw) (hOk : Ok G v w) (h0 : Nat) (S0 : S_X1 G h0) (x_0 : Int32) (bx_0 : Bd x_0 0 6) (x_1 : Int32) (bx_1 : Bd x_1 0 127) : CtI l yX1_firstThing cX1_firstThing 6 (some .int) rm_X1_firstThing D dA G [.ref h0, .int x_0, .int x_1] v w (fun r v1 w1 => v1 = v ∧ w1 = w ∧ Bd r (-1) 6 ∧ True) := by
  refine CtI.of RX1 [(0, .ref h0), (1, .int x_0), (2, .int x_1)] (Nat.le_of_ble_eq_true rfl) rfl (by decide) rfl ?_
  intro p e s m args below meth c E hr
  have J34 : ∀ n : Nat, Bd x_0 0 6 → Bd x_1 0 127 → ∀ x3 : Int32, ∀ x4 : Int32, Bd x4 0 127 → ∀ x6 : Int32, Bd x6 0 7 → Mu x6 7 n → J p l e rm_X1_firstThing s m args below meth c 0 0 (MQ below (QcI D dA G (fun r v1 w1 => v1 = v ∧ w1 = w ∧ Bd r (-1) 6 ∧ True)) args s 0 0 (dm G)) D dA G (dm G) s.heap 6 v w [(0, .ref h0), (1, .int x_0), (2, .int x_1), (3, .int x3), (4, .int x4), (5, .int x6)] 34 [] := by
    intro n
    induction n with
    | zero => intro b1 b2 x3 x4 b5 x6 b7 hm; exact hm.zero b7 (by decide)
    | succ n ih34 =>
      intro b1 b2 x3 x4 b5 x6 b7 hmu34
      have J76 : Bd x_0 0 6 → Bd x_1 0 127 → Bd x4 0 127 → Bd x6 0 6 → J p l e rm_X1_firstThing s m args below meth c 0 0 (MQ below (QcI D dA G (fun r v1 w1 => v1 = v ∧ w1 = w ∧ Bd r (-1) 6 ∧ True)) args s 0 0 (dm G)) D dA G (dm G) s.heap 6 v w [(0, .ref h0), (1, .int x_0), (2, .int x_1), (3, .int x3), (4, .int x4), (5, .int x6)] 76 [] := by
        intro b8 b9 b10 b11
        refine J_iinc E 5 1 (fun z => [(5, .int z), (0, .ref h0), (1, .int x_0), (2, .int x_1), (3, .int x3), (4, .int x4)]) dX1_firstThing_76 rfl (by decide) (by decide) (fun _ => rfl) (fun x12 e13 => ?_)
        have b14 : Bd x12 1 7 := (Bd.add e13 b11 (Bd.lit 1 1 (by decide)) (by decide)).w _ _ (by decide)
        refine J_goto E 34 dX1_firstThing_79 (by decide) ?_
        exact J.sub [1, 2, 3, 4, 5, 0] rfl (ih34 b8 b9 x3 x4 b10 x12 (b14.w 0 7 (by decide)) (Mu.step hmu34 e13 b11 (Bd.lit 1 1 (by decide)) (by decide)))
      refine J_iload E dX1_firstThing_34 5 rfl ?_
      refine J_bipush E 7 dX1_firstThing_36 (by decide) ?_
      refine J_icmp_ge E 82 dX1_firstThing_38 (by decide) (fun c15 => ?_) (fun c15 => ?_)
      · have b16 : Bd x6 7 7 := Bd.le_r c15 (Bd.lit 7 7 (by decide)) b7 7 (by decide)
        refine J_iconst E (-1) dX1_firstThing_82 (by decide) ?_
        exact J_iret E hr dX1_firstThing_83 ⟨rfl, rfl, ((Bd.lit (-1) (-1) (by decide)).w (-1) 6 (by decide)), trivial⟩
      · have b17 : Bd x6 0 6 := Bd.lt_l (nle c15) b7 (Bd.lit 7 7 (by decide)) 6 (by decide)
        refine J_iload E dX1_firstThing_41 4 rfl ?_
        refine J_iload E dX1_firstThing_43 5 rfl ?_
        refine J_ishr E dX1_firstThing_45 (fun x18 e19 => ?_)
        have b20 : Bd x18 0 127 := Bd.shr e19 b5 (by decide)
        refine J_iconst E 1 dX1_firstThing_46 (by decide) ?_
        refine J_iand E dX1_firstThing_47 (fun x21 e22 => ?_)
        have b23 : Bd x21 0 1 := Bd.and_r e22 (Bd.lit 1 1 (by decide)) (by decide)
        refine J_iconst E 1 dX1_firstThing_48 (by decide) ?_
        refine J_icmp_ne E 76 dX1_firstThing_49 (by decide) (fun c24 => ?_) (fun c24 => ?_)
        · have b25 : Bd x21 0 0 := (Bd.ne_hi c24 b23 (Bd.lit 1 1 (by decide))).w _ _ (by decide)
          exact J.sub [0, 1, 2, 3, 4, 5] rfl (J76 b1 b2 b5 b17)
        · have b26 : Bd x21 1 1 := Bd.eq_l c24 b23 (Bd.lit 1 1 (by decide)) 1 1 (by decide)
          refine J_aload_n E dX1_firstThing_52 0 rfl ?_
          refine J_iload_n E dX1_firstThing_53 1 rfl ?_
          refine J_iconst E 1 dX1_firstThing_54 (by decide) ?_
          refine J_iadd E dX1_firstThing_55 (fun x27 e28 => ?_)
          have b29 : Bd x27 1 7 := (Bd.add e28 b1 (Bd.lit 1 1 (by decide)) (by decide)).w _ _ (by decide)
          refine J_iload_n E dX1_firstThing_56 2 rfl ?_
          refine J_iconst E 1 dX1_firstThing_57 (by decide) ?_
          refine J_iload E dX1_firstThing_58 5 rfl ?_
          refine J_ishl E dX1_firstThing_60 (fun x30 e31 => ?_)
          have b32 : Bd x30 1 64 := Bd.shl1 e31 b17 6 (by decide)
          refine J_iconst E (-1) dX1_firstThing_61 (by decide) ?_
          refine J_ixor E dX1_firstThing_62 (fun x33 e34 => ?_)
          refine J_iand E dX1_firstThing_63 (fun x35 e36 => ?_)
          have b37 : Bd x35 0 127 := Bd.and_l e36 b2 (by decide)
          refine J_callVI E cal_X1_most wd697 rfl (S_X1.h S0) [.int x27, .int x35] [] (ct_X1_most l D dA G v w (hOk) h0 S0 x27 (b29.w 0 7 (by decide)) x35 b37) rfl rfl (Nat.le_of_ble_eq_true rfl) ⟨rfl, rfl⟩ ⟨Nat.le_of_ble_eq_true rfl, Nat.le_of_ble_eq_true rfl⟩ dX1_firstThing_64 (fun x41 v38 w39 p40 => ?_)
          rw [p40.1, p40.2.1]
          refine J_iconst E 1 dX1_firstThing_67 (by decide) ?_
          refine J_iadd E dX1_firstThing_68 (fun x42 e43 => ?_)
          refine J_iload_n E dX1_firstThing_69 3 rfl ?_
          refine J_icmp_ne E 76 dX1_firstThing_70 (by decide) (fun c44 => ?_) (fun c44 => ?_)
          · exact J.sub [0, 1, 2, 3, 4, 5] rfl (J76 b1 b2 b5 b17)
          · refine J_iload E dX1_firstThing_73 5 rfl ?_
            exact J_iret E hr dX1_firstThing_75 ⟨rfl, rfl, (b17.w (-1) 6 (by decide)), trivial⟩
  refine J_aload_n E dX1_firstThing_0 0 rfl ?_
  refine J_iload_n E dX1_firstThing_1 1 rfl ?_
  refine J_iload_n E dX1_firstThing_2 2 rfl ?_
  refine J_callVI E cal_X1_most wd697 rfl (S_X1.h S0) [.int x_0, .int x_1] [] (ct_X1_most l D dA G v w (hOk) h0 S0 x_0 (bx_0.w 0 7 (by decide)) x_1 bx_1) rfl rfl (Nat.le_of_ble_eq_true rfl) ⟨rfl, rfl⟩ ⟨Nat.le_of_ble_eq_true rfl, Nat.le_of_ble_eq_true rfl⟩ dX1_firstThing_3 (fun x48 v45 w46 p47 => ?_)
  rw [p47.1, p47.2.1]
  refine J_istore_n E [(3, .int x48), (0, .ref h0), (1, .int x_0), (2, .int x_1)] dX1_firstThing_6 rfl (by decide) rfl ?_
  refine J_aload_n E dX1_firstThing_7 1 rfl ?_
  refine J_iload_n E dX1_firstThing_8 2 rfl ?_
  refine J_iconst E 1 dX1_firstThing_9 (by decide) ?_
  refine J_iadd E dX1_firstThing_10 (fun x49 e50 => ?_)
  have b51 : Bd x49 1 7 := (Bd.add e50 bx_0 (Bd.lit 1 1 (by decide)) (by decide)).w _ _ (by decide)
  refine J_iload_n E dX1_firstThing_11 3 rfl ?_
  refine J_callVI E cal_X1_most wd697 rfl (S_X1.h S0) [.int x49, .int x_1] [] (ct_X1_most l D dA G v w (hOk) h0 S0 x49 (b51.w 0 7 (by decide)) x_1 bx_1) rfl rfl (Nat.le_of_ble_eq_true rfl) ⟨rfl, rfl⟩ ⟨Nat.le_of_ble_eq_true rfl, Nat.le_of_ble_eq_true rfl⟩ dX1_firstThing_12 (fun x55 v52 w53 p54 => ?_)
  rw [p54.1, p54.2.1]
  refine J_iload_n E dX1_firstThing_15 0 rfl ?_
  refine J_icmp_ne E 21 dX1_firstThing_16 (by decide) (fun c56 => ?_) (fun c56 => ?_)
  · refine J_aload_n E dX1_firstThing_21 1 rfl ?_
    refine J_getR E in_X1 rfl (S_X1.h S0) 0 (by decide) wd283 rfl dX1_firstThing_22 ?_
    refine J_iload_n E dX1_firstThing_25 2 rfl ?_
    refine J_iald1 E (S_X1.f0 S0) (Bd.in bx_0 (by decide)) dX1_firstThing_26 (fun x57 e58 => ?_)
    refine J_iload_n E dX1_firstThing_27 3 rfl ?_
    refine J_iand E dX1_firstThing_28 (fun x59 e60 => ?_)
    have b61 : Bd x59 0 127 := Bd.and_r e60 bx_1 (by decide)
    refine J_istore E [(4, .int x59), (3, .int x48), (0, .ref h0), (1, .int x_0), (2, .int x_1)] dX1_firstThing_29 (by decide) rfl ?_
    refine J_iconst E 0 dX1_firstThing_31 (by decide) ?_
    refine J_istore E [(5, .int 0), (4, .int x59), (3, .int x48), (0, .ref h0), (1, .int x_0), (2, .int x_1)] dX1_firstThing_32 (by decide) rfl ?_
    exact J.sub [3, 4, 5, 2, 1, 0] rfl (J34 8 bx_0 bx_1 x48 x59 b61 0 ((Bd.lit 0 0 (by decide)).w 0 7 (by decide)) (Mu.start _ (Bd.lit 0 0 (by decide)) (by decide)))
  · refine J_iconst E (-1) dX1_firstThing_19 (by decide) ?_
    exact J_iret E hr dX1_firstThing_20 ⟨rfl, rfl, ((Bd.lit (-1) (-1) (by decide)).w (-1) 6 (by decide)), trivial⟩

abbrev rm_X1_firstThingOf : Room := { frames := 2, cells := 0, slots := 0, locals := 47 }
set_option maxHeartbeats 4000000 in
set_option maxRecDepth 100000 in
theorem ct_X1_firstThingOf (l : Launch) (D : va_G) (dA : Nat → ClassId) (G : Gm) (v : Mv) (w : Mw) (hOk : Ok G v w) (h0 : Nat) (S0 : S_X1 G h0) (x_0 : Int32) (bx_0 : Bd x_0 0 6) (x_1 : Int32) (bx_1 : Bd x_1 0 127) : CtI l yX1_firstThingOf cX1_firstThingOf 6 (some .int) rm_X1_firstThingOf D dA G [.ref h0, .int x_0, .int x_1] v w (fun r v1 w1 => v1 = v ∧ w1 = w ∧ True ∧ True) := by
  refine CtI.of RX1 [(0, .ref h0), (1, .int x_0), (2, .int x_1)] (Nat.le_of_ble_eq_true rfl) rfl (by decide) rfl ?_
  intro p e s m args below meth c E hr
  have J8 : ∀ n : Nat, Bd x_0 0 6 → ∀ x2 : Int32, Bd x2 0 127 → ∀ x4 : Int32, Bd x4 (-1) 6 → ∀ x6 : Int32, Bd x6 0 7 → Mu x6 7 n → J p l e rm_X1_firstThingOf s m args below meth c 0 0 (MQ below (QcI D dA G (fun r v1 w1 => v1 = v ∧ w1 = w ∧ True ∧ True)) args s 0 0 (dm G)) D dA G (dm G) s.heap 6 v w [(0, .ref h0), (1, .int x_0), (3, .int x2), (4, .int x4), (5, .int x6)] 8 [] := by
    intro n
    induction n with
    | zero => intro b1 x2 b3 x4 b5 x6 b7 hm; exact hm.zero b7 (by decide)
    | succ n ih8 =>
      intro b1 x2 b3 x4 b5 x6 b7 hmu8
      have J38 : Bd x_0 0 6 → ∀ x9 : Int32, Bd x9 0 127 → ∀ x11 : Int32, Bd x11 (-1) 6 → Bd x6 0 6 → J p l e rm_X1_firstThingOf s m args below meth c 0 0 (MQ below (QcI D dA G (fun r v1 w1 => v1 = v ∧ w1 = w ∧ True ∧ True)) args s 0 0 (dm G)) D dA G (dm G) s.heap 6 v w [(0, .ref h0), (1, .int x_0), (3, .int x9), (4, .int x11), (5, .int x6)] 38 [] := by
        intro b8 x9 b10 x11 b12 b13
        refine J_iinc E 4 1 (fun z => [(5, .int z), (0, .ref h0), (1, .int x_0), (3, .int x9), (4, .int x11)]) dX1_firstThingOf_38 rfl (by decide) (by decide) (fun _ => rfl) (fun x14 e15 => ?_)
        have b16 : Bd x14 1 7 := (Bd.add e15 b13 (Bd.lit 1 1 (by decide)) (by decide)).w _ _ (by decide)
        refine J_goto E 8 dX1_firstThingOf_41 (by decide) ?_
        exact J.sub [1, 2, 3, 4, 0] rfl (ih8 b8 x9 b10 x11 b12 x14 (b16.w 0 7 (by decide)) (Mu.step hmu8 e15 b13 (Bd.lit 1 1 (by decide)) (by decide)))
      refine J_iload E dX1_firstThingOf_8 4 rfl ?_
      refine J_iload_n E dX1_firstThingOf_10 1 rfl ?_
      refine J_icmp_gt E 44 dX1_firstThingOf_11 (by decide) (fun c17 => ?_) (fun c17 => ?_)
      · have b18 : Bd x6 1 7 := Bd.lt_r c17 b1 b7 1 (by decide)
        refine J_iload E dX1_firstThingOf_44 3 rfl ?_
        exact J_iret E hr dX1_firstThingOf_46 ⟨rfl, rfl, trivial, trivial⟩
      · have b19 : Bd x6 0 6 := Bd.le_l (nlt c17) b7 b1 6 (by decide)
        refine J_aload_n E dX1_firstThingOf_14 0 rfl ?_
        refine J_iload E dX1_firstThingOf_15 4 rfl ?_
        refine J_iload_n E dX1_firstThingOf_17 2 rfl ?_
        refine J_callVI E cal_X1_firstThing wd706 rfl (S_X1.h S0) [.int x6, .int x2] [] (ct_X1_firstThing l D dA G v w (hOk) h0 S0 x6 b19 x2 b3) rfl rfl (Nat.le_of_ble_eq_true rfl) ⟨rfl, rfl⟩ ⟨Nat.le_of_ble_eq_true rfl, Nat.le_of_ble_eq_true rfl⟩ dX1_firstThingOf_18 (fun x23 v20 w21 p22 => ?_)
        rw [p22.1, p22.2.1]
        have b24 : Bd x23 (-1) 6 := p22.2.2.1
        refine J_istore E [(4, .int x23), (0, .ref h0), (1, .int x_0), (3, .int x2), (5, .int x6)] dX1_firstThingOf_21 (by decide) rfl ?_
        refine J_iload E dX1_firstThingOf_23 0 rfl ?_
        refine J_iconst E (-1) dX1_firstThingOf_25 (by decide) ?_
        refine J_icmp_eq E 38 dX1_firstThingOf_26 (by decide) (fun c25 => ?_) (fun c25 => ?_)
        · have b26 : Bd x23 (-1) (-1) := Bd.eq_l c25 b24 (Bd.lit (-1) (-1) (by decide)) (-1) (-1) (by decide)
          exact J.sub [1, 2, 3, 0, 4] rfl (J38 b1 x2 b3 x23 (b26.w (-1) 6 (by decide)) b19)
        · have b27 : Bd x23 0 6 := (Bd.ne_lo c25 b24 (Bd.lit (-1) (-1) (by decide))).w _ _ (by decide)
          refine J_iload_n E dX1_firstThingOf_29 3 rfl ?_
          refine J_iconst E 1 dX1_firstThingOf_30 (by decide) ?_
          refine J_iload E dX1_firstThingOf_31 0 rfl ?_
          refine J_ishl E dX1_firstThingOf_33 (fun x28 e29 => ?_)
          have b30 : Bd x28 1 64 := Bd.shl1 e29 b27 6 (by decide)
          refine J_iconst E (-1) dX1_firstThingOf_34 (by decide) ?_
          refine J_ixor E dX1_firstThingOf_35 (fun x31 e32 => ?_)
          refine J_iand E dX1_firstThingOf_36 (fun x33 e34 => ?_)
          have b35 : Bd x33 0 127 := Bd.and_l e34 b3 (by decide)
          refine J_istore_n E [(3, .int x33), (4, .int x23), (0, .ref h0), (1, .int x_0), (5, .int x6)] dX1_firstThingOf_37 rfl (by decide) rfl ?_
          exact J.sub [2, 3, 0, 1, 4] rfl (J38 b1 x33 b35 x23 (b27.w (-1) 6 (by decide)) b19)
  refine J_iload_n E dX1_firstThingOf_0 2 rfl ?_
  refine J_istore_n E [(3, .int x_1), (0, .ref h0), (1, .int x_0), (2, .int x_1)] dX1_firstThingOf_1 rfl (by decide) rfl ?_
  refine J_iconst E (-1) dX1_firstThingOf_2 (by decide) ?_
  refine J_istore E [(4, .int (-1)), (3, .int x_1), (0, .ref h0), (1, .int x_0), (2, .int x_1)] dX1_firstThingOf_3 (by decide) rfl ?_
  refine J_iconst E 0 dX1_firstThingOf_5 (by decide) ?_
  refine J_istore E [(5, .int 0), (4, .int (-1)), (3, .int x_1), (0, .ref h0), (1, .int x_0), (2, .int x_1)] dX1_firstThingOf_6 (by decide) rfl ?_
  exact J.sub [3, 4, 2, 1, 0] rfl (J8 8 bx_0 x_1 bx_1 (-1) ((Bd.lit (-1) (-1) (by decide)).w (-1) 6 (by decide)) 0 ((Bd.lit 0 0 (by decide)).w 0 7 (by decide)) (Mu.start _ (Bd.lit 0 0 (by decide)) (by decide)))

abbrev rm_X2_copyFrom : Room := { frames := 0, cells := 0, slots := 0, locals := 0 }
set_option maxHeartbeats 4000000 in
set_option maxRecDepth 100000 in
theorem ct_X2_copyFrom (l : Launch) (D : va_G) (dA : Nat → ClassId) (G : Gm) (v : Mv) (w : Mw) (hOk : Ok G v w) (h0 : Nat) (S0 : S_X2 G h0) (h_0 : Nat) (S_0 : S_X2 G h_0) : CtV l yX2_copyFrom cX2_copyFrom 3 none rm_X2_copyFrom D dA G [.ref h0, .ref h_0] v w (fun v1 w1 => Ok G v1 w1 ∧ Kp G v v1 ∧ Fr G [2, 107] v v1) := by
  refine CtV.of RX2 [(0, .ref h0), (1, .ref h_0)] (Nat.le_of_ble_eq_true rfl) rfl (by decide) rfl ?_
  intro p e s m args below meth c E hr
  have J2 : ∀ n : Nat, ∀ (v1 : Mv) (w2 : Mw), Ok G v1 w2 → Kp G v v1 → Fr G [2, 107] v v1 → ∀ x6 : Int32, Bd x6 0 7 → Mu x6 7 n → J p l e rm_X2_copyFrom s m args below meth c 0 0 (MQ below (QcV D dA G (fun v1 w1 => Ok G v1 w1 ∧ Kp G v v1 ∧ Fr G [2, 107] v v1)) args s 0 0 (dm G)) D dA G (dm G) s.heap 3 v1 w2 [(0, .ref h0), (1, .ref h_0), (2, .int x6)] 2 [] := by
    intro n
    induction n with
    | zero => intro v1 w2 o3 k4 f5 x6 b7 hm; exact hm.zero b7 (by decide)
    | succ n ih2 =>
      intro v1 w2 o3 k4 f5 x6 b7 hmu2
      refine J_iload_n E dX2_copyFrom_2 2 rfl ?_
      refine J_bipush E 7 dX2_copyFrom_3 (by decide) ?_
      refine J_icmp_ge E 38 dX2_copyFrom_5 (by decide) (fun c8 => ?_) (fun c8 => ?_)
      · have b9 : Bd x6 7 7 := Bd.le_r c8 (Bd.lit 7 7 (by decide)) b7 7 (by decide)
        refine J_aload_n E dX2_copyFrom_38 0 rfl ?_
        refine J_aload_n E dX2_copyFrom_39 1 rfl ?_
        refine J_getI E in_X2 rfl (S_X2.h S_0) 2 (by decide) wd157 rfl dX2_copyFrom_40 (fun x10 e11 => ?_)
        refine J_pI E in_X2 rfl (S_X2.h S0) 2 (by decide) wd157 tyX2 tyX2_ok nmX2 rfl rfl .int (by decide +kernel) rfl rfl dX2_copyFrom_43 (fun v12 e13 => ?_)
        have o14 : Ok G v12 w2 := Ok.pf o3 e13 (S_X2.h S0) rfl (Bd.any x10)
        have k15 : Kp G v v12 := Kp.pf k4 e13 (S_X2.h S0) rfl
        have f16 : Fr G [2, 107] v v12 := Fr.st f5 e13 (S_X2.h S0) rfl
        have e17 : x10 = v12 h0 2 := by rw [e13, stv_s]
        refine J_aload_n E dX2_copyFrom_46 0 rfl ?_
        refine J_aload_n E dX2_copyFrom_47 1 rfl ?_
        refine J_getI E in_X2 rfl (S_X2.h S_0) 3 (by decide) wd160 rfl dX2_copyFrom_48 (fun x18 e19 => ?_)
        refine J_pI E in_X2 rfl (S_X2.h S0) 3 (by decide) wd160 tyX2 tyX2_ok nmX2 rfl rfl .int (by decide +kernel) rfl rfl dX2_copyFrom_51 (fun v20 e21 => ?_)
        have o22 : Ok G v20 w2 := Ok.pf o14 e21 (S_X2.h S0) rfl (Bd.any x18)
        have k23 : Kp G v v20 := Kp.pf k15 e21 (S_X2.h S0) rfl
        have e24 : x10 = v20 h0 2 := by rw [e21, stv_k (by decide)]; exact e17
        have f25 : Fr G [2, 107] v v20 := Fr.st f16 e21 (S_X2.h S0) rfl
        have e26 : x18 = v20 h0 3 := by rw [e21, stv_s]
        exact J_vret E hr dX2_copyFrom_54 ⟨o22, k23, f25⟩
      · have b27 : Bd x6 0 6 := Bd.lt_l (nle c8) b7 (Bd.lit 7 7 (by decide)) 6 (by decide)
        refine J_aload_n E dX2_copyFrom_8 0 rfl ?_
        refine J_getR E in_X2 rfl (S_X2.h S0) 0 (by decide) wd150 rfl dX2_copyFrom_9 ?_
        refine J_iload_n E dX2_copyFrom_12 2 rfl ?_
        refine J_aload_n E dX2_copyFrom_13 1 rfl ?_
        refine J_getR E in_X2 rfl (S_X2.h S_0) 0 (by decide) wd150 rfl dX2_copyFrom_14 ?_
        refine J_iload_n E dX2_copyFrom_17 2 rfl ?_
        refine J_iald1 E (S_X2.f0 S_0) (Bd.in b27 (by decide)) dX2_copyFrom_18 (fun x28 e29 => ?_)
        refine J_iast1 E (S_X2.f0 S0) (Bd.in b27 (by decide)) dX2_copyFrom_19 (fun v30 e31 => ?_)
        have o32 : Ok G v30 w2 := by rw [e31]; exact Ok.sv o3 (S_X2.f0 S0) b27 (Bd.any x28) 0 7 (by decide) (by decide +kernel)
        have k33 : Kp G v v30 := by rw [e31]; exact Kp.sv k4 (S_X2.f0 S0) b27 0 7 I0 I1 (by decide) (by decide +kernel)
        have f34 : Fr G [2, 107] v v30 := Fr.st f5 e31 (S_X2.f0 S0) rfl
        refine J_aload_n E dX2_copyFrom_20 0 rfl ?_
        refine J_getR E in_X2 rfl (S_X2.h S0) 1 (by decide) wd152 rfl dX2_copyFrom_21 ?_
        refine J_iload_n E dX2_copyFrom_24 2 rfl ?_
        refine J_aload_n E dX2_copyFrom_25 1 rfl ?_
        refine J_getR E in_X2 rfl (S_X2.h S_0) 1 (by decide) wd152 rfl dX2_copyFrom_26 ?_
        refine J_iload_n E dX2_copyFrom_29 2 rfl ?_
        refine J_iald1 E (S_X2.f1 S_0) (Bd.in b27 (by decide)) dX2_copyFrom_30 (fun x35 e36 => ?_)
        refine J_iast1 E (S_X2.f1 S0) (Bd.in b27 (by decide)) dX2_copyFrom_31 (fun v37 e38 => ?_)
        have o39 : Ok G v37 w2 := by rw [e38]; exact Ok.sv o32 (S_X2.f1 S0) b27 (Bd.any x35) 0 7 (by decide) (by decide +kernel)
        have k40 : Kp G v v37 := by rw [e38]; exact Kp.sv k33 (S_X2.f1 S0) b27 0 7 I0 I1 (by decide) (by decide +kernel)
        have f41 : Fr G [2, 107] v v37 := Fr.st f34 e38 (S_X2.f1 S0) rfl
        refine J_iinc E 2 1 (fun z => [(2, .int z), (0, .ref h0), (1, .ref h_0)]) dX2_copyFrom_32 rfl (by decide) (by decide) (fun _ => rfl) (fun x42 e43 => ?_)
        have b44 : Bd x42 1 7 := (Bd.add e43 b27 (Bd.lit 1 1 (by decide)) (by decide)).w _ _ (by decide)
        refine J_goto E 2 dX2_copyFrom_35 (by decide) ?_
        exact J.sub [1, 2, 0] rfl (ih2 v37 w2 (o39) (k40) f41 x42 (b44.w 0 7 (by decide)) (Mu.step hmu2 e43 b27 (Bd.lit 1 1 (by decide)) (by decide)))
  refine J_iconst E 0 dX2_copyFrom_0 (by decide) ?_
  refine J_istore_n E [(2, .int 0), (0, .ref h0), (1, .ref h_0)] dX2_copyFrom_1 rfl (by decide) rfl ?_
  exact J.sub [1, 2, 0] rfl (J2 8 v w (hOk) (Kp.rf) Fr.rf 0 ((Bd.lit 0 0 (by decide)).w 0 7 (by decide)) (Mu.start _ (Bd.lit 0 0 (by decide)) (by decide)))

abbrev rm_J6_bitCount_0f7a4 : Room := { frames := 0, cells := 0, slots := 0, locals := 0 }
set_option maxHeartbeats 4000000 in
set_option maxRecDepth 100000 in
theorem ct_J6_bitCount_0f7a4 (l : Launch) (D : va_G) (dA : Nat → ClassId) (G : Gm) (v : Mv) (w : Mw) (hOk : Ok G v w) (x_0 : Int32) : CtI l yJ6_bitCount_0f7a4 cJ6_bitCount_0f7a4 1 (some .int) rm_J6_bitCount_0f7a4 D dA G [.int x_0] v w (fun r v1 w1 => v1 = v ∧ w1 = w ∧ Bd r 0 63 ∧ True) := by
  refine CtI.ofF RJ6 [(0, .int x_0)] (Nat.le_of_ble_eq_true rfl) rfl (by decide +kernel) rfl ?_
  intro p e s m args below meth c E hr
  refine J_iload_n E dJ6_bitCount_0f7a4_0 0 rfl ?_
  refine J_iload_n E dJ6_bitCount_0f7a4_1 0 rfl ?_
  refine J_iconst E 1 dJ6_bitCount_0f7a4_2 (by decide) ?_
  refine J_iushr E dJ6_bitCount_0f7a4_3 (fun x1 e2 => ?_)
  refine J_ldcw E wd628 dJ6_bitCount_0f7a4_4 ?_
  refine J_iand E dJ6_bitCount_0f7a4_7 (fun x3 e4 => ?_)
  have b5 : Bd x3 0 1431655765 := Bd.and_r e4 (Bd.lit 1431655765 1431655765 (by decide)) (by decide)
  refine J_isub E dJ6_bitCount_0f7a4_8 (fun x6 e7 => ?_)
  refine J_istore_n E [(0, .int x6)] dJ6_bitCount_0f7a4_9 rfl (by decide) rfl ?_
  refine J_iload_n E dJ6_bitCount_0f7a4_10 0 rfl ?_
  refine J_ldcw E wd629 dJ6_bitCount_0f7a4_11 ?_
  refine J_iand E dJ6_bitCount_0f7a4_14 (fun x8 e9 => ?_)
  have b10 : Bd x8 0 858993459 := Bd.and_r e9 (Bd.lit 858993459 858993459 (by decide)) (by decide)
  refine J_iload_n E dJ6_bitCount_0f7a4_15 0 rfl ?_
  refine J_iconst E 2 dJ6_bitCount_0f7a4_16 (by decide) ?_
  refine J_iushr E dJ6_bitCount_0f7a4_17 (fun x11 e12 => ?_)
  refine J_ldcw E wd629 dJ6_bitCount_0f7a4_18 ?_
  refine J_iand E dJ6_bitCount_0f7a4_21 (fun x13 e14 => ?_)
  have b15 : Bd x13 0 858993459 := Bd.and_r e14 (Bd.lit 858993459 858993459 (by decide)) (by decide)
  refine J_iadd E dJ6_bitCount_0f7a4_22 (fun x16 e17 => ?_)
  have b18 : Bd x16 0 1717986918 := (Bd.add e17 b10 b15 (by decide)).w _ _ (by decide)
  refine J_istore_n E [(0, .int x16)] dJ6_bitCount_0f7a4_23 rfl (by decide) rfl ?_
  refine J_iload_n E dJ6_bitCount_0f7a4_24 0 rfl ?_
  refine J_iload_n E dJ6_bitCount_0f7a4_25 0 rfl ?_
  refine J_iconst E 4 dJ6_bitCount_0f7a4_26 (by decide) ?_
  refine J_iushr E dJ6_bitCount_0f7a4_27 (fun x19 e20 => ?_)
  refine J_iadd E dJ6_bitCount_0f7a4_28 (fun x21 e22 => ?_)
  refine J_ldcw E wd630 dJ6_bitCount_0f7a4_29 ?_
  refine J_iand E dJ6_bitCount_0f7a4_32 (fun x23 e24 => ?_)
  have b25 : Bd x23 0 252645135 := Bd.and_r e24 (Bd.lit 252645135 252645135 (by decide)) (by decide)
  refine J_istore_n E [(0, .int x23)] dJ6_bitCount_0f7a4_33 rfl (by decide) rfl ?_
  refine J_iload_n E dJ6_bitCount_0f7a4_34 0 rfl ?_
  refine J_iload_n E dJ6_bitCount_0f7a4_35 0 rfl ?_
  refine J_bipush E 8 dJ6_bitCount_0f7a4_36 (by decide) ?_
  refine J_iushr E dJ6_bitCount_0f7a4_38 (fun x26 e27 => ?_)
  refine J_iadd E dJ6_bitCount_0f7a4_39 (fun x28 e29 => ?_)
  refine J_istore_n E [(0, .int x28)] dJ6_bitCount_0f7a4_40 rfl (by decide) rfl ?_
  refine J_iload_n E dJ6_bitCount_0f7a4_41 0 rfl ?_
  refine J_iload_n E dJ6_bitCount_0f7a4_42 0 rfl ?_
  refine J_bipush E 16 dJ6_bitCount_0f7a4_43 (by decide) ?_
  refine J_iushr E dJ6_bitCount_0f7a4_45 (fun x30 e31 => ?_)
  refine J_iadd E dJ6_bitCount_0f7a4_46 (fun x32 e33 => ?_)
  refine J_istore_n E [(0, .int x32)] dJ6_bitCount_0f7a4_47 rfl (by decide) rfl ?_
  refine J_iload_n E dJ6_bitCount_0f7a4_48 0 rfl ?_
  refine J_bipush E 63 dJ6_bitCount_0f7a4_49 (by decide) ?_
  refine J_iand E dJ6_bitCount_0f7a4_51 (fun x34 e35 => ?_)
  have b36 : Bd x34 0 63 := Bd.and_r e35 (Bd.lit 63 63 (by decide)) (by decide)
  exact J_iret E hr dJ6_bitCount_0f7a4_52 ⟨rfl, rfl, b36, trivial⟩

abbrev rm_X2_countHere : Room := { frames := 1, cells := 0, slots := 0, locals := 20 }
set_option maxHeartbeats 4000000 in
set_option maxRecDepth 100000 in
theorem ct_X2_countHere (l : Launch) (D : va_G) (dA : Nat → ClassId) (G : Gm) (v : Mv) (w : Mw) (hOk : Ok G v w) (h0 : Nat) (S0 : S_X2 G h0) : CtI l yX2_countHere cX2_countHere 1 (some .int) rm_X2_countHere D dA G [.ref h0] v w (fun r v1 w1 => v1 = v ∧ w1 = w ∧ True ∧ True) := by
  refine CtI.of RX2 [(0, .ref h0)] (Nat.le_of_ble_eq_true rfl) rfl (by decide) rfl ?_
  intro p e s m args below meth c E hr
  refine J_aload_n E dX2_countHere_0 0 rfl ?_
  refine J_getI E in_X2 rfl (S_X2.h S0) 2 (by decide) wd157 rfl dX2_countHere_1 (fun x1 e2 => ?_)
  refine J_callSI E cal_J6_bitCount_0f7a4 wd625 [.int x1] [] (ct_J6_bitCount_0f7a4 l D dA G v w (hOk) x1) rfl rfl (Nat.le_of_ble_eq_true rfl) ⟨rfl, rfl⟩ ⟨Nat.le_of_ble_eq_true rfl, Nat.le_of_ble_eq_true rfl⟩ dX2_countHere_4 (fun x6 v3 w4 p5 => ?_)
  rw [p5.1, p5.2.1]
  have b7 : Bd x6 0 63 := p5.2.2.1
  exact J_iret E hr dX2_countHere_7 ⟨rfl, rfl, trivial, trivial⟩

abbrev rm_X2_lose : Room := { frames := 0, cells := 0, slots := 0, locals := 0 }
set_option maxHeartbeats 4000000 in
set_option maxRecDepth 100000 in
theorem ct_X2_lose (l : Launch) (D : va_G) (dA : Nat → ClassId) (G : Gm) (v : Mv) (w : Mw) (hOk : Ok G v w) (h0 : Nat) (S0 : S_X2 G h0) (x_0 : Int32) (bx_0 : Bd x_0 0 6) : CtV l yX2_lose cX2_lose 2 none rm_X2_lose D dA G [.ref h0, .int x_0] v w (fun v1 w1 => Ok G v1 w1 ∧ Kp G v v1 ∧ Fr G [2, 107] v v1) := by
  refine CtV.of RX2 [(0, .ref h0), (1, .int x_0)] (Nat.le_of_ble_eq_true rfl) rfl (by decide) rfl ?_
  intro p e s m args below meth c E hr
  refine J_aload_n E dX2_lose_0 0 rfl ?_
  refine J_dup E dX2_lose_1 rfl ?_
  refine J_getI E in_X2 rfl (S_X2.h S0) 2 (by decide) wd157 rfl dX2_lose_2 (fun x1 e2 => ?_)
  refine J_iconst E 1 dX2_lose_5 (by decide) ?_
  refine J_iload_n E dX2_lose_6 1 rfl ?_
  refine J_ishl E dX2_lose_7 (fun x3 e4 => ?_)
  have b5 : Bd x3 1 64 := Bd.shl1 e4 bx_0 6 (by decide)
  refine J_iconst E (-1) dX2_lose_8 (by decide) ?_
  refine J_ixor E dX2_lose_9 (fun x6 e7 => ?_)
  refine J_iand E dX2_lose_10 (fun x8 e9 => ?_)
  refine J_pI E in_X2 rfl (S_X2.h S0) 2 (by decide) wd157 tyX2 tyX2_ok nmX2 rfl rfl .int (by decide +kernel) rfl rfl dX2_lose_11 (fun v10 e11 => ?_)
  have o12 : Ok G v10 w := Ok.pf hOk e11 (S_X2.h S0) rfl (Bd.any x8)
  have k13 : Kp G v v10 := Kp.pf Kp.rf e11 (S_X2.h S0) rfl
  have f14 : Fr G [2, 107] v v10 := Fr.st Fr.rf e11 (S_X2.h S0) rfl
  have e15 : x8 = v10 h0 2 := by rw [e11, stv_s]
  refine J_aload_n E dX2_lose_14 0 rfl ?_
  refine J_getR E in_X2 rfl (S_X2.h S0) 1 (by decide) wd152 rfl dX2_lose_15 ?_
  refine J_iload_n E dX2_lose_18 1 rfl ?_
  refine J_iconst E (-1) dX2_lose_19 (by decide) ?_
  refine J_iast1 E (S_X2.f1 S0) (Bd.in bx_0 (by decide)) dX2_lose_20 (fun v16 e17 => ?_)
  have o18 : Ok G v16 w := by rw [e17]; exact Ok.sv o12 (S_X2.f1 S0) bx_0 (Bd.lit (-1) (-1) (by decide)) 0 7 (by decide) (by decide +kernel)
  have k19 : Kp G v v16 := by rw [e17]; exact Kp.sv k13 (S_X2.f1 S0) bx_0 0 7 (-1) (-1) (by decide) (by decide +kernel)
  have f20 : Fr G [2, 107] v v16 := Fr.st f14 e17 (S_X2.f1 S0) rfl
  have e21 : x8 = v16 h0 2 := by rw [e17, stv_a (tg_ne (S_X2.h S0) ((S_X2.f1 S0)) rfl)]; exact e15
  exact J_vret E hr dX2_lose_21 ⟨o18, k19, f20⟩

abbrev rm_X2_growOlder : Room := { frames := 1, cells := 0, slots := 0, locals := 21 }
set_option maxHeartbeats 4000000 in
set_option maxRecDepth 100000 in
theorem ct_X2_growOlder (l : Launch) (D : va_G) (dA : Nat → ClassId) (G : Gm) (v : Mv) (w : Mw) (hOk : Ok G v w) (h0 : Nat) (S0 : S_X2 G h0) (x_0 : Int32) (bx_0 : Bd x_0 0 6) : CtV l yX2_growOlder cX2_growOlder 2 none rm_X2_growOlder D dA G [.ref h0, .int x_0] v w (fun v1 w1 => Ok G v1 w1 ∧ Kp G v v1 ∧ Fr G [107] v v1) := by
  refine CtV.of RX2 [(0, .ref h0), (1, .int x_0)] (Nat.le_of_ble_eq_true rfl) rfl (by decide) rfl ?_
  intro p e s m args below meth c E hr
  refine J_aload_n E dX2_growOlder_0 0 rfl ?_
  refine J_getR E in_X2 rfl (S_X2.h S0) 0 (by decide) wd150 rfl dX2_growOlder_1 ?_
  refine J_iload_n E dX2_growOlder_4 1 rfl ?_
  refine J_bipush E 99 dX2_growOlder_5 (by decide) ?_
  refine J_aload_n E dX2_growOlder_7 0 rfl ?_
  refine J_getR E in_X2 rfl (S_X2.h S0) 0 (by decide) wd150 rfl dX2_growOlder_8 ?_
  refine J_iload_n E dX2_growOlder_11 1 rfl ?_
  refine J_iald1 E (S_X2.f0 S0) (Bd.in bx_0 (by decide)) dX2_growOlder_12 (fun x1 e2 => ?_)
  refine J_iconst E 1 dX2_growOlder_13 (by decide) ?_
  refine J_iadd E dX2_growOlder_14 (fun x3 e4 => ?_)
  refine J_callSI E cal_J9_min_7cf53 wd558 [.int 99, .int x3] [.int x_0, .ref (rf G h0 0)] (ct_J9_min_7cf53 l D dA G v w (hOk) 99 x3) rfl rfl (Nat.le_of_ble_eq_true rfl) ⟨rfl, rfl⟩ ⟨Nat.le_of_ble_eq_true rfl, Nat.le_of_ble_eq_true rfl⟩ dX2_growOlder_15 (fun x8 v5 w6 p7 => ?_)
  rw [p7.1, p7.2.1]
  refine J_iast1 E (S_X2.f0 S0) (Bd.in bx_0 (by decide)) dX2_growOlder_18 (fun v9 e10 => ?_)
  have o11 : Ok G v9 w := by rw [e10]; exact Ok.sv hOk (S_X2.f0 S0) bx_0 (Bd.any x8) 0 7 (by decide) (by decide +kernel)
  have k12 : Kp G v v9 := by rw [e10]; exact Kp.sv Kp.rf (S_X2.f0 S0) bx_0 0 7 I0 I1 (by decide) (by decide +kernel)
  have f13 : Fr G [107] v v9 := Fr.st Fr.rf e10 (S_X2.f0 S0) rfl
  exact J_vret E hr dX2_growOlder_19 ⟨o11, k12, f13⟩

abbrev rm_X3_append : Room := { frames := 0, cells := 0, slots := 0, locals := 0 }
set_option maxHeartbeats 4000000 in
set_option maxRecDepth 100000 in
theorem ct_X3_append (l : Launch) (D : va_G) (dA : Nat → ClassId) (G : Gm) (v : Mv) (w : Mw) (hOk : Ok G v w) (h0 : Nat) (S0 : S_X3 G h0) (x_0 : Int32) (bx_0 : Bd x_0 0 127) (z_0 : Int32) (ez_0 : z_0 = v h0 1) (pre0 : Bd z_0 0 149) : CtI l yX3_append cX3_append 2 (some .int) rm_X3_append D dA G [.ref h0, .int x_0] v w (fun r v1 w1 => Ok G v1 w1 ∧ Kx G (fun a k => a = h0 ∧ k = 1) v v1 ∧ Bd r 1 150 ∧ Fr G [3, 250] v v1) := by
  refine CtI.of RX3 [(0, .ref h0), (1, .int x_0)] (Nat.le_of_ble_eq_true rfl) rfl (by decide) rfl ?_
  intro p e s m args below meth c E hr
  refine J_aload_n E dX3_append_0 0 rfl ?_
  refine J_getR E in_X3 rfl (S_X3.h S0) 0 (by decide) wd252 rfl dX3_append_1 ?_
  refine J_aload_n E dX3_append_4 0 rfl ?_
  refine J_getI E in_X3 rfl (S_X3.h S0) 1 (by decide) wd253 rfl dX3_append_5 (fun x1 e2 => ?_)
  rw [show x1 = z_0 from e2.trans (ez_0).symm]
  refine J_iload_n E dX3_append_8 1 rfl ?_
  refine J_iast1 E (S_X3.f0 S0) (Bd.in pre0 (by decide)) dX3_append_9 (fun v3 e4 => ?_)
  have o5 : Ok G v3 w := by rw [e4]; exact Ok.sv hOk (S_X3.f0 S0) pre0 bx_0 0 150 (by decide) (by decide +kernel)
  have k6 : Kx G (fun a k => a = h0 ∧ k = 1) v v3 := by rw [e4]; exact Kx.sv Kx.rf (S_X3.f0 S0) pre0 0 150 0 127 (by decide) (by decide +kernel)
  have f7 : Fr G [3, 250] v v3 := Fr.st Fr.rf e4 (S_X3.f0 S0) rfl
  have e8 : z_0 = v3 h0 1 := by rw [e4, stv_a (tg_ne (S_X3.h S0) ((S_X3.f0 S0)) rfl)]; exact ez_0
  refine J_aload_n E dX3_append_10 0 rfl ?_
  refine J_dup E dX3_append_11 rfl ?_
  refine J_getI E in_X3 rfl (S_X3.h S0) 1 (by decide) wd253 rfl dX3_append_12 (fun x9 e10 => ?_)
  rw [show x9 = z_0 from e10.trans (e8).symm]
  refine J_iconst E 1 dX3_append_15 (by decide) ?_
  refine J_iadd E dX3_append_16 (fun x11 e12 => ?_)
  have b13 : Bd x11 1 150 := (Bd.add e12 pre0 (Bd.lit 1 1 (by decide)) (by decide)).w _ _ (by decide)
  refine J_pI E in_X3 rfl (S_X3.h S0) 1 (by decide) wd253 tyX3 tyX3_ok nmX3 rfl rfl .int (by decide +kernel) rfl rfl dX3_append_17 (fun v14 e15 => ?_)
  have o16 : Ok G v14 w := Ok.pf o5 e15 (S_X3.h S0) rfl (b13.w 0 150 (by decide))
  have k17 : Kx G (fun a k => a = h0 ∧ k = 1) v v14 := Kx.here k6 e15 ⟨rfl, rfl⟩
  have f18 : Fr G [3, 250] v v14 := Fr.st f7 e15 (S_X3.h S0) rfl
  have e19 : x11 = v14 h0 1 := by rw [e15, stv_s]
  refine J_aload_n E dX3_append_20 0 rfl ?_
  refine J_getI E in_X3 rfl (S_X3.h S0) 1 (by decide) wd253 rfl dX3_append_21 (fun x20 e21 => ?_)
  rw [show x20 = x11 from e21.trans (e19).symm]
  exact J_iret E hr dX3_append_24 ⟨o16, k17, b13, f18⟩
