abbrev rm_J9_min_7cf53 : Room := { frames := 0, cells := 0, slots := 0, locals := 0 }
set_option maxHeartbeats 4000000 in
set_option maxRecDepth 100000 in
theorem ct_J9_min_7cf53 (l : Launch) (D : va_G) (dA : Nat → ClassId) (G : Gm) (v : Mv) (w : Mw) (hOk : Ok G v w) (x_0 : Int32) (x_1 : Int32) : CtI l yJ9_min_7cf53 cJ9_min_7cf53 2 (some .int) rm_J9_min_7cf53 D dA G [.int x_0, .int x_1] v w (fun r v1 w1 => v1 = v ∧ w1 = w ∧ True ∧ True) := by
  refine CtI.ofF RJ9 [(0, .int x_0), (1, .int x_1)] (Nat.le_of_ble_eq_true rfl) rfl (by decide +kernel) rfl ?_
  intro p e s m args below meth c E hr
  refine J_iload_n E dJ9_min_7cf53_0 0 rfl ?_
  refine J_iload_n E dJ9_min_7cf53_1 1 rfl ?_
  refine J_icmp_gt E 9 dJ9_min_7cf53_2 (by decide) (fun c1 => ?_) (fun c1 => ?_)
  · refine J_iload_n E dJ9_min_7cf53_9 1 rfl ?_
    exact J_iret E hr dJ9_min_7cf53_10 ⟨rfl, rfl, trivial, trivial⟩
  · refine J_iload_n E dJ9_min_7cf53_5 0 rfl ?_
    refine J_goto E 10 dJ9_min_7cf53_6 (by decide) ?_
    exact J_iret E hr dJ9_min_7cf53_10 ⟨rfl, rfl, trivial, trivial⟩

abbrev rm_X5_smith : Room := { frames := 0, cells := 0, slots := 0, locals := 0 }
set_option maxHeartbeats 4000000 in
set_option maxRecDepth 100000 in
theorem ct_X5_smith (l : Launch) (D : va_G) (dA : Nat → ClassId) (G : Gm) (v : Mv) (w : Mw) (hOk : Ok G v w) (x_0 : Int32) : CtI l yX5_smith cX5_smith 1 (some .int) rm_X5_smith D dA G [.int x_0] v w (fun r v1 w1 => v1 = v ∧ w1 = w ∧ True ∧ True) := by
  refine CtI.of RX5 [(0, .int x_0)] (Nat.le_of_ble_eq_true rfl) rfl (by decide) rfl ?_
  intro p e s m args below meth c E hr
  refine J_iload_n E dX5_smith_0 0 rfl ?_
  refine J_bipush E 8 dX5_smith_1 (by decide) ?_
  refine J_iadd E dX5_smith_3 (fun x1 e2 => ?_)
  exact J_iret E hr dX5_smith_4 ⟨rfl, rfl, trivial, trivial⟩

abbrev rm_X5_weak : Room := { frames := 0, cells := 0, slots := 0, locals := 0 }
set_option maxHeartbeats 4000000 in
set_option maxRecDepth 100000 in
theorem ct_X5_weak (l : Launch) (D : va_G) (dA : Nat → ClassId) (G : Gm) (v : Mv) (w : Mw) (hOk : Ok G v w) (x_0 : Int32) : CtI l yX5_weak cX5_weak 1 (some .int) rm_X5_weak D dA G [.int x_0] v w (fun r v1 w1 => v1 = v ∧ w1 = w ∧ True ∧ True) := by
  refine CtI.of RX5 [(0, .int x_0)] (Nat.le_of_ble_eq_true rfl) rfl (by decide) rfl ?_
  intro p e s m args below meth c E hr
  refine J_iload_n E dX5_weak_0 0 rfl ?_
  refine J_iconst E 2 dX5_weak_1 (by decide) ?_
  refine J_idiv E dX5_weak_2 (Bd.nz (Bd.lit 2 2 (by decide)) (by decide)) (fun x1 e2 => ?_)
  exact J_iret E hr dX5_weak_3 ⟨rfl, rfl, trivial, trivial⟩

abbrev rm_J9_max_7cf53 : Room := { frames := 0, cells := 0, slots := 0, locals := 0 }
set_option maxHeartbeats 4000000 in
set_option maxRecDepth 100000 in
theorem ct_J9_max_7cf53 (l : Launch) (D : va_G) (dA : Nat → ClassId) (G : Gm) (v : Mv) (w : Mw) (hOk : Ok G v w) (x_0 : Int32) (x_1 : Int32) : CtI l yJ9_max_7cf53 cJ9_max_7cf53 2 (some .int) rm_J9_max_7cf53 D dA G [.int x_0, .int x_1] v w (fun r v1 w1 => v1 = v ∧ w1 = w ∧ True ∧ True) := by
  refine CtI.ofF RJ9 [(0, .int x_0), (1, .int x_1)] (Nat.le_of_ble_eq_true rfl) rfl (by decide +kernel) rfl ?_
  intro p e s m args below meth c E hr
  refine J_iload_n E dJ9_max_7cf53_0 0 rfl ?_
  refine J_iload_n E dJ9_max_7cf53_1 1 rfl ?_
  refine J_icmp_lt E 9 dJ9_max_7cf53_2 (by decide) (fun c1 => ?_) (fun c1 => ?_)
  · refine J_iload_n E dJ9_max_7cf53_9 1 rfl ?_
    exact J_iret E hr dJ9_max_7cf53_10 ⟨rfl, rfl, trivial, trivial⟩
  · refine J_iload_n E dJ9_max_7cf53_5 0 rfl ?_
    refine J_goto E 10 dJ9_max_7cf53_6 (by decide) ?_
    exact J_iret E hr dJ9_max_7cf53_10 ⟨rfl, rfl, trivial, trivial⟩

abbrev rm_X5_oneLifts : Room := { frames := 1, cells := 0, slots := 0, locals := 21 }
set_option maxHeartbeats 4000000 in
set_option maxRecDepth 100000 in
theorem ct_X5_oneLifts (l : Launch) (D : va_G) (dA : Nat → ClassId) (G : Gm) (v : Mv) (w : Mw) (hOk : Ok G v w) (x_0 : Int32) (x_1 : Int32) (x_2 : Int32) : CtI l yX5_oneLifts cX5_oneLifts 4 (some .int) rm_X5_oneLifts D dA G [.int x_0, .int x_1, .int x_2] v w (fun r v1 w1 => v1 = v ∧ w1 = w ∧ True ∧ True) := by
  refine CtI.of RX5 [(0, .int x_0), (1, .int x_1), (2, .int x_2)] (Nat.le_of_ble_eq_true rfl) rfl (by decide) rfl ?_
  intro p e s m args below meth c E hr
  refine J_iconst E 2 dX5_oneLifts_0 (by decide) ?_
  refine J_iload_n E dX5_oneLifts_1 1 rfl ?_
  refine J_imul E dX5_oneLifts_2 (fun x1 e2 => ?_)
  refine J_iload_n E dX5_oneLifts_3 2 rfl ?_
  refine J_bipush E 30 dX5_oneLifts_4 (by decide) ?_
  refine J_callSI E cal_J9_min_7cf53 wd539 [.int x_2, .int 30] [.int x1] (ct_J9_min_7cf53 l D dA G v w (hOk) x_2 30) rfl rfl (Nat.le_of_ble_eq_true rfl) ⟨rfl, rfl⟩ ⟨Nat.le_of_ble_eq_true rfl, Nat.le_of_ble_eq_true rfl⟩ dX5_oneLifts_6 (fun x6 v3 w4 p5 => ?_)
  rw [p5.1, p5.2.1]
  refine J_iconst E 3 dX5_oneLifts_9 (by decide) ?_
  refine J_idiv E dX5_oneLifts_10 (Bd.nz (Bd.lit 3 3 (by decide)) (by decide)) (fun x7 e8 => ?_)
  refine J_iadd E dX5_oneLifts_11 (fun x9 e10 => ?_)
  refine J_istore_n E [(3, .int x9), (0, .int x_0), (1, .int x_1), (2, .int x_2)] dX5_oneLifts_12 rfl (by decide) rfl ?_
  refine J_iload_n E dX5_oneLifts_13 1 rfl ?_
  by_cases h11 : x_0.toInt = 1
  · refine J_tabIn E 1 48 dX5_oneLifts_14 h11 (by decide) (by decide) rfl (by decide) ?_
    have b12 : Bd x_0 1 1 := ⟨by omega, by omega⟩
    refine J_iload_n E dX5_oneLifts_48 0 rfl ?_
    refine J_callSI E cal_X5_smith wd545 [.int x9] [] (ct_X5_smith l D dA G v w (hOk) x9) rfl rfl (Nat.le_of_ble_eq_true rfl) ⟨rfl, rfl⟩ ⟨Nat.le_of_ble_eq_true rfl, Nat.le_of_ble_eq_true rfl⟩ dX5_oneLifts_49 (fun x16 v13 w14 p15 => ?_)
    rw [p15.1, p15.2.1]
    exact J_iret E hr dX5_oneLifts_52 ⟨rfl, rfl, trivial, trivial⟩
  by_cases h17 : x_0.toInt = 2
  · refine J_tabIn E 2 53 dX5_oneLifts_14 h17 (by decide) (by decide) rfl (by decide) ?_
    have b18 : Bd x_0 2 2 := ⟨by omega, by omega⟩
    refine J_iload_n E dX5_oneLifts_53 0 rfl ?_
    refine J_callSI E cal_X5_weak wd548 [.int x9] [] (ct_X5_weak l D dA G v w (hOk) x9) rfl rfl (Nat.le_of_ble_eq_true rfl) ⟨rfl, rfl⟩ ⟨Nat.le_of_ble_eq_true rfl, Nat.le_of_ble_eq_true rfl⟩ dX5_oneLifts_54 (fun x22 v19 w20 p21 => ?_)
    rw [p21.1, p21.2.1]
    exact J_iret E hr dX5_oneLifts_57 ⟨rfl, rfl, trivial, trivial⟩
  by_cases h23 : x_0.toInt = 3
  · refine J_tabIn E 3 58 dX5_oneLifts_14 h23 (by decide) (by decide) rfl (by decide) ?_
    have b24 : Bd x_0 3 3 := ⟨by omega, by omega⟩
    refine J_iload_n E dX5_oneLifts_58 3 rfl ?_
    refine J_bipush E 18 dX5_oneLifts_59 (by decide) ?_
    refine J_icmp_ge E 75 dX5_oneLifts_61 (by decide) (fun c25 => ?_) (fun c25 => ?_)
    · have b26 : Bd x_2 18 I1 := Bd.le_r c25 (Bd.lit 18 18 (by decide)) (Bd.any x_2) 18 (by decide)
      refine J_iload_n E dX5_oneLifts_75 0 rfl ?_
      exact J_iret E hr dX5_oneLifts_76 ⟨rfl, rfl, trivial, trivial⟩
    · have b27 : Bd x_2 I0 17 := Bd.lt_l (nle c25) (Bd.any x_2) (Bd.lit 18 18 (by decide)) 17 (by decide)
      refine J_iconst E 0 dX5_oneLifts_64 (by decide) ?_
      refine J_iload_n E dX5_oneLifts_65 0 rfl ?_
      refine J_bipush E 6 dX5_oneLifts_66 (by decide) ?_
      refine J_isub E dX5_oneLifts_68 (fun x28 e29 => ?_)
      refine J_callSI E cal_J9_max_7cf53 wd551 [.int 0, .int x28] [] (ct_J9_max_7cf53 l D dA G v w (hOk) 0 x28) rfl rfl (Nat.le_of_ble_eq_true rfl) ⟨rfl, rfl⟩ ⟨Nat.le_of_ble_eq_true rfl, Nat.le_of_ble_eq_true rfl⟩ dX5_oneLifts_69 (fun x33 v30 w31 p32 => ?_)
      rw [p32.1, p32.2.1]
      refine J_goto E 76 dX5_oneLifts_72 (by decide) ?_
      exact J_iret E hr dX5_oneLifts_76 ⟨rfl, rfl, trivial, trivial⟩
  by_cases h34 : x_0.toInt = 4
  · refine J_tabIn E 4 77 dX5_oneLifts_14 h34 (by decide) (by decide) rfl (by decide) ?_
    have b35 : Bd x_0 4 4 := ⟨by omega, by omega⟩
    refine J_iload_n E dX5_oneLifts_77 3 rfl ?_
    refine J_bipush E 10 dX5_oneLifts_78 (by decide) ?_
    refine J_irem E dX5_oneLifts_80 (Bd.nz (Bd.lit 10 10 (by decide)) (by decide)) (fun x36 e37 => ?_)
    have b38 : Bd x36 (-9) 9 := Bd.rem e37 (Bd.lit 10 10 (by decide)) (by decide)
    refine J_iconst E 5 dX5_oneLifts_81 (by decide) ?_
    refine J_icmp_ne E 94 dX5_oneLifts_82 (by decide) (fun c39 => ?_) (fun c39 => ?_)
    · refine J_iload_n E dX5_oneLifts_94 0 rfl ?_
      refine J_callSI E cal_X5_smith wd545 [.int x9] [] (ct_X5_smith l D dA G v w (hOk) x9) rfl rfl (Nat.le_of_ble_eq_true rfl) ⟨rfl, rfl⟩ ⟨Nat.le_of_ble_eq_true rfl, Nat.le_of_ble_eq_true rfl⟩ dX5_oneLifts_95 (fun x43 v40 w41 p42 => ?_)
      rw [p42.1, p42.2.1]
      exact J_iret E hr dX5_oneLifts_98 ⟨rfl, rfl, trivial, trivial⟩
    · have b44 : Bd x36 5 5 := Bd.eq_l c39 b38 (Bd.lit 5 5 (by decide)) 5 5 (by decide)
      refine J_iconst E 2 dX5_oneLifts_85 (by decide) ?_
      refine J_iload_n E dX5_oneLifts_86 0 rfl ?_
      refine J_callSI E cal_X5_smith wd545 [.int x9] [.int 2] (ct_X5_smith l D dA G v w (hOk) x9) rfl rfl (Nat.le_of_ble_eq_true rfl) ⟨rfl, rfl⟩ ⟨Nat.le_of_ble_eq_true rfl, Nat.le_of_ble_eq_true rfl⟩ dX5_oneLifts_87 (fun x48 v45 w46 p47 => ?_)
      rw [p47.1, p47.2.1]
      refine J_imul E dX5_oneLifts_90 (fun x49 e50 => ?_)
      refine J_goto E 98 dX5_oneLifts_91 (by decide) ?_
      exact J_iret E hr dX5_oneLifts_98 ⟨rfl, rfl, trivial, trivial⟩
  by_cases h51 : x_0.toInt = 5
  · refine J_tabIn E 5 99 dX5_oneLifts_14 h51 (by decide) (by decide) rfl (by decide) ?_
    have b52 : Bd x_0 5 5 := ⟨by omega, by omega⟩
    refine J_iconst E 0 dX5_oneLifts_99 (by decide) ?_
    refine J_iload_n E dX5_oneLifts_100 0 rfl ?_
    refine J_callSI E cal_X5_weak wd548 [.int x9] [.int 0] (ct_X5_weak l D dA G v w (hOk) x9) rfl rfl (Nat.le_of_ble_eq_true rfl) ⟨rfl, rfl⟩ ⟨Nat.le_of_ble_eq_true rfl, Nat.le_of_ble_eq_true rfl⟩ dX5_oneLifts_101 (fun x56 v53 w54 p55 => ?_)
    rw [p55.1, p55.2.1]
    refine J_iconst E 0 dX5_oneLifts_104 (by decide) ?_
    refine J_iload_n E dX5_oneLifts_105 3 rfl ?_
    refine J_bipush E 60 dX5_oneLifts_106 (by decide) ?_
    refine J_isub E dX5_oneLifts_108 (fun x57 e58 => ?_)
    refine J_callSI E cal_J9_max_7cf53 wd551 [.int 0, .int x57] [.int x56, .int 0] (ct_J9_max_7cf53 l D dA G v w (hOk) 0 x57) rfl rfl (Nat.le_of_ble_eq_true rfl) ⟨rfl, rfl⟩ ⟨Nat.le_of_ble_eq_true rfl, Nat.le_of_ble_eq_true rfl⟩ dX5_oneLifts_109 (fun x62 v59 w60 p61 => ?_)
    rw [p61.1, p61.2.1]
    refine J_iconst E 5 dX5_oneLifts_112 (by decide) ?_
    refine J_idiv E dX5_oneLifts_113 (Bd.nz (Bd.lit 5 5 (by decide)) (by decide)) (fun x63 e64 => ?_)
    refine J_isub E dX5_oneLifts_114 (fun x65 e66 => ?_)
    refine J_callSI E cal_J9_max_7cf53 wd551 [.int 0, .int x65] [] (ct_J9_max_7cf53 l D dA G v w (hOk) 0 x65) rfl rfl (Nat.le_of_ble_eq_true rfl) ⟨rfl, rfl⟩ ⟨Nat.le_of_ble_eq_true rfl, Nat.le_of_ble_eq_true rfl⟩ dX5_oneLifts_115 (fun x70 v67 w68 p69 => ?_)
    rw [p69.1, p69.2.1]
    exact J_iret E hr dX5_oneLifts_118 ⟨rfl, rfl, trivial, trivial⟩
  refine J_tabOut (x := x_0) E 119 dX5_oneLifts_14 (by have := (Bd.any x_0); unfold Bd I0 I1 at this; omega) (by decide) ?_
  refine J_iload_n E dX5_oneLifts_119 0 rfl ?_
  exact J_iret E hr dX5_oneLifts_120 ⟨rfl, rfl, trivial, trivial⟩

abbrev rm_X5_bell : Room := { frames := 0, cells := 0, slots := 0, locals := 0 }
set_option maxHeartbeats 4000000 in
set_option maxRecDepth 100000 in
theorem ct_X5_bell (l : Launch) (D : va_G) (dA : Nat → ClassId) (G : Gm) (v : Mv) (w : Mw) (hOk : Ok G v w) (x_0 : Int32) : CtI l yX5_bell cX5_bell 1 (some .int) rm_X5_bell D dA G [.int x_0] v w (fun r v1 w1 => v1 = v ∧ w1 = w ∧ True ∧ True) := by
  refine CtI.of RX5 [(0, .int x_0)] (Nat.le_of_ble_eq_true rfl) rfl (by decide) rfl ?_
  intro p e s m args below meth c E hr
  refine J_iload_n E dX5_bell_0 0 rfl ?_
  refine J_bipush E 6 dX5_bell_1 (by decide) ?_
  refine J_iadd E dX5_bell_3 (fun x1 e2 => ?_)
  exact J_iret E hr dX5_bell_4 ⟨rfl, rfl, trivial, trivial⟩

abbrev rm_X5_trunk : Room := { frames := 0, cells := 0, slots := 0, locals := 0 }
set_option maxHeartbeats 4000000 in
set_option maxRecDepth 100000 in
theorem ct_X5_trunk (l : Launch) (D : va_G) (dA : Nat → ClassId) (G : Gm) (v : Mv) (w : Mw) (hOk : Ok G v w) (x_0 : Int32) : CtI l yX5_trunk cX5_trunk 1 (some .int) rm_X5_trunk D dA G [.int x_0] v w (fun r v1 w1 => v1 = v ∧ w1 = w ∧ True ∧ True) := by
  refine CtI.of RX5 [(0, .int x_0)] (Nat.le_of_ble_eq_true rfl) rfl (by decide) rfl ?_
  intro p e s m args below meth c E hr
  refine J_iload_n E dX5_trunk_0 0 rfl ?_
  refine J_iconst E 1 dX5_trunk_1 (by decide) ?_
  refine J_iadd E dX5_trunk_2 (fun x1 e2 => ?_)
  refine J_iconst E 2 dX5_trunk_3 (by decide) ?_
  refine J_idiv E dX5_trunk_4 (Bd.nz (Bd.lit 2 2 (by decide)) (by decide)) (fun x3 e4 => ?_)
  exact J_iret E hr dX5_trunk_5 ⟨rfl, rfl, trivial, trivial⟩

abbrev rm_X5_thingWeighs : Room := { frames := 1, cells := 0, slots := 0, locals := 21 }
set_option maxHeartbeats 4000000 in
set_option maxRecDepth 100000 in
theorem ct_X5_thingWeighs (l : Launch) (D : va_G) (dA : Nat → ClassId) (G : Gm) (v : Mv) (w : Mw) (hOk : Ok G v w) (x_0 : Int32) (x_1 : Int32) (x_2 : Int32) : CtI l yX5_thingWeighs cX5_thingWeighs 3 (some .int) rm_X5_thingWeighs D dA G [.int x_0, .int x_1, .int x_2] v w (fun r v1 w1 => v1 = v ∧ w1 = w ∧ True ∧ True) := by
  refine CtI.of RX5 [(0, .int x_0), (1, .int x_1), (2, .int x_2)] (Nat.le_of_ble_eq_true rfl) rfl (by decide) rfl ?_
  intro p e s m args below meth c E hr
  refine J_iload_n E dX5_thingWeighs_0 0 rfl ?_
  by_cases h1 : x_0.toInt = 1
  · refine J_tabIn E 1 36 dX5_thingWeighs_1 h1 (by decide) (by decide) rfl (by decide) ?_
    have b2 : Bd x_0 1 1 := ⟨by omega, by omega⟩
    refine J_iload_n E dX5_thingWeighs_36 1 rfl ?_
    refine J_callSI E cal_X5_bell wd533 [.int x_1] [] (ct_X5_bell l D dA G v w (hOk) x_1) rfl rfl (Nat.le_of_ble_eq_true rfl) ⟨rfl, rfl⟩ ⟨Nat.le_of_ble_eq_true rfl, Nat.le_of_ble_eq_true rfl⟩ dX5_thingWeighs_37 (fun x6 v3 w4 p5 => ?_)
    rw [p5.1, p5.2.1]
    exact J_iret E hr dX5_thingWeighs_40 ⟨rfl, rfl, trivial, trivial⟩
  by_cases h7 : x_0.toInt = 2
  · refine J_tabIn E 2 41 dX5_thingWeighs_1 h7 (by decide) (by decide) rfl (by decide) ?_
    have b8 : Bd x_0 2 2 := ⟨by omega, by omega⟩
    refine J_iload_n E dX5_thingWeighs_41 1 rfl ?_
    refine J_callSI E cal_X5_trunk wd536 [.int x_1] [] (ct_X5_trunk l D dA G v w (hOk) x_1) rfl rfl (Nat.le_of_ble_eq_true rfl) ⟨rfl, rfl⟩ ⟨Nat.le_of_ble_eq_true rfl, Nat.le_of_ble_eq_true rfl⟩ dX5_thingWeighs_42 (fun x12 v9 w10 p11 => ?_)
    rw [p11.1, p11.2.1]
    exact J_iret E hr dX5_thingWeighs_45 ⟨rfl, rfl, trivial, trivial⟩
  by_cases h13 : x_0.toInt = 3
  · refine J_tabIn E 3 46 dX5_thingWeighs_1 h13 (by decide) (by decide) rfl (by decide) ?_
    have b14 : Bd x_0 3 3 := ⟨by omega, by omega⟩
    refine J_iload_n E dX5_thingWeighs_46 1 rfl ?_
    refine J_callSI E cal_X5_bell wd533 [.int x_1] [] (ct_X5_bell l D dA G v w (hOk) x_1) rfl rfl (Nat.le_of_ble_eq_true rfl) ⟨rfl, rfl⟩ ⟨Nat.le_of_ble_eq_true rfl, Nat.le_of_ble_eq_true rfl⟩ dX5_thingWeighs_47 (fun x18 v15 w16 p17 => ?_)
    rw [p17.1, p17.2.1]
    refine J_bipush E 20 dX5_thingWeighs_50 (by decide) ?_
    refine J_iload_n E dX5_thingWeighs_52 2 rfl ?_
    refine J_bipush E 10 dX5_thingWeighs_53 (by decide) ?_
    refine J_idiv E dX5_thingWeighs_55 (Bd.nz (Bd.lit 10 10 (by decide)) (by decide)) (fun x19 e20 => ?_)
    refine J_callSI E cal_J9_min_7cf53 wd539 [.int 20, .int x19] [.int x18] (ct_J9_min_7cf53 l D dA G v w (hOk) 20 x19) rfl rfl (Nat.le_of_ble_eq_true rfl) ⟨rfl, rfl⟩ ⟨Nat.le_of_ble_eq_true rfl, Nat.le_of_ble_eq_true rfl⟩ dX5_thingWeighs_56 (fun x24 v21 w22 p23 => ?_)
    rw [p23.1, p23.2.1]
    refine J_iadd E dX5_thingWeighs_59 (fun x25 e26 => ?_)
    exact J_iret E hr dX5_thingWeighs_60 ⟨rfl, rfl, trivial, trivial⟩
  by_cases h27 : x_0.toInt = 4
  · refine J_tabIn E 4 61 dX5_thingWeighs_1 h27 (by decide) (by decide) rfl (by decide) ?_
    have b28 : Bd x_0 4 4 := ⟨by omega, by omega⟩
    refine J_iload_n E dX5_thingWeighs_61 1 rfl ?_
    refine J_callSI E cal_X5_trunk wd536 [.int x_1] [] (ct_X5_trunk l D dA G v w (hOk) x_1) rfl rfl (Nat.le_of_ble_eq_true rfl) ⟨rfl, rfl⟩ ⟨Nat.le_of_ble_eq_true rfl, Nat.le_of_ble_eq_true rfl⟩ dX5_thingWeighs_62 (fun x32 v29 w30 p31 => ?_)
    rw [p31.1, p31.2.1]
    refine J_iload_n E dX5_thingWeighs_65 2 rfl ?_
    refine J_iconst E 2 dX5_thingWeighs_66 (by decide) ?_
    refine J_irem E dX5_thingWeighs_67 (Bd.nz (Bd.lit 2 2 (by decide)) (by decide)) (fun x33 e34 => ?_)
    have b35 : Bd x33 (-1) 1 := Bd.rem e34 (Bd.lit 2 2 (by decide)) (by decide)
    refine J_iconst E 1 dX5_thingWeighs_68 (by decide) ?_
    refine J_icmp_ne E 77 dX5_thingWeighs_69 (by decide) (fun c36 => ?_) (fun c36 => ?_)
    · have b37 : Bd x33 (-1) 0 := Bd.ne_hi c36 b35 (Bd.lit 1 1 (by decide))
      refine J_iconst E 0 dX5_thingWeighs_77 (by decide) ?_
      refine J_iadd E dX5_thingWeighs_78 (fun x38 e39 => ?_)
      exact J_iret E hr dX5_thingWeighs_79 ⟨rfl, rfl, trivial, trivial⟩
    · have b40 : Bd x33 1 1 := Bd.eq_l c36 b35 (Bd.lit 1 1 (by decide)) 1 1 (by decide)
      refine J_bipush E 9 dX5_thingWeighs_72 (by decide) ?_
      refine J_goto E 78 dX5_thingWeighs_74 (by decide) ?_
      refine J_iadd E dX5_thingWeighs_78 (fun x41 e42 => ?_)
      exact J_iret E hr dX5_thingWeighs_79 ⟨rfl, rfl, trivial, trivial⟩
  by_cases h43 : x_0.toInt = 5
  · refine J_tabIn E 5 80 dX5_thingWeighs_1 h43 (by decide) (by decide) rfl (by decide) ?_
    have b44 : Bd x_0 5 5 := ⟨by omega, by omega⟩
    refine J_iconst E 2 dX5_thingWeighs_80 (by decide) ?_
    refine J_iload_n E dX5_thingWeighs_81 1 rfl ?_
    refine J_callSI E cal_X5_trunk wd536 [.int x_1] [.int 2] (ct_X5_trunk l D dA G v w (hOk) x_1) rfl rfl (Nat.le_of_ble_eq_true rfl) ⟨rfl, rfl⟩ ⟨Nat.le_of_ble_eq_true rfl, Nat.le_of_ble_eq_true rfl⟩ dX5_thingWeighs_82 (fun x48 v45 w46 p47 => ?_)
    rw [p47.1, p47.2.1]
    refine J_imul E dX5_thingWeighs_85 (fun x49 e50 => ?_)
    refine J_iconst E 1 dX5_thingWeighs_86 (by decide) ?_
    refine J_isub E dX5_thingWeighs_87 (fun x51 e52 => ?_)
    exact J_iret E hr dX5_thingWeighs_88 ⟨rfl, rfl, trivial, trivial⟩
  refine J_tabOut (x := x_0) E 89 dX5_thingWeighs_1 (by have := (Bd.any x_0); unfold Bd I0 I1 at this; omega) (by decide) ?_
  refine J_iload_n E dX5_thingWeighs_89 1 rfl ?_
  exact J_iret E hr dX5_thingWeighs_90 ⟨rfl, rfl, trivial, trivial⟩

abbrev rm_X2_isHere : Room := { frames := 0, cells := 0, slots := 0, locals := 0 }
set_option maxHeartbeats 4000000 in
set_option maxRecDepth 100000 in
theorem ct_X2_isHere (l : Launch) (D : va_G) (dA : Nat → ClassId) (G : Gm) (v : Mv) (w : Mw) (hOk : Ok G v w) (h0 : Nat) (S0 : S_X2 G h0) (x_0 : Int32) (bx_0 : Bd x_0 0 6) : CtI l yX2_isHere cX2_isHere 2 (some .boolean) rm_X2_isHere D dA G [.ref h0, .int x_0] v w (fun r v1 w1 => v1 = v ∧ w1 = w ∧ Bd r 0 1 ∧ True) := by
  refine CtI.of RX2 [(0, .ref h0), (1, .int x_0)] (Nat.le_of_ble_eq_true rfl) rfl (by decide) rfl ?_
  intro p e s m args below meth c E hr
  refine J_aload_n E dX2_isHere_0 0 rfl ?_
  refine J_getI E in_X2 rfl (S_X2.h S0) 2 (by decide) wd157 rfl dX2_isHere_1 (fun x1 e2 => ?_)
  refine J_iload_n E dX2_isHere_4 1 rfl ?_
  refine J_ishr E dX2_isHere_5 (fun x3 e4 => ?_)
  refine J_iconst E 1 dX2_isHere_6 (by decide) ?_
  refine J_iand E dX2_isHere_7 (fun x5 e6 => ?_)
  have b7 : Bd x5 0 1 := Bd.and_r e6 (Bd.lit 1 1 (by decide)) (by decide)
  refine J_iconst E 1 dX2_isHere_8 (by decide) ?_
  refine J_icmp_ne E 16 dX2_isHere_9 (by decide) (fun c8 => ?_) (fun c8 => ?_)
  · have b9 : Bd x5 0 0 := Bd.ne_hi c8 b7 (Bd.lit 1 1 (by decide))
    refine J_iconst E 0 dX2_isHere_16 (by decide) ?_
    exact J_zret E hr (Bd.z (Bd.lit 0 0 (by decide)) (by decide)) dX2_isHere_17 ⟨rfl, rfl, ((Bd.lit 0 0 (by decide)).w 0 1 (by decide)), trivial⟩
  · have b10 : Bd x5 1 1 := Bd.eq_l c8 b7 (Bd.lit 1 1 (by decide)) 1 1 (by decide)
    refine J_iconst E 1 dX2_isHere_12 (by decide) ?_
    refine J_goto E 17 dX2_isHere_13 (by decide) ?_
    exact J_zret E hr (Bd.z (Bd.lit 1 1 (by decide)) (by decide)) dX2_isHere_17 ⟨rfl, rfl, ((Bd.lit 1 1 (by decide)).w 0 1 (by decide)), trivial⟩

abbrev rm_X2_copyFrom : Room := { frames := 0, cells := 0, slots := 0, locals := 0 }
set_option maxHeartbeats 4000000 in
set_option maxRecDepth 100000 in
theorem ct_X2_copyFrom (l : Launch) (D : va_G) (dA : Nat → ClassId) (G : Gm) (v : Mv) (w : Mw) (hOk : Ok G v w) (h0 : Nat) (S0 : S_X2 G h0) (h_0 : Nat) (S_0 : S_X2 G h_0) : CtV l yX2_copyFrom cX2_copyFrom 3 none rm_X2_copyFrom D dA G [.ref h0, .ref h_0] v w (fun v1 w1 => Ok G v1 w1 ∧ Kp G v v1 ∧ True) := by
  refine CtV.of RX2 [(0, .ref h0), (1, .ref h_0)] (Nat.le_of_ble_eq_true rfl) rfl (by decide) rfl ?_
  intro p e s m args below meth c E hr
  have J2 : ∀ n : Nat, ∀ (v1 : Mv) (w2 : Mw), Ok G v1 w2 → Kp G v v1 → ∀ x5 : Int32, Bd x5 0 7 → Mu x5 7 n → J p l e rm_X2_copyFrom s m args below meth c 0 0 (MQ below (QcV D dA G (fun v1 w1 => Ok G v1 w1 ∧ Kp G v v1 ∧ True)) args s 0 0 (dm G)) D dA G (dm G) s.heap 3 v1 w2 [(0, .ref h0), (1, .ref h_0), (2, .int x5)] 2 [] := by
    intro n
    induction n with
    | zero => intro v1 w2 o3 k4 x5 b6 hm; exact hm.zero b6 (by decide)
    | succ n ih2 =>
      intro v1 w2 o3 k4 x5 b6 hmu2
      refine J_iload_n E dX2_copyFrom_2 2 rfl ?_
      refine J_bipush E 7 dX2_copyFrom_3 (by decide) ?_
      refine J_icmp_ge E 38 dX2_copyFrom_5 (by decide) (fun c7 => ?_) (fun c7 => ?_)
      · have b8 : Bd x5 7 7 := Bd.le_r c7 (Bd.lit 7 7 (by decide)) b6 7 (by decide)
        refine J_aload_n E dX2_copyFrom_38 0 rfl ?_
        refine J_aload_n E dX2_copyFrom_39 1 rfl ?_
        refine J_getI E in_X2 rfl (S_X2.h S_0) 2 (by decide) wd157 rfl dX2_copyFrom_40 (fun x9 e10 => ?_)
        refine J_pI E in_X2 rfl (S_X2.h S0) 2 (by decide) wd157 tyX2 tyX2_ok nmX2 rfl rfl .int (by decide +kernel) rfl rfl dX2_copyFrom_43 (fun v11 e12 => ?_)
        have o13 : Ok G v11 w2 := Ok.pf o3 e12 (S_X2.h S0) rfl (Bd.any x9)
        have k14 : Kp G v v11 := Kp.pf k4 e12 (S_X2.h S0) rfl
        have e15 : x9 = v11 h0 2 := by rw [e12, stv_s]
        refine J_aload_n E dX2_copyFrom_46 0 rfl ?_
        refine J_aload_n E dX2_copyFrom_47 1 rfl ?_
        refine J_getI E in_X2 rfl (S_X2.h S_0) 3 (by decide) wd160 rfl dX2_copyFrom_48 (fun x16 e17 => ?_)
        refine J_pI E in_X2 rfl (S_X2.h S0) 3 (by decide) wd160 tyX2 tyX2_ok nmX2 rfl rfl .int (by decide +kernel) rfl rfl dX2_copyFrom_51 (fun v18 e19 => ?_)
        have o20 : Ok G v18 w2 := Ok.pf o13 e19 (S_X2.h S0) rfl (Bd.any x16)
        have k21 : Kp G v v18 := Kp.pf k14 e19 (S_X2.h S0) rfl
        have e22 : x9 = v18 h0 2 := by rw [e19, stv_k (by decide)]; exact e15
        have e23 : x16 = v18 h0 3 := by rw [e19, stv_s]
        exact J_vret E hr dX2_copyFrom_54 ⟨o20, k21, trivial⟩
      · have b24 : Bd x5 0 6 := Bd.lt_l (nle c7) b6 (Bd.lit 7 7 (by decide)) 6 (by decide)
        refine J_aload_n E dX2_copyFrom_8 0 rfl ?_
        refine J_getR E in_X2 rfl (S_X2.h S0) 0 (by decide) wd150 rfl dX2_copyFrom_9 ?_
        refine J_iload_n E dX2_copyFrom_12 2 rfl ?_
        refine J_aload_n E dX2_copyFrom_13 1 rfl ?_
        refine J_getR E in_X2 rfl (S_X2.h S_0) 0 (by decide) wd150 rfl dX2_copyFrom_14 ?_
        refine J_iload_n E dX2_copyFrom_17 2 rfl ?_
        refine J_iald1 E (S_X2.f0 S_0) (Bd.in b24 (by decide)) dX2_copyFrom_18 (fun x25 e26 => ?_)
        refine J_iast1 E (S_X2.f0 S0) (Bd.in b24 (by decide)) dX2_copyFrom_19 (fun v27 e28 => ?_)
        have o29 : Ok G v27 w2 := by rw [e28]; exact Ok.sv o3 (S_X2.f0 S0) b24 (Bd.any x25) 0 7 (by decide) (by decide +kernel)
        have k30 : Kp G v v27 := by rw [e28]; exact Kp.sv k4 (S_X2.f0 S0) b24 0 7 I0 I1 (by decide) (by decide +kernel)
        refine J_aload_n E dX2_copyFrom_20 0 rfl ?_
        refine J_getR E in_X2 rfl (S_X2.h S0) 1 (by decide) wd152 rfl dX2_copyFrom_21 ?_
        refine J_iload_n E dX2_copyFrom_24 2 rfl ?_
        refine J_aload_n E dX2_copyFrom_25 1 rfl ?_
        refine J_getR E in_X2 rfl (S_X2.h S_0) 1 (by decide) wd152 rfl dX2_copyFrom_26 ?_
        refine J_iload_n E dX2_copyFrom_29 2 rfl ?_
        refine J_iald1 E (S_X2.f1 S_0) (Bd.in b24 (by decide)) dX2_copyFrom_30 (fun x31 e32 => ?_)
        refine J_iast1 E (S_X2.f1 S0) (Bd.in b24 (by decide)) dX2_copyFrom_31 (fun v33 e34 => ?_)
        have o35 : Ok G v33 w2 := by rw [e34]; exact Ok.sv o29 (S_X2.f1 S0) b24 (Bd.any x31) 0 7 (by decide) (by decide +kernel)
        have k36 : Kp G v v33 := by rw [e34]; exact Kp.sv k30 (S_X2.f1 S0) b24 0 7 I0 I1 (by decide) (by decide +kernel)
        refine J_iinc E 2 1 (fun z => [(2, .int z), (0, .ref h0), (1, .ref h_0)]) dX2_copyFrom_32 rfl (by decide) (by decide) (fun _ => rfl) (fun x37 e38 => ?_)
        have b39 : Bd x37 1 7 := Bd.add e38 b24 (Bd.lit 1 1 (by decide)) (by decide)
        refine J_goto E 2 dX2_copyFrom_35 (by decide) ?_
        exact J.sub [1, 2, 0] rfl (ih2 v33 w2 (o35) (k36) x37 (b39.w 0 7 (by decide)) (Mu.step hmu2 e38 b24 (Bd.lit 1 1 (by decide)) (by decide)))
  refine J_iconst E 0 dX2_copyFrom_0 (by decide) ?_
  refine J_istore_n E [(2, .int 0), (0, .ref h0), (1, .ref h_0)] dX2_copyFrom_1 rfl (by decide) rfl ?_
  exact J.sub [1, 2, 0] rfl (J2 8 v w (hOk) (Kp.rf) 0 ((Bd.lit 0 0 (by decide)).w 0 7 (by decide)) (Mu.start _ (Bd.lit 0 0 (by decide)) (by decide)))

abbrev rm_J6_bitCount_0f7a4 : Room := { frames := 0, cells := 0, slots := 0, locals := 0 }
set_option maxHeartbeats 4000000 in
set_option maxRecDepth 100000 in
theorem ct_J6_bitCount_0f7a4 (l : Launch) (D : va_G) (dA : Nat → ClassId) (G : Gm) (v : Mv) (w : Mw) (hOk : Ok G v w) (x_0 : Int32) : CtI l yJ6_bitCount_0f7a4 cJ6_bitCount_0f7a4 1 (some .int) rm_J6_bitCount_0f7a4 D dA G [.int x_0] v w (fun r v1 w1 => v1 = v ∧ w1 = w ∧ Bd r 0 63 ∧ True) := by
  refine CtI.ofF RJ6 [(0, .int x_0)] (Nat.le_of_ble_eq_true rfl) rfl (by decide +kernel) rfl ?_
  intro p e s m args below meth c E hr
  refine J_iload_n E dJ6_bitCount_0f7a4_0 0 rfl ?_
  refine J_iload_n E dJ6_bitCount_0f7a4_1 0 rfl ?_
  refine J_iconst E 1 dJ6_bitCount_0f7a4_2 (by decide) ?_
  refine J_iushr E dJ6_bitCount_0f7a4_3 (fun x1 e2 => ?_)
  refine J_ldcw E wd628 dJ6_bitCount_0f7a4_4 ?_
  refine J_iand E dJ6_bitCount_0f7a4_7 (fun x3 e4 => ?_)
  have b5 : Bd x3 0 1431655765 := Bd.and_r e4 (Bd.lit 1431655765 1431655765 (by decide)) (by decide)
  refine J_isub E dJ6_bitCount_0f7a4_8 (fun x6 e7 => ?_)
  refine J_istore_n E [(0, .int x6)] dJ6_bitCount_0f7a4_9 rfl (by decide) rfl ?_
  refine J_iload_n E dJ6_bitCount_0f7a4_10 0 rfl ?_
  refine J_ldcw E wd629 dJ6_bitCount_0f7a4_11 ?_
  refine J_iand E dJ6_bitCount_0f7a4_14 (fun x8 e9 => ?_)
  have b10 : Bd x8 0 858993459 := Bd.and_r e9 (Bd.lit 858993459 858993459 (by decide)) (by decide)
  refine J_iload_n E dJ6_bitCount_0f7a4_15 0 rfl ?_
  refine J_iconst E 2 dJ6_bitCount_0f7a4_16 (by decide) ?_
  refine J_iushr E dJ6_bitCount_0f7a4_17 (fun x11 e12 => ?_)
  refine J_ldcw E wd629 dJ6_bitCount_0f7a4_18 ?_
  refine J_iand E dJ6_bitCount_0f7a4_21 (fun x13 e14 => ?_)
  have b15 : Bd x13 0 858993459 := Bd.and_r e14 (Bd.lit 858993459 858993459 (by decide)) (by decide)
  refine J_iadd E dJ6_bitCount_0f7a4_22 (fun x16 e17 => ?_)
  have b18 : Bd x16 0 1717986918 := Bd.add e17 b10 b15 (by decide)
  refine J_istore_n E [(0, .int x16)] dJ6_bitCount_0f7a4_23 rfl (by decide) rfl ?_
  refine J_iload_n E dJ6_bitCount_0f7a4_24 0 rfl ?_
  refine J_iload_n E dJ6_bitCount_0f7a4_25 0 rfl ?_
  refine J_iconst E 4 dJ6_bitCount_0f7a4_26 (by decide) ?_
  refine J_iushr E dJ6_bitCount_0f7a4_27 (fun x19 e20 => ?_)
  refine J_iadd E dJ6_bitCount_0f7a4_28 (fun x21 e22 => ?_)
  refine J_ldcw E wd630 dJ6_bitCount_0f7a4_29 ?_
  refine J_iand E dJ6_bitCount_0f7a4_32 (fun x23 e24 => ?_)
  have b25 : Bd x23 0 252645135 := Bd.and_r e24 (Bd.lit 252645135 252645135 (by decide)) (by decide)
  refine J_istore_n E [(0, .int x23)] dJ6_bitCount_0f7a4_33 rfl (by decide) rfl ?_
  refine J_iload_n E dJ6_bitCount_0f7a4_34 0 rfl ?_
  refine J_iload_n E dJ6_bitCount_0f7a4_35 0 rfl ?_
  refine J_bipush E 8 dJ6_bitCount_0f7a4_36 (by decide) ?_
  refine J_iushr E dJ6_bitCount_0f7a4_38 (fun x26 e27 => ?_)
  refine J_iadd E dJ6_bitCount_0f7a4_39 (fun x28 e29 => ?_)
  refine J_istore_n E [(0, .int x28)] dJ6_bitCount_0f7a4_40 rfl (by decide) rfl ?_
  refine J_iload_n E dJ6_bitCount_0f7a4_41 0 rfl ?_
  refine J_iload_n E dJ6_bitCount_0f7a4_42 0 rfl ?_
  refine J_bipush E 16 dJ6_bitCount_0f7a4_43 (by decide) ?_
  refine J_iushr E dJ6_bitCount_0f7a4_45 (fun x30 e31 => ?_)
  refine J_iadd E dJ6_bitCount_0f7a4_46 (fun x32 e33 => ?_)
  refine J_istore_n E [(0, .int x32)] dJ6_bitCount_0f7a4_47 rfl (by decide) rfl ?_
  refine J_iload_n E dJ6_bitCount_0f7a4_48 0 rfl ?_
  refine J_bipush E 63 dJ6_bitCount_0f7a4_49 (by decide) ?_
  refine J_iand E dJ6_bitCount_0f7a4_51 (fun x34 e35 => ?_)
  have b36 : Bd x34 0 63 := Bd.and_r e35 (Bd.lit 63 63 (by decide)) (by decide)
  exact J_iret E hr dJ6_bitCount_0f7a4_52 ⟨rfl, rfl, b36, trivial⟩

abbrev rm_X2_countHere : Room := { frames := 1, cells := 0, slots := 0, locals := 20 }
set_option maxHeartbeats 4000000 in
set_option maxRecDepth 100000 in
theorem ct_X2_countHere (l : Launch) (D : va_G) (dA : Nat → ClassId) (G : Gm) (v : Mv) (w : Mw) (hOk : Ok G v w) (h0 : Nat) (S0 : S_X2 G h0) : CtI l yX2_countHere cX2_countHere 1 (some .int) rm_X2_countHere D dA G [.ref h0] v w (fun r v1 w1 => v1 = v ∧ w1 = w ∧ True ∧ True) := by
  refine CtI.of RX2 [(0, .ref h0)] (Nat.le_of_ble_eq_true rfl) rfl (by decide) rfl ?_
  intro p e s m args below meth c E hr
  refine J_aload_n E dX2_countHere_0 0 rfl ?_
  refine J_getI E in_X2 rfl (S_X2.h S0) 2 (by decide) wd157 rfl dX2_countHere_1 (fun x1 e2 => ?_)
  refine J_callSI E cal_J6_bitCount_0f7a4 wd625 [.int x1] [] (ct_J6_bitCount_0f7a4 l D dA G v w (hOk) x1) rfl rfl (Nat.le_of_ble_eq_true rfl) ⟨rfl, rfl⟩ ⟨Nat.le_of_ble_eq_true rfl, Nat.le_of_ble_eq_true rfl⟩ dX2_countHere_4 (fun x6 v3 w4 p5 => ?_)
  rw [p5.1, p5.2.1]
  have b7 : Bd x6 0 63 := p5.2.2.1
  exact J_iret E hr dX2_countHere_7 ⟨rfl, rfl, trivial, trivial⟩

abbrev rm_X2_lose : Room := { frames := 0, cells := 0, slots := 0, locals := 0 }
set_option maxHeartbeats 4000000 in
set_option maxRecDepth 100000 in
theorem ct_X2_lose (l : Launch) (D : va_G) (dA : Nat → ClassId) (G : Gm) (v : Mv) (w : Mw) (hOk : Ok G v w) (h0 : Nat) (S0 : S_X2 G h0) (x_0 : Int32) (bx_0 : Bd x_0 0 6) : CtV l yX2_lose cX2_lose 2 none rm_X2_lose D dA G [.ref h0, .int x_0] v w (fun v1 w1 => Ok G v1 w1 ∧ Kp G v v1 ∧ True) := by
  refine CtV.of RX2 [(0, .ref h0), (1, .int x_0)] (Nat.le_of_ble_eq_true rfl) rfl (by decide) rfl ?_
  intro p e s m args below meth c E hr
  refine J_aload_n E dX2_lose_0 0 rfl ?_
  refine J_dup E dX2_lose_1 rfl ?_
  refine J_getI E in_X2 rfl (S_X2.h S0) 2 (by decide) wd157 rfl dX2_lose_2 (fun x1 e2 => ?_)
  refine J_iconst E 1 dX2_lose_5 (by decide) ?_
  refine J_iload_n E dX2_lose_6 1 rfl ?_
  refine J_ishl E dX2_lose_7 (fun x3 e4 => ?_)
  have b5 : Bd x3 1 64 := Bd.shl1 e4 bx_0 6 (by decide)
  refine J_iconst E (-1) dX2_lose_8 (by decide) ?_
  refine J_ixor E dX2_lose_9 (fun x6 e7 => ?_)
  refine J_iand E dX2_lose_10 (fun x8 e9 => ?_)
  refine J_pI E in_X2 rfl (S_X2.h S0) 2 (by decide) wd157 tyX2 tyX2_ok nmX2 rfl rfl .int (by decide +kernel) rfl rfl dX2_lose_11 (fun v10 e11 => ?_)
  have o12 : Ok G v10 w := Ok.pf hOk e11 (S_X2.h S0) rfl (Bd.any x8)
  have k13 : Kp G v v10 := Kp.pf Kp.rf e11 (S_X2.h S0) rfl
  have e14 : x8 = v10 h0 2 := by rw [e11, stv_s]
  refine J_aload_n E dX2_lose_14 0 rfl ?_
  refine J_getR E in_X2 rfl (S_X2.h S0) 1 (by decide) wd152 rfl dX2_lose_15 ?_
  refine J_iload_n E dX2_lose_18 1 rfl ?_
  refine J_iconst E (-1) dX2_lose_19 (by decide) ?_
  refine J_iast1 E (S_X2.f1 S0) (Bd.in bx_0 (by decide)) dX2_lose_20 (fun v15 e16 => ?_)
  have o17 : Ok G v15 w := by rw [e16]; exact Ok.sv o12 (S_X2.f1 S0) bx_0 (Bd.lit (-1) (-1) (by decide)) 0 7 (by decide) (by decide +kernel)
  have k18 : Kp G v v15 := by rw [e16]; exact Kp.sv k13 (S_X2.f1 S0) bx_0 0 7 (-1) (-1) (by decide) (by decide +kernel)
  have e19 : x8 = v15 h0 2 := by rw [e16, stv_a (tg_ne (S_X2.h S0) ((S_X2.f1 S0)) rfl)]; exact e14
  exact J_vret E hr dX2_lose_21 ⟨o17, k18, trivial⟩

abbrev rm_X2_growOlder : Room := { frames := 1, cells := 0, slots := 0, locals := 21 }
set_option maxHeartbeats 4000000 in
set_option maxRecDepth 100000 in
theorem ct_X2_growOlder (l : Launch) (D : va_G) (dA : Nat → ClassId) (G : Gm) (v : Mv) (w : Mw) (hOk : Ok G v w) (h0 : Nat) (S0 : S_X2 G h0) (x_0 : Int32) (bx_0 : Bd x_0 0 6) : CtV l yX2_growOlder cX2_growOlder 2 none rm_X2_growOlder D dA G [.ref h0, .int x_0] v w (fun v1 w1 => Ok G v1 w1 ∧ Kp G v v1 ∧ True) := by
  refine CtV.of RX2 [(0, .ref h0), (1, .int x_0)] (Nat.le_of_ble_eq_true rfl) rfl (by decide) rfl ?_
  intro p e s m args below meth c E hr
  refine J_aload_n E dX2_growOlder_0 0 rfl ?_
  refine J_getR E in_X2 rfl (S_X2.h S0) 0 (by decide) wd150 rfl dX2_growOlder_1 ?_
  refine J_iload_n E dX2_growOlder_4 1 rfl ?_
  refine J_bipush E 99 dX2_growOlder_5 (by decide) ?_
  refine J_aload_n E dX2_growOlder_7 0 rfl ?_
  refine J_getR E in_X2 rfl (S_X2.h S0) 0 (by decide) wd150 rfl dX2_growOlder_8 ?_
  refine J_iload_n E dX2_growOlder_11 1 rfl ?_
  refine J_iald1 E (S_X2.f0 S0) (Bd.in bx_0 (by decide)) dX2_growOlder_12 (fun x1 e2 => ?_)
  refine J_iconst E 1 dX2_growOlder_13 (by decide) ?_
  refine J_iadd E dX2_growOlder_14 (fun x3 e4 => ?_)
  refine J_callSI E cal_J9_min_7cf53 wd558 [.int 99, .int x3] [.int x_0, .ref (rf G h0 0)] (ct_J9_min_7cf53 l D dA G v w (hOk) 99 x3) rfl rfl (Nat.le_of_ble_eq_true rfl) ⟨rfl, rfl⟩ ⟨Nat.le_of_ble_eq_true rfl, Nat.le_of_ble_eq_true rfl⟩ dX2_growOlder_15 (fun x8 v5 w6 p7 => ?_)
  rw [p7.1, p7.2.1]
  refine J_iast1 E (S_X2.f0 S0) (Bd.in bx_0 (by decide)) dX2_growOlder_18 (fun v9 e10 => ?_)
  have o11 : Ok G v9 w := by rw [e10]; exact Ok.sv hOk (S_X2.f0 S0) bx_0 (Bd.any x8) 0 7 (by decide) (by decide +kernel)
  have k12 : Kp G v v9 := by rw [e10]; exact Kp.sv Kp.rf (S_X2.f0 S0) bx_0 0 7 I0 I1 (by decide) (by decide +kernel)
  exact J_vret E hr dX2_growOlder_19 ⟨o11, k12, trivial⟩
