abbrev rm_X8_thing : Room := { frames := 1, cells := 0, slots := 0, locals := 24 }
set_option maxHeartbeats 4000000 in
set_option maxRecDepth 100000 in
theorem ct_X8_thing (l : Launch) (D : va_G) (dA : Nat → ClassId) (G : Gm) (v : Mv) (w : Mw) (hOk : Ok G v w) (h0 : Nat) (S0 : S_X8 G h0) (x_0 : Int32) (x_1 : Int32) : CtI l yX8_thing cX8_thing 3 (some .int) rm_X8_thing D dA G [.ref h0, .int x_0, .int x_1] v w (fun r v1 w1 => Ok G v1 w1 ∧ Kp G v v1 ∧ True ∧ Fr G [103, 1084] v v1) := by
  refine CtI.of RX8 [(0, .ref h0), (1, .int x_0), (2, .int x_1)] (Nat.le_of_ble_eq_true rfl) rfl (by decide) rfl ?_
  intro p e s m args below meth c E hr
  have J19 :  J p l e rm_X8_thing s m args below meth c 0 0 (MQ below (QcI D dA G (fun r v1 w1 => Ok G v1 w1 ∧ Kp G v v1 ∧ True ∧ Fr G [103, 1084] v v1)) args s 0 0 (dm G)) D dA G (dm G) s.heap 3 v w [(0, .ref h0)] 19 [] := by
    refine J_aload_n E dX8_thing_19 0 rfl ?_
    refine J_callVI E cal_X8_bad wd999 rfl (S_X8.h S0) [] [] (ct_X8_bad l D dA G v w (hOk) h0 S0) rfl rfl (Nat.le_of_ble_eq_true rfl) ⟨rfl, rfl⟩ ⟨Nat.le_of_ble_eq_true rfl, Nat.le_of_ble_eq_true rfl⟩ dX8_thing_20 (fun x4 v1 w2 p3 => ?_)
    have o5 := p3.1
    have k6 : Kp G v v1 := (Kp.rf).tr p3.2.1
    have f7 : Fr G [103, 1084] v v1 := Fr.tr Fr.rf (p3.2.2.2) (by decide)
    have b8 : Bd x4 (-2) (-2) := p3.2.2.1
    exact J_iret E hr dX8_thing_23 ⟨o5, k6, trivial, f7⟩
  refine J_iload_n E dX8_thing_0 1 rfl ?_
  refine J_iconst E 0 dX8_thing_1 (by decide) ?_
  refine J_iconst E 5 dX8_thing_2 (by decide) ?_
  refine J_callSI E cal_X8_in wd996 [.int x_0, .int 0, .int 5] [] (ct_X8_in l D dA G v w (hOk) x_0 0 5) rfl rfl (Nat.le_of_ble_eq_true rfl) ⟨rfl, rfl⟩ ⟨Nat.le_of_ble_eq_true rfl, Nat.le_of_ble_eq_true rfl⟩ dX8_thing_3 (fun x12 v9 w10 p11 => ?_)
  rw [p11.1, p11.2.1]
  have b13 : Bd x12 0 1 := p11.2.2.1
  refine J_if_eq E 19 dX8_thing_6 (by decide) (fun c14 => ?_) (fun c14 => ?_)
  · have b15 : Bd x12 0 0 := Bd.eq_l c14 b13 (Bd.lit 0 0 (by decide)) 0 0 (by decide)
    have g16 : ¬ (0 ≤ x_0 ∧ x_0 ≤ 5) := (p11.2.2.2.2).resolve_left (fun h9 => h9 c14)
    exact J.sub [0] rfl (J19)
  · have b17 : Bd x12 1 1 := (Bd.ne_lo c14 b13 (Bd.lit 0 0 (by decide))).w _ _ (by decide)
    have g18 := (p11.2.2.2.1).resolve_left c14
    have b19 : Bd x_0 0 I1 := Bd.le_r g18.1 (Bd.lit 0 0 (by decide)) (Bd.any x_0) 0 (by decide)
    have b20 : Bd x_0 0 5 := Bd.le_l g18.2 b19 (Bd.lit 5 5 (by decide)) 5 (by decide)
    refine J_iload_n E dX8_thing_9 2 rfl ?_
    refine J_iconst E 1 dX8_thing_10 (by decide) ?_
    refine J_bipush E 30 dX8_thing_11 (by decide) ?_
    refine J_callSI E cal_X8_in wd996 [.int x_1, .int 1, .int 30] [] (ct_X8_in l D dA G v w (hOk) x_1 1 30) rfl rfl (Nat.le_of_ble_eq_true rfl) ⟨rfl, rfl⟩ ⟨Nat.le_of_ble_eq_true rfl, Nat.le_of_ble_eq_true rfl⟩ dX8_thing_13 (fun x24 v21 w22 p23 => ?_)
    rw [p23.1, p23.2.1]
    have b25 : Bd x24 0 1 := p23.2.2.1
    refine J_if_ne E 24 dX8_thing_16 (by decide) (fun c26 => ?_) (fun c26 => ?_)
    · have b27 : Bd x24 1 1 := (Bd.ne_lo c26 b25 (Bd.lit 0 0 (by decide))).w _ _ (by decide)
      have g28 := (p23.2.2.2.1).resolve_left c26
      have b29 : Bd x_1 1 I1 := Bd.le_r g28.1 (Bd.lit 1 1 (by decide)) (Bd.any x_1) 1 (by decide)
      have b30 : Bd x_1 1 30 := Bd.le_l g28.2 b29 (Bd.lit 30 30 (by decide)) 30 (by decide)
      refine J_aload_n E dX8_thing_24 0 rfl ?_
      refine J_getR E in_X8 rfl (S_X8.h S0) 1 (by decide) wd936 rfl dX8_thing_25 ?_
      refine J_iconst E 0 dX8_thing_28 (by decide) ?_
      refine J_iald1 E (S_X8.f1 S0) (Bd.in (Bd.lit 0 0 (by decide)) (by decide)) dX8_thing_29 (fun x31 e32 => ?_)
      have b33 : Bd x31 0 7 := Bd.e (Ok.ld hOk (S_X8.f1 S0) (Bd.lit 0 0 (by decide)) 0 1 0 7 (by decide) (by decide +kernel)) e32
      have e34 : x31 = v (rf G h0 1) 0 := by rw [e32, Bd.ix (Bd.lit 0 0 (by decide)) 0 rfl]
      refine J_bipush E 7 dX8_thing_30 (by decide) ?_
      refine J_icmp_ne E 42 dX8_thing_32 (by decide) (fun c35 => ?_) (fun c35 => ?_)
      · have b36 : Bd x31 0 6 := (Bd.ne_hi c35 b33 (Bd.lit 7 7 (by decide))).w _ _ (by decide)
        refine J_aload_n E dX8_thing_42 0 rfl ?_
        refine J_iconst E 0 dX8_thing_43 (by decide) ?_
        refine J_iload_n E dX8_thing_44 1 rfl ?_
        refine J_iload_n E dX8_thing_45 2 rfl ?_
        refine J_callVI E cal_X8_add wd1007 rfl (S_X8.h S0) [.int 0, .int x_0, .int x_1] [] (ct_X8_add_0 l D dA G v w (hOk) h0 S0 x_0 b20 x_1 b30 x31 (e34) b36) rfl rfl (Nat.le_of_ble_eq_true rfl) ⟨rfl, rfl⟩ ⟨Nat.le_of_ble_eq_true rfl, Nat.le_of_ble_eq_true rfl⟩ dX8_thing_46 (fun x40 v37 w38 p39 => ?_)
        have o41 := p39.1
        have k42 : Kp G v v37 := (Kp.rf).tr p39.2.1
        have f43 : Fr G [103, 1084] v v37 := Fr.tr Fr.rf (p39.2.2.2) (by decide)
        have b44 : Bd x40 0 6 := p39.2.2.1
        exact J_iret E hr dX8_thing_49 ⟨o41, k42, trivial, f43⟩
      · have b45 : Bd x31 7 7 := Bd.eq_l c35 b33 (Bd.lit 7 7 (by decide)) 7 7 (by decide)
        refine J_aload_n E dX8_thing_35 0 rfl ?_
        refine J_callVI E cal_X8_full wd1003 rfl (S_X8.h S0) [] [] (ct_X8_full l D dA G v w (hOk) h0 S0) rfl rfl (Nat.le_of_ble_eq_true rfl) ⟨rfl, rfl⟩ ⟨Nat.le_of_ble_eq_true rfl, Nat.le_of_ble_eq_true rfl⟩ dX8_thing_36 (fun x49 v46 w47 p48 => ?_)
        have o50 := p48.1
        have k51 : Kp G v v46 := (Kp.rf).tr p48.2.1
        have f52 : Fr G [103, 1084] v v46 := Fr.tr Fr.rf (p48.2.2.2) (by decide)
        have b53 : Bd x49 (-4) (-4) := p48.2.2.1
        refine J_goto E 49 dX8_thing_39 (by decide) ?_
        exact J_iret E hr dX8_thing_49 ⟨o50, k51, trivial, f52⟩
    · have b54 : Bd x24 0 0 := Bd.eq_l c26 b25 (Bd.lit 0 0 (by decide)) 0 0 (by decide)
      have g55 : ¬ (1 ≤ x_1 ∧ x_1 ≤ 30) := (p23.2.2.2.2).resolve_left (fun h9 => h9 c26)
      exact J.sub [0] rfl (J19)

abbrev rm_X8_join_0 : Room := { frames := 0, cells := 0, slots := 0, locals := 0 }
set_option maxHeartbeats 4000000 in
set_option maxRecDepth 100000 in
theorem ct_X8_join_0 (l : Launch) (D : va_G) (dA : Nat → ClassId) (G : Gm) (v : Mv) (w : Mw) (hOk : Ok G v w) (h0 : Nat) (S0 : S_X8 G h0) (x_1 : Int32) (bx_1 : Bd x_1 0 5) (x_2 : Int32) (bx_2 : Bd x_2 1 9) (x_3 : Int32) (bx_3 : Bd x_3 0 99) (z_0 : Int32) (ez_0 : z_0 = v (rf G h0 1) 1) (pre0 : Bd z_0 0 6) : CtI l yX8_join cX8_join 6 (some .int) rm_X8_join_0 D dA G [.ref h0, .int 0, .int x_1, .int x_2, .int x_3] v w (fun r v1 w1 => Ok G v1 w1 ∧ Kp G v v1 ∧ Bd r 0 6 ∧ Fr G [1084] v v1) := by
  refine CtI.of RX8 [(0, .ref h0), (1, .int 0), (2, .int x_1), (3, .int x_2), (4, .int x_3)] (Nat.le_of_ble_eq_true rfl) rfl (by decide) rfl ?_
  intro p e s m args below meth c E hr
  refine J_aload_n E dX8_join_0 0 rfl ?_
  refine J_getR E in_X8 rfl (S_X8.h S0) 1 (by decide) wd936 rfl dX8_join_1 ?_
  refine J_iload_n E dX8_join_4 1 rfl ?_
  refine J_iconst E 1 dX8_join_5 (by decide) ?_
  refine J_iadd E dX8_join_6 (fun x1 e2 => ?_)
  have b3 : Bd x1 1 1 := (Bd.add e2 (Bd.lit 0 0 (by decide)) (Bd.lit 1 1 (by decide)) (by decide)).w _ _ (by decide)
  refine J_iald1 E (S_X8.f1 S0) (Bd.in b3 (by decide)) dX8_join_7 (fun x4 e5 => ?_)
  have b6 : Bd x4 0 7 := Bd.e (Ok.ld hOk (S_X8.f1 S0) b3 1 1 0 7 (by decide) (by decide +kernel)) e5
  have e5q : x4 = z_0 := by rw [e5, Bd.ix b3 1 rfl]; exact (ez_0).symm
  rw [e5q]
  refine J_istore E [(5, .int z_0), (0, .ref h0), (1, .int 0), (2, .int x_1), (3, .int x_2), (4, .int x_3)] dX8_join_8 (by decide) rfl ?_
  refine J_aload_n E dX8_join_10 1 rfl ?_
  refine J_getR E in_X8 rfl (S_X8.h S0) 1 (by decide) wd936 rfl dX8_join_11 ?_
  refine J_iload_n E dX8_join_14 2 rfl ?_
  refine J_bipush E 20 dX8_join_15 (by decide) ?_
  refine J_iadd E dX8_join_17 (fun x7 e8 => ?_)
  have b9 : Bd x7 20 20 := (Bd.add e8 (Bd.lit 0 0 (by decide)) (Bd.lit 20 20 (by decide)) (by decide)).w _ _ (by decide)
  refine J_iload E dX8_join_18 0 rfl ?_
  refine J_iadd E dX8_join_20 (fun x10 e11 => ?_)
  have b12 : Bd x10 20 26 := (Bd.add e11 b9 pre0 (by decide)).w _ _ (by decide)
  refine J_iload_n E dX8_join_21 3 rfl ?_
  refine J_iast1 E (S_X8.f1 S0) (Bd.in b12 (by decide)) dX8_join_22 (fun v13 e14 => ?_)
  have o15 : Ok G v13 w := by rw [e14]; exact Ok.sv hOk (S_X8.f1 S0) b12 bx_1 20 7 (by decide) (by decide +kernel)
  have k16 : Kp G v v13 := by rw [e14]; exact Kp.sv Kp.rf (S_X8.f1 S0) b12 20 7 0 5 (by decide) (by decide +kernel)
  have f17 : Fr G [1084] v v13 := Fr.st Fr.rf e14 (S_X8.f1 S0) rfl
  have e18 : z_0 = v13 (rf G h0 1) 1 := by rw [e14, stv_k (Bd.nix b12 1 (by decide))]; exact ez_0
  refine J_aload_n E dX8_join_23 1 rfl ?_
  refine J_getR E in_X8 rfl (S_X8.h S0) 1 (by decide) wd936 rfl dX8_join_24 ?_
  refine J_iload_n E dX8_join_27 2 rfl ?_
  refine J_bipush E 27 dX8_join_28 (by decide) ?_
  refine J_iadd E dX8_join_30 (fun x19 e20 => ?_)
  have b21 : Bd x19 27 27 := (Bd.add e20 (Bd.lit 0 0 (by decide)) (Bd.lit 27 27 (by decide)) (by decide)).w _ _ (by decide)
  refine J_iload E dX8_join_31 0 rfl ?_
  refine J_iadd E dX8_join_33 (fun x22 e23 => ?_)
  have b24 : Bd x22 27 33 := (Bd.add e23 b21 pre0 (by decide)).w _ _ (by decide)
  refine J_iload_n E dX8_join_34 4 rfl ?_
  refine J_iast1 E (S_X8.f1 S0) (Bd.in b24 (by decide)) dX8_join_35 (fun v25 e26 => ?_)
  have o27 : Ok G v25 w := by rw [e26]; exact Ok.sv o15 (S_X8.f1 S0) b24 bx_2 27 7 (by decide) (by decide +kernel)
  have k28 : Kp G v v25 := by rw [e26]; exact Kp.sv k16 (S_X8.f1 S0) b24 27 7 1 9 (by decide) (by decide +kernel)
  have f29 : Fr G [1084] v v25 := Fr.st f17 e26 (S_X8.f1 S0) rfl
  have e30 : z_0 = v25 (rf G h0 1) 1 := by rw [e26, stv_k (Bd.nix b24 1 (by decide))]; exact e18
  refine J_aload_n E dX8_join_36 1 rfl ?_
  refine J_getR E in_X8 rfl (S_X8.h S0) 1 (by decide) wd936 rfl dX8_join_37 ?_
  refine J_iload_n E dX8_join_40 2 rfl ?_
  refine J_bipush E 34 dX8_join_41 (by decide) ?_
  refine J_iadd E dX8_join_43 (fun x31 e32 => ?_)
  have b33 : Bd x31 34 34 := (Bd.add e32 (Bd.lit 0 0 (by decide)) (Bd.lit 34 34 (by decide)) (by decide)).w _ _ (by decide)
  refine J_iconst E 2 dX8_join_44 (by decide) ?_
  refine J_iadd E dX8_join_45 (fun x34 e35 => ?_)
  have b36 : Bd x34 36 36 := (Bd.add e35 b33 (Bd.lit 2 2 (by decide)) (by decide)).w _ _ (by decide)
  refine J_iload E dX8_join_46 0 rfl ?_
  refine J_iadd E dX8_join_48 (fun x37 e38 => ?_)
  have b39 : Bd x37 36 42 := (Bd.add e38 b36 pre0 (by decide)).w _ _ (by decide)
  refine J_iload E dX8_join_49 5 rfl ?_
  refine J_iast1 E (S_X8.f1 S0) (Bd.in b39 (by decide)) dX8_join_51 (fun v40 e41 => ?_)
  have o42 : Ok G v40 w := by rw [e41]; exact Ok.sv o27 (S_X8.f1 S0) b39 bx_3 36 7 (by decide) (by decide +kernel)
  have k43 : Kp G v v40 := by rw [e41]; exact Kp.sv k28 (S_X8.f1 S0) b39 36 7 0 99 (by decide) (by decide +kernel)
  have f44 : Fr G [1084] v v40 := Fr.st f29 e41 (S_X8.f1 S0) rfl
  have e45 : z_0 = v40 (rf G h0 1) 1 := by rw [e41, stv_k (Bd.nix b39 1 (by decide))]; exact e30
  refine J_aload_n E dX8_join_52 1 rfl ?_
  refine J_getR E in_X8 rfl (S_X8.h S0) 1 (by decide) wd936 rfl dX8_join_53 ?_
  refine J_iload_n E dX8_join_56 2 rfl ?_
  refine J_bipush E 34 dX8_join_57 (by decide) ?_
  refine J_iadd E dX8_join_59 (fun x46 e47 => ?_)
  have b48 : Bd x46 34 34 := (Bd.add e47 (Bd.lit 0 0 (by decide)) (Bd.lit 34 34 (by decide)) (by decide)).w _ _ (by decide)
  refine J_bipush E 9 dX8_join_60 (by decide) ?_
  refine J_iadd E dX8_join_62 (fun x49 e50 => ?_)
  have b51 : Bd x49 43 43 := (Bd.add e50 b48 (Bd.lit 9 9 (by decide)) (by decide)).w _ _ (by decide)
  refine J_iload E dX8_join_63 0 rfl ?_
  refine J_iadd E dX8_join_65 (fun x52 e53 => ?_)
  have b54 : Bd x52 43 49 := (Bd.add e53 b51 pre0 (by decide)).w _ _ (by decide)
  refine J_iconst E (-1) dX8_join_66 (by decide) ?_
  refine J_iast1 E (S_X8.f1 S0) (Bd.in b54 (by decide)) dX8_join_67 (fun v55 e56 => ?_)
  have o57 : Ok G v55 w := by rw [e56]; exact Ok.sv o42 (S_X8.f1 S0) b54 (Bd.lit (-1) (-1) (by decide)) 43 7 (by decide) (by decide +kernel)
  have k58 : Kp G v v55 := by rw [e56]; exact Kp.sv k43 (S_X8.f1 S0) b54 43 7 (-1) (-1) (by decide) (by decide +kernel)
  have f59 : Fr G [1084] v v55 := Fr.st f44 e56 (S_X8.f1 S0) rfl
  have e60 : z_0 = v55 (rf G h0 1) 1 := by rw [e56, stv_k (Bd.nix b54 1 (by decide))]; exact e45
  refine J_aload_n E dX8_join_68 1 rfl ?_
  refine J_getR E in_X8 rfl (S_X8.h S0) 1 (by decide) wd936 rfl dX8_join_69 ?_
  refine J_iload_n E dX8_join_72 2 rfl ?_
  refine J_iconst E 1 dX8_join_73 (by decide) ?_
  refine J_iadd E dX8_join_74 (fun x61 e62 => ?_)
  have b63 : Bd x61 1 1 := (Bd.add e62 (Bd.lit 0 0 (by decide)) (Bd.lit 1 1 (by decide)) (by decide)).w _ _ (by decide)
  refine J_dup2 E dX8_join_75 rfl rfl ?_
  refine J_iald1 E (S_X8.f1 S0) (Bd.in b63 (by decide)) dX8_join_76 (fun x64 e65 => ?_)
  have b66 : Bd x64 0 7 := Bd.e (Ok.ld o57 (S_X8.f1 S0) b63 1 1 0 7 (by decide) (by decide +kernel)) e65
  have e65q : x64 = z_0 := by rw [e65, Bd.ix b63 1 rfl]; exact (e60).symm
  rw [e65q]
  refine J_iconst E 1 dX8_join_77 (by decide) ?_
  refine J_iadd E dX8_join_78 (fun x67 e68 => ?_)
  have b69 : Bd x67 1 7 := (Bd.add e68 pre0 (Bd.lit 1 1 (by decide)) (by decide)).w _ _ (by decide)
  refine J_iast1 E (S_X8.f1 S0) (Bd.in b63 (by decide)) dX8_join_79 (fun v70 e71 => ?_)
  have o72 : Ok G v70 w := by rw [e71]; exact Ok.sv o57 (S_X8.f1 S0) b63 b69 1 1 (by decide) (by decide +kernel)
  have k73 : Kp G v v70 := by rw [e71]; exact Kp.sv k58 (S_X8.f1 S0) b63 1 1 1 7 (by decide) (by decide +kernel)
  have f74 : Fr G [1084] v v70 := Fr.st f59 e71 (S_X8.f1 S0) rfl
  have e75 : (x67 : Int32) = v70 (rf G h0 1) 1 := by rw [e71, Bd.ix b63 1 rfl, stv_s]
  refine J_aload_n E dX8_join_80 1 rfl ?_
  refine J_getR E in_X8 rfl (S_X8.h S0) 1 (by decide) wd936 rfl dX8_join_81 ?_
  refine J_iload_n E dX8_join_84 2 rfl ?_
  refine J_iconst E 5 dX8_join_85 (by decide) ?_
  refine J_iadd E dX8_join_86 (fun x76 e77 => ?_)
  have b78 : Bd x76 5 5 := (Bd.add e77 (Bd.lit 0 0 (by decide)) (Bd.lit 5 5 (by decide)) (by decide)).w _ _ (by decide)
  refine J_iconst E 0 dX8_join_87 (by decide) ?_
  refine J_iast1 E (S_X8.f1 S0) (Bd.in b78 (by decide)) dX8_join_88 (fun v79 e80 => ?_)
  have o81 : Ok G v79 w := by rw [e80]; exact Ok.sv o72 (S_X8.f1 S0) b78 (Bd.lit 0 0 (by decide)) 5 1 (by decide) (by decide +kernel)
  have k82 : Kp G v v79 := by rw [e80]; exact Kp.sv k73 (S_X8.f1 S0) b78 5 1 0 0 (by decide) (by decide +kernel)
  have f83 : Fr G [1084] v v79 := Fr.st f74 e80 (S_X8.f1 S0) rfl
  have e84 : x67 = v79 (rf G h0 1) 1 := by rw [e80, stv_k (Bd.nix b78 1 (by decide))]; exact e75
  have e85 : (0 : Int32) = v79 (rf G h0 1) 5 := by rw [e80, Bd.ix b78 5 rfl, stv_s]
  refine J_iload E dX8_join_89 0 rfl ?_
  exact J_iret E hr dX8_join_91 ⟨o81, k82, pre0, f83⟩

abbrev rm_X8_join_738 : Room := { frames := 0, cells := 0, slots := 0, locals := 0 }
set_option maxHeartbeats 4000000 in
set_option maxRecDepth 100000 in
theorem ct_X8_join_738 (l : Launch) (D : va_G) (dA : Nat → ClassId) (G : Gm) (v : Mv) (w : Mw) (hOk : Ok G v w) (h0 : Nat) (S0 : S_X8 G h0) (x_1 : Int32) (bx_1 : Bd x_1 0 999) (x_2 : Int32) (bx_2 : Bd x_2 0 999) (x_3 : Int32) (bx_3 : Bd x_3 0 999) (z_0 : Int32) (ez_0 : z_0 = v (rf G h0 1) 739) (pre0 : Bd z_0 0 6) : CtI l yX8_join cX8_join 6 (some .int) rm_X8_join_738 D dA G [.ref h0, .int 738, .int x_1, .int x_2, .int x_3] v w (fun r v1 w1 => Ok G v1 w1 ∧ Kp G v v1 ∧ Bd r 0 6 ∧ Fr G [1084] v v1) := by
  refine CtI.of RX8 [(0, .ref h0), (1, .int 738), (2, .int x_1), (3, .int x_2), (4, .int x_3)] (Nat.le_of_ble_eq_true rfl) rfl (by decide) rfl ?_
  intro p e s m args below meth c E hr
  refine J_aload_n E dX8_join_0 0 rfl ?_
  refine J_getR E in_X8 rfl (S_X8.h S0) 1 (by decide) wd936 rfl dX8_join_1 ?_
  refine J_iload_n E dX8_join_4 1 rfl ?_
  refine J_iconst E 1 dX8_join_5 (by decide) ?_
  refine J_iadd E dX8_join_6 (fun x1 e2 => ?_)
  have b3 : Bd x1 739 739 := (Bd.add e2 (Bd.lit 738 738 (by decide)) (Bd.lit 1 1 (by decide)) (by decide)).w _ _ (by decide)
  refine J_iald1 E (S_X8.f1 S0) (Bd.in b3 (by decide)) dX8_join_7 (fun x4 e5 => ?_)
  have b6 : Bd x4 0 7 := Bd.e (Ok.ld hOk (S_X8.f1 S0) b3 739 1 0 7 (by decide) (by decide +kernel)) e5
  have e5q : x4 = z_0 := by rw [e5, Bd.ix b3 739 rfl]; exact (ez_0).symm
  rw [e5q]
  refine J_istore E [(5, .int z_0), (0, .ref h0), (1, .int 738), (2, .int x_1), (3, .int x_2), (4, .int x_3)] dX8_join_8 (by decide) rfl ?_
  refine J_aload_n E dX8_join_10 1 rfl ?_
  refine J_getR E in_X8 rfl (S_X8.h S0) 1 (by decide) wd936 rfl dX8_join_11 ?_
  refine J_iload_n E dX8_join_14 2 rfl ?_
  refine J_bipush E 20 dX8_join_15 (by decide) ?_
  refine J_iadd E dX8_join_17 (fun x7 e8 => ?_)
  have b9 : Bd x7 758 758 := (Bd.add e8 (Bd.lit 738 738 (by decide)) (Bd.lit 20 20 (by decide)) (by decide)).w _ _ (by decide)
  refine J_iload E dX8_join_18 0 rfl ?_
  refine J_iadd E dX8_join_20 (fun x10 e11 => ?_)
  have b12 : Bd x10 758 764 := (Bd.add e11 b9 pre0 (by decide)).w _ _ (by decide)
  refine J_iload_n E dX8_join_21 3 rfl ?_
  refine J_iast1 E (S_X8.f1 S0) (Bd.in b12 (by decide)) dX8_join_22 (fun v13 e14 => ?_)
  have o15 : Ok G v13 w := by rw [e14]; exact Ok.sv hOk (S_X8.f1 S0) b12 bx_1 758 7 (by decide) (by decide +kernel)
  have k16 : Kp G v v13 := by rw [e14]; exact Kp.sv Kp.rf (S_X8.f1 S0) b12 758 7 0 999 (by decide) (by decide +kernel)
  have f17 : Fr G [1084] v v13 := Fr.st Fr.rf e14 (S_X8.f1 S0) rfl
  have e18 : z_0 = v13 (rf G h0 1) 739 := by rw [e14, stv_k (Bd.nix b12 739 (by decide))]; exact ez_0
  refine J_aload_n E dX8_join_23 1 rfl ?_
  refine J_getR E in_X8 rfl (S_X8.h S0) 1 (by decide) wd936 rfl dX8_join_24 ?_
  refine J_iload_n E dX8_join_27 2 rfl ?_
  refine J_bipush E 27 dX8_join_28 (by decide) ?_
  refine J_iadd E dX8_join_30 (fun x19 e20 => ?_)
  have b21 : Bd x19 765 765 := (Bd.add e20 (Bd.lit 738 738 (by decide)) (Bd.lit 27 27 (by decide)) (by decide)).w _ _ (by decide)
  refine J_iload E dX8_join_31 0 rfl ?_
  refine J_iadd E dX8_join_33 (fun x22 e23 => ?_)
  have b24 : Bd x22 765 771 := (Bd.add e23 b21 pre0 (by decide)).w _ _ (by decide)
  refine J_iload_n E dX8_join_34 4 rfl ?_
  refine J_iast1 E (S_X8.f1 S0) (Bd.in b24 (by decide)) dX8_join_35 (fun v25 e26 => ?_)
  have o27 : Ok G v25 w := by rw [e26]; exact Ok.sv o15 (S_X8.f1 S0) b24 bx_2 765 7 (by decide) (by decide +kernel)
  have k28 : Kp G v v25 := by rw [e26]; exact Kp.sv k16 (S_X8.f1 S0) b24 765 7 0 999 (by decide) (by decide +kernel)
  have f29 : Fr G [1084] v v25 := Fr.st f17 e26 (S_X8.f1 S0) rfl
  have e30 : z_0 = v25 (rf G h0 1) 739 := by rw [e26, stv_k (Bd.nix b24 739 (by decide))]; exact e18
  refine J_aload_n E dX8_join_36 1 rfl ?_
  refine J_getR E in_X8 rfl (S_X8.h S0) 1 (by decide) wd936 rfl dX8_join_37 ?_
  refine J_iload_n E dX8_join_40 2 rfl ?_
  refine J_bipush E 34 dX8_join_41 (by decide) ?_
  refine J_iadd E dX8_join_43 (fun x31 e32 => ?_)
  have b33 : Bd x31 772 772 := (Bd.add e32 (Bd.lit 738 738 (by decide)) (Bd.lit 34 34 (by decide)) (by decide)).w _ _ (by decide)
  refine J_iconst E 2 dX8_join_44 (by decide) ?_
  refine J_iadd E dX8_join_45 (fun x34 e35 => ?_)
  have b36 : Bd x34 774 774 := (Bd.add e35 b33 (Bd.lit 2 2 (by decide)) (by decide)).w _ _ (by decide)
  refine J_iload E dX8_join_46 0 rfl ?_
  refine J_iadd E dX8_join_48 (fun x37 e38 => ?_)
  have b39 : Bd x37 774 780 := (Bd.add e38 b36 pre0 (by decide)).w _ _ (by decide)
  refine J_iload E dX8_join_49 5 rfl ?_
  refine J_iast1 E (S_X8.f1 S0) (Bd.in b39 (by decide)) dX8_join_51 (fun v40 e41 => ?_)
  have o42 : Ok G v40 w := by rw [e41]; exact Ok.sv o27 (S_X8.f1 S0) b39 bx_3 774 7 (by decide) (by decide +kernel)
  have k43 : Kp G v v40 := by rw [e41]; exact Kp.sv k28 (S_X8.f1 S0) b39 774 7 0 999 (by decide) (by decide +kernel)
  have f44 : Fr G [1084] v v40 := Fr.st f29 e41 (S_X8.f1 S0) rfl
  have e45 : z_0 = v40 (rf G h0 1) 739 := by rw [e41, stv_k (Bd.nix b39 739 (by decide))]; exact e30
  refine J_aload_n E dX8_join_52 1 rfl ?_
  refine J_getR E in_X8 rfl (S_X8.h S0) 1 (by decide) wd936 rfl dX8_join_53 ?_
  refine J_iload_n E dX8_join_56 2 rfl ?_
  refine J_bipush E 34 dX8_join_57 (by decide) ?_
  refine J_iadd E dX8_join_59 (fun x46 e47 => ?_)
  have b48 : Bd x46 772 772 := (Bd.add e47 (Bd.lit 738 738 (by decide)) (Bd.lit 34 34 (by decide)) (by decide)).w _ _ (by decide)
  refine J_bipush E 9 dX8_join_60 (by decide) ?_
  refine J_iadd E dX8_join_62 (fun x49 e50 => ?_)
  have b51 : Bd x49 781 781 := (Bd.add e50 b48 (Bd.lit 9 9 (by decide)) (by decide)).w _ _ (by decide)
  refine J_iload E dX8_join_63 0 rfl ?_
  refine J_iadd E dX8_join_65 (fun x52 e53 => ?_)
  have b54 : Bd x52 781 787 := (Bd.add e53 b51 pre0 (by decide)).w _ _ (by decide)
  refine J_iconst E (-1) dX8_join_66 (by decide) ?_
  refine J_iast1 E (S_X8.f1 S0) (Bd.in b54 (by decide)) dX8_join_67 (fun v55 e56 => ?_)
  have o57 : Ok G v55 w := by rw [e56]; exact Ok.sv o42 (S_X8.f1 S0) b54 (Bd.lit (-1) (-1) (by decide)) 781 7 (by decide) (by decide +kernel)
  have k58 : Kp G v v55 := by rw [e56]; exact Kp.sv k43 (S_X8.f1 S0) b54 781 7 (-1) (-1) (by decide) (by decide +kernel)
  have f59 : Fr G [1084] v v55 := Fr.st f44 e56 (S_X8.f1 S0) rfl
  have e60 : z_0 = v55 (rf G h0 1) 739 := by rw [e56, stv_k (Bd.nix b54 739 (by decide))]; exact e45
  refine J_aload_n E dX8_join_68 1 rfl ?_
  refine J_getR E in_X8 rfl (S_X8.h S0) 1 (by decide) wd936 rfl dX8_join_69 ?_
  refine J_iload_n E dX8_join_72 2 rfl ?_
  refine J_iconst E 1 dX8_join_73 (by decide) ?_
  refine J_iadd E dX8_join_74 (fun x61 e62 => ?_)
  have b63 : Bd x61 739 739 := (Bd.add e62 (Bd.lit 738 738 (by decide)) (Bd.lit 1 1 (by decide)) (by decide)).w _ _ (by decide)
  refine J_dup2 E dX8_join_75 rfl rfl ?_
  refine J_iald1 E (S_X8.f1 S0) (Bd.in b63 (by decide)) dX8_join_76 (fun x64 e65 => ?_)
  have b66 : Bd x64 0 7 := Bd.e (Ok.ld o57 (S_X8.f1 S0) b63 739 1 0 7 (by decide) (by decide +kernel)) e65
  have e65q : x64 = z_0 := by rw [e65, Bd.ix b63 739 rfl]; exact (e60).symm
  rw [e65q]
  refine J_iconst E 1 dX8_join_77 (by decide) ?_
  refine J_iadd E dX8_join_78 (fun x67 e68 => ?_)
  have b69 : Bd x67 1 7 := (Bd.add e68 pre0 (Bd.lit 1 1 (by decide)) (by decide)).w _ _ (by decide)
  refine J_iast1 E (S_X8.f1 S0) (Bd.in b63 (by decide)) dX8_join_79 (fun v70 e71 => ?_)
  have o72 : Ok G v70 w := by rw [e71]; exact Ok.sv o57 (S_X8.f1 S0) b63 b69 739 1 (by decide) (by decide +kernel)
  have k73 : Kp G v v70 := by rw [e71]; exact Kp.sv k58 (S_X8.f1 S0) b63 739 1 1 7 (by decide) (by decide +kernel)
  have f74 : Fr G [1084] v v70 := Fr.st f59 e71 (S_X8.f1 S0) rfl
  have e75 : (x67 : Int32) = v70 (rf G h0 1) 739 := by rw [e71, Bd.ix b63 739 rfl, stv_s]
  refine J_aload_n E dX8_join_80 1 rfl ?_
  refine J_getR E in_X8 rfl (S_X8.h S0) 1 (by decide) wd936 rfl dX8_join_81 ?_
  refine J_iload_n E dX8_join_84 2 rfl ?_
  refine J_iconst E 5 dX8_join_85 (by decide) ?_
  refine J_iadd E dX8_join_86 (fun x76 e77 => ?_)
  have b78 : Bd x76 743 743 := (Bd.add e77 (Bd.lit 738 738 (by decide)) (Bd.lit 5 5 (by decide)) (by decide)).w _ _ (by decide)
  refine J_iconst E 0 dX8_join_87 (by decide) ?_
  refine J_iast1 E (S_X8.f1 S0) (Bd.in b78 (by decide)) dX8_join_88 (fun v79 e80 => ?_)
  have o81 : Ok G v79 w := by rw [e80]; exact Ok.sv o72 (S_X8.f1 S0) b78 (Bd.lit 0 0 (by decide)) 743 1 (by decide) (by decide +kernel)
  have k82 : Kp G v v79 := by rw [e80]; exact Kp.sv k73 (S_X8.f1 S0) b78 743 1 0 0 (by decide) (by decide +kernel)
  have f83 : Fr G [1084] v v79 := Fr.st f74 e80 (S_X8.f1 S0) rfl
  have e84 : x67 = v79 (rf G h0 1) 739 := by rw [e80, stv_k (Bd.nix b78 739 (by decide))]; exact e75
  have e85 : (0 : Int32) = v79 (rf G h0 1) 743 := by rw [e80, Bd.ix b78 743 rfl, stv_s]
  refine J_iload E dX8_join_89 0 rfl ?_
  exact J_iret E hr dX8_join_91 ⟨o81, k82, pre0, f83⟩

abbrev rm_X8_one : Room := { frames := 1, cells := 0, slots := 0, locals := 25 }
set_option maxHeartbeats 4000000 in
set_option maxRecDepth 100000 in
theorem ct_X8_one (l : Launch) (D : va_G) (dA : Nat → ClassId) (G : Gm) (v : Mv) (w : Mw) (hOk : Ok G v w) (h0 : Nat) (S0 : S_X8 G h0) (x_0 : Int32) (x_1 : Int32) (x_2 : Int32) : CtI l yX8_one cX8_one 4 (some .int) rm_X8_one D dA G [.ref h0, .int x_0, .int x_1, .int x_2] v w (fun r v1 w1 => Ok G v1 w1 ∧ Kp G v v1 ∧ True ∧ Fr G [103, 1084] v v1) := by
  refine CtI.of RX8 [(0, .ref h0), (1, .int x_0), (2, .int x_1), (3, .int x_2)] (Nat.le_of_ble_eq_true rfl) rfl (by decide) rfl ?_
  intro p e s m args below meth c E hr
  have J29 :  J p l e rm_X8_one s m args below meth c 0 0 (MQ below (QcI D dA G (fun r v1 w1 => Ok G v1 w1 ∧ Kp G v v1 ∧ True ∧ Fr G [103, 1084] v v1)) args s 0 0 (dm G)) D dA G (dm G) s.heap 4 v w [(0, .ref h0)] 29 [] := by
    refine J_aload_n E dX8_one_29 0 rfl ?_
    refine J_callVI E cal_X8_bad wd999 rfl (S_X8.h S0) [] [] (ct_X8_bad l D dA G v w (hOk) h0 S0) rfl rfl (Nat.le_of_ble_eq_true rfl) ⟨rfl, rfl⟩ ⟨Nat.le_of_ble_eq_true rfl, Nat.le_of_ble_eq_true rfl⟩ dX8_one_30 (fun x4 v1 w2 p3 => ?_)
    have o5 := p3.1
    have k6 : Kp G v v1 := (Kp.rf).tr p3.2.1
    have f7 : Fr G [103, 1084] v v1 := Fr.tr Fr.rf (p3.2.2.2) (by decide)
    have b8 : Bd x4 (-2) (-2) := p3.2.2.1
    exact J_iret E hr dX8_one_33 ⟨o5, k6, trivial, f7⟩
  refine J_iload_n E dX8_one_0 1 rfl ?_
  refine J_iconst E 0 dX8_one_1 (by decide) ?_
  refine J_iconst E 5 dX8_one_2 (by decide) ?_
  refine J_callSI E cal_X8_in wd996 [.int x_0, .int 0, .int 5] [] (ct_X8_in l D dA G v w (hOk) x_0 0 5) rfl rfl (Nat.le_of_ble_eq_true rfl) ⟨rfl, rfl⟩ ⟨Nat.le_of_ble_eq_true rfl, Nat.le_of_ble_eq_true rfl⟩ dX8_one_3 (fun x12 v9 w10 p11 => ?_)
  rw [p11.1, p11.2.1]
  have b13 : Bd x12 0 1 := p11.2.2.1
  refine J_if_eq E 29 dX8_one_6 (by decide) (fun c14 => ?_) (fun c14 => ?_)
  · have b15 : Bd x12 0 0 := Bd.eq_l c14 b13 (Bd.lit 0 0 (by decide)) 0 0 (by decide)
    have g16 : ¬ (0 ≤ x_0 ∧ x_0 ≤ 5) := (p11.2.2.2.2).resolve_left (fun h9 => h9 c14)
    exact J.sub [0] rfl (J29)
  · have b17 : Bd x12 1 1 := (Bd.ne_lo c14 b13 (Bd.lit 0 0 (by decide))).w _ _ (by decide)
    have g18 := (p11.2.2.2.1).resolve_left c14
    have b19 : Bd x_0 0 I1 := Bd.le_r g18.1 (Bd.lit 0 0 (by decide)) (Bd.any x_0) 0 (by decide)
    have b20 : Bd x_0 0 5 := Bd.le_l g18.2 b19 (Bd.lit 5 5 (by decide)) 5 (by decide)
    refine J_iload_n E dX8_one_9 2 rfl ?_
    refine J_iconst E 1 dX8_one_10 (by decide) ?_
    refine J_bipush E 9 dX8_one_11 (by decide) ?_
    refine J_callSI E cal_X8_in wd996 [.int x_1, .int 1, .int 9] [] (ct_X8_in l D dA G v w (hOk) x_1 1 9) rfl rfl (Nat.le_of_ble_eq_true rfl) ⟨rfl, rfl⟩ ⟨Nat.le_of_ble_eq_true rfl, Nat.le_of_ble_eq_true rfl⟩ dX8_one_13 (fun x24 v21 w22 p23 => ?_)
    rw [p23.1, p23.2.1]
    have b25 : Bd x24 0 1 := p23.2.2.1
    refine J_if_eq E 29 dX8_one_16 (by decide) (fun c26 => ?_) (fun c26 => ?_)
    · have b27 : Bd x24 0 0 := Bd.eq_l c26 b25 (Bd.lit 0 0 (by decide)) 0 0 (by decide)
      have g28 : ¬ (1 ≤ x_1 ∧ x_1 ≤ 9) := (p23.2.2.2.2).resolve_left (fun h9 => h9 c26)
      exact J.sub [0] rfl (J29)
    · have b29 : Bd x24 1 1 := (Bd.ne_lo c26 b25 (Bd.lit 0 0 (by decide))).w _ _ (by decide)
      have g30 := (p23.2.2.2.1).resolve_left c26
      have b31 : Bd x_1 1 I1 := Bd.le_r g30.1 (Bd.lit 1 1 (by decide)) (Bd.any x_1) 1 (by decide)
      have b32 : Bd x_1 1 9 := Bd.le_l g30.2 b31 (Bd.lit 9 9 (by decide)) 9 (by decide)
      refine J_iload_n E dX8_one_19 3 rfl ?_
      refine J_iconst E 0 dX8_one_20 (by decide) ?_
      refine J_bipush E 99 dX8_one_21 (by decide) ?_
      refine J_callSI E cal_X8_in wd996 [.int x_2, .int 0, .int 99] [] (ct_X8_in l D dA G v w (hOk) x_2 0 99) rfl rfl (Nat.le_of_ble_eq_true rfl) ⟨rfl, rfl⟩ ⟨Nat.le_of_ble_eq_true rfl, Nat.le_of_ble_eq_true rfl⟩ dX8_one_23 (fun x36 v33 w34 p35 => ?_)
      rw [p35.1, p35.2.1]
      have b37 : Bd x36 0 1 := p35.2.2.1
      refine J_if_ne E 34 dX8_one_26 (by decide) (fun c38 => ?_) (fun c38 => ?_)
      · have b39 : Bd x36 1 1 := (Bd.ne_lo c38 b37 (Bd.lit 0 0 (by decide))).w _ _ (by decide)
        have g40 := (p35.2.2.2.1).resolve_left c38
        have b41 : Bd x_2 0 I1 := Bd.le_r g40.1 (Bd.lit 0 0 (by decide)) (Bd.any x_2) 0 (by decide)
        have b42 : Bd x_2 0 99 := Bd.le_l g40.2 b41 (Bd.lit 99 99 (by decide)) 99 (by decide)
        refine J_aload_n E dX8_one_34 0 rfl ?_
        refine J_getR E in_X8 rfl (S_X8.h S0) 1 (by decide) wd936 rfl dX8_one_35 ?_
        refine J_iconst E 1 dX8_one_38 (by decide) ?_
        refine J_iald1 E (S_X8.f1 S0) (Bd.in (Bd.lit 1 1 (by decide)) (by decide)) dX8_one_39 (fun x43 e44 => ?_)
        have b45 : Bd x43 0 7 := Bd.e (Ok.ld hOk (S_X8.f1 S0) (Bd.lit 1 1 (by decide)) 1 1 0 7 (by decide) (by decide +kernel)) e44
        have e46 : x43 = v (rf G h0 1) 1 := by rw [e44, Bd.ix (Bd.lit 1 1 (by decide)) 1 rfl]
        refine J_bipush E 7 dX8_one_40 (by decide) ?_
        refine J_icmp_ne E 52 dX8_one_42 (by decide) (fun c47 => ?_) (fun c47 => ?_)
        · have b48 : Bd x43 0 6 := (Bd.ne_hi c47 b45 (Bd.lit 7 7 (by decide))).w _ _ (by decide)
          refine J_aload_n E dX8_one_52 0 rfl ?_
          refine J_iconst E 0 dX8_one_53 (by decide) ?_
          refine J_iload_n E dX8_one_54 1 rfl ?_
          refine J_iload_n E dX8_one_55 2 rfl ?_
          refine J_iload_n E dX8_one_56 3 rfl ?_
          refine J_callVI E cal_X8_join wd1015 rfl (S_X8.h S0) [.int 0, .int x_0, .int x_1, .int x_2] [] (ct_X8_join_0 l D dA G v w (hOk) h0 S0 x_0 b20 x_1 b32 x_2 b42 x43 (e46) b48) rfl rfl (Nat.le_of_ble_eq_true rfl) ⟨rfl, rfl⟩ ⟨Nat.le_of_ble_eq_true rfl, Nat.le_of_ble_eq_true rfl⟩ dX8_one_57 (fun x52 v49 w50 p51 => ?_)
          have o53 := p51.1
          have k54 : Kp G v v49 := (Kp.rf).tr p51.2.1
          have f55 : Fr G [103, 1084] v v49 := Fr.tr Fr.rf (p51.2.2.2) (by decide)
          have b56 : Bd x52 0 6 := p51.2.2.1
          exact J_iret E hr dX8_one_60 ⟨o53, k54, trivial, f55⟩
        · have b57 : Bd x43 7 7 := Bd.eq_l c47 b45 (Bd.lit 7 7 (by decide)) 7 7 (by decide)
          refine J_aload_n E dX8_one_45 0 rfl ?_
          refine J_callVI E cal_X8_full wd1003 rfl (S_X8.h S0) [] [] (ct_X8_full l D dA G v w (hOk) h0 S0) rfl rfl (Nat.le_of_ble_eq_true rfl) ⟨rfl, rfl⟩ ⟨Nat.le_of_ble_eq_true rfl, Nat.le_of_ble_eq_true rfl⟩ dX8_one_46 (fun x61 v58 w59 p60 => ?_)
          have o62 := p60.1
          have k63 : Kp G v v58 := (Kp.rf).tr p60.2.1
          have f64 : Fr G [103, 1084] v v58 := Fr.tr Fr.rf (p60.2.2.2) (by decide)
          have b65 : Bd x61 (-4) (-4) := p60.2.2.1
          refine J_goto E 60 dX8_one_49 (by decide) ?_
          exact J_iret E hr dX8_one_60 ⟨o62, k63, trivial, f64⟩
      · have b66 : Bd x36 0 0 := Bd.eq_l c38 b37 (Bd.lit 0 0 (by decide)) 0 0 (by decide)
        have g67 : ¬ (0 ≤ x_2 ∧ x_2 ≤ 99) := (p35.2.2.2.2).resolve_left (fun h9 => h9 c38)
        exact J.sub [0] rfl (J29)

abbrev rm_X8_type : Room := { frames := 1, cells := 0, slots := 0, locals := 22 }
set_option maxHeartbeats 4000000 in
set_option maxRecDepth 100000 in
theorem ct_X8_type (l : Launch) (D : va_G) (dA : Nat → ClassId) (G : Gm) (v : Mv) (w : Mw) (hOk : Ok G v w) (h0 : Nat) (S0 : S_X8 G h0) (x_0 : Int32) : CtI l yX8_type cX8_type 2 (some .int) rm_X8_type D dA G [.ref h0, .int x_0] v w (fun r v1 w1 => Ok G v1 w1 ∧ Kx G (fun a k => a = h0 ∧ k = 5) v v1 ∧ True ∧ Fr G [8, 103, 10250] v v1) := by
  refine CtI.of RX8 [(0, .ref h0), (1, .int x_0)] (Nat.le_of_ble_eq_true rfl) rfl (by decide) rfl ?_
  intro p e s m args below meth c E hr
  refine J_iload_n E dX8_type_0 1 rfl ?_
  refine J_iconst E 0 dX8_type_1 (by decide) ?_
  refine J_bipush E 127 dX8_type_2 (by decide) ?_
  refine J_callSI E cal_X8_in wd996 [.int x_0, .int 0, .int 127] [] (ct_X8_in l D dA G v w (hOk) x_0 0 127) rfl rfl (Nat.le_of_ble_eq_true rfl) ⟨rfl, rfl⟩ ⟨Nat.le_of_ble_eq_true rfl, Nat.le_of_ble_eq_true rfl⟩ dX8_type_4 (fun x4 v1 w2 p3 => ?_)
  rw [p3.1, p3.2.1]
  have b5 : Bd x4 0 1 := p3.2.2.1
  refine J_if_ne E 15 dX8_type_7 (by decide) (fun c6 => ?_) (fun c6 => ?_)
  · have b7 : Bd x4 1 1 := (Bd.ne_lo c6 b5 (Bd.lit 0 0 (by decide))).w _ _ (by decide)
    have g8 := (p3.2.2.2.1).resolve_left c6
    have b9 : Bd x_0 0 I1 := Bd.le_r g8.1 (Bd.lit 0 0 (by decide)) (Bd.any x_0) 0 (by decide)
    have b10 : Bd x_0 0 127 := Bd.le_l g8.2 b9 (Bd.lit 127 127 (by decide)) 127 (by decide)
    refine J_aload_n E dX8_type_15 0 rfl ?_
    refine J_getI E in_X8 rfl (S_X8.h S0) 5 (by decide) wd940 rfl dX8_type_16 (fun x11 e12 => ?_)
    have b13 : Bd x11 0 150 := Ok.fd hOk e12 (S_X8.h S0) rfl
    refine J_sipush E 150 dX8_type_19 (by decide) ?_
    refine J_icmp_ne E 30 dX8_type_22 (by decide) (fun c14 => ?_) (fun c14 => ?_)
    · have b15 : Bd x11 0 149 := (Bd.ne_hi c14 b13 (Bd.lit 150 150 (by decide))).w _ _ (by decide)
      refine J_aload_n E dX8_type_30 0 rfl ?_
      refine J_getR E in_X8 rfl (S_X8.h S0) 4 (by decide) wd939 rfl dX8_type_31 ?_
      refine J_aload_n E dX8_type_34 0 rfl ?_
      refine J_getI E in_X8 rfl (S_X8.h S0) 5 (by decide) wd940 rfl dX8_type_35 (fun x16 e17 => ?_)
      rw [show x16 = x11 from e17.trans (e12).symm]
      refine J_iload_n E dX8_type_38 1 rfl ?_
      refine J_i2b E dX8_type_39 (fun x18 e19 => ?_)
      have b20 : Bd x18 (-128) 127 := Bd.byte e19
      refine J_bast1 E (S_X8.f4 S0) (Bd.in b15 (by decide)) dX8_type_40 (fun v21 e22 => ?_)
      have b25 : Bd (vp_nar .byte x18) (-128) 127 := Bd.narB _
      have o23 : Ok G v21 w := by rw [e22]; exact Ok.sv hOk (S_X8.f4 S0) b15 b25 0 150 (by decide) (by decide +kernel)
      have k24 : Kx G (fun a k => a = h0 ∧ k = 5) v v21 := by rw [e22]; exact Kx.sv Kx.rf (S_X8.f4 S0) b15 0 150 (-128) 127 (by decide) (by decide +kernel)
      have f26 : Fr G [8, 103, 10250] v v21 := Fr.st Fr.rf e22 (S_X8.f4 S0) rfl
      have e27 : x11 = v21 h0 5 := by rw [e22, stv_a (tg_ne (S_X8.h S0) ((S_X8.f4 S0)) rfl)]; exact e12
      refine J_aload_n E dX8_type_41 0 rfl ?_
      refine J_dup E dX8_type_42 rfl ?_
      refine J_getI E in_X8 rfl (S_X8.h S0) 5 (by decide) wd940 rfl dX8_type_43 (fun x28 e29 => ?_)
      rw [show x28 = x11 from e29.trans (e27).symm]
      refine J_iconst E 1 dX8_type_46 (by decide) ?_
      refine J_iadd E dX8_type_47 (fun x30 e31 => ?_)
      have b32 : Bd x30 1 150 := (Bd.add e31 b15 (Bd.lit 1 1 (by decide)) (by decide)).w _ _ (by decide)
      refine J_pI E in_X8 rfl (S_X8.h S0) 5 (by decide) wd940 tyX8 tyX8_ok nmX8 rfl rfl .int (by decide +kernel) rfl rfl dX8_type_48 (fun v33 e34 => ?_)
      have o35 : Ok G v33 w := Ok.pf o23 e34 (S_X8.h S0) rfl (b32.w 0 150 (by decide))
      have k36 : Kx G (fun a k => a = h0 ∧ k = 5) v v33 := Kx.here k24 e34 ⟨rfl, rfl⟩
      have f37 : Fr G [8, 103, 10250] v v33 := Fr.st f26 e34 (S_X8.h S0) rfl
      have e38 : x30 = v33 h0 5 := by rw [e34, stv_s]
      refine J_aload_n E dX8_type_51 0 rfl ?_
      refine J_getI E in_X8 rfl (S_X8.h S0) 5 (by decide) wd940 rfl dX8_type_52 (fun x39 e40 => ?_)
      rw [show x39 = x30 from e40.trans (e38).symm]
      exact J_iret E hr dX8_type_55 ⟨o35, k36, trivial, f37⟩
    · have b41 : Bd x11 150 150 := Bd.eq_l c14 b13 (Bd.lit 150 150 (by decide)) 150 150 (by decide)
      refine J_aload_n E dX8_type_25 0 rfl ?_
      refine J_callVI E cal_X8_full wd1003 rfl (S_X8.h S0) [] [] (ct_X8_full l D dA G v w (hOk) h0 S0) rfl rfl (Nat.le_of_ble_eq_true rfl) ⟨rfl, rfl⟩ ⟨Nat.le_of_ble_eq_true rfl, Nat.le_of_ble_eq_true rfl⟩ dX8_type_26 (fun x45 v42 w43 p44 => ?_)
      have o46 := p44.1
      have k47 : Kx G (fun a k => a = h0 ∧ k = 5) v v42 := (Kx.rf).trp p44.2.1
      have f48 : Fr G [8, 103, 10250] v v42 := Fr.tr Fr.rf (p44.2.2.2) (by decide)
      have b49 : Bd x45 (-4) (-4) := p44.2.2.1
      exact J_iret E hr dX8_type_29 ⟨o46, k47, trivial, f48⟩
  · have b50 : Bd x4 0 0 := Bd.eq_l c6 b5 (Bd.lit 0 0 (by decide)) 0 0 (by decide)
    have g51 : ¬ (0 ≤ x_0 ∧ x_0 ≤ 127) := (p3.2.2.2.2).resolve_left (fun h9 => h9 c6)
    refine J_aload_n E dX8_type_10 0 rfl ?_
    refine J_callVI E cal_X8_bad wd999 rfl (S_X8.h S0) [] [] (ct_X8_bad l D dA G v w (hOk) h0 S0) rfl rfl (Nat.le_of_ble_eq_true rfl) ⟨rfl, rfl⟩ ⟨Nat.le_of_ble_eq_true rfl, Nat.le_of_ble_eq_true rfl⟩ dX8_type_11 (fun x55 v52 w53 p54 => ?_)
    have o56 := p54.1
    have k57 : Kx G (fun a k => a = h0 ∧ k = 5) v v52 := (Kx.rf).trp p54.2.1
    have f58 : Fr G [8, 103, 10250] v v52 := Fr.tr Fr.rf (p54.2.2.2) (by decide)
    have b59 : Bd x55 (-2) (-2) := p54.2.2.1
    exact J_iret E hr dX8_type_14 ⟨o56, k57, trivial, f58⟩

abbrev rm_X8_clear : Room := { frames := 0, cells := 0, slots := 0, locals := 0 }
set_option maxHeartbeats 4000000 in
set_option maxRecDepth 100000 in
theorem ct_X8_clear (l : Launch) (D : va_G) (dA : Nat → ClassId) (G : Gm) (v : Mv) (w : Mw) (hOk : Ok G v w) (h0 : Nat) (S0 : S_X8 G h0) : CtI l yX8_clear cX8_clear 2 (some .int) rm_X8_clear D dA G [.ref h0] v w (fun r v1 w1 => Ok G v1 w1 ∧ Kx G (fun a k => a = h0 ∧ k = 5) v v1 ∧ Bd r 0 150 ∧ Fr G [8] v v1) := by
  refine CtI.of RX8 [(0, .ref h0)] (Nat.le_of_ble_eq_true rfl) rfl (by decide) rfl ?_
  intro p e s m args below meth c E hr
  refine J_aload_n E dX8_clear_0 0 rfl ?_
  refine J_getI E in_X8 rfl (S_X8.h S0) 5 (by decide) wd940 rfl dX8_clear_1 (fun x1 e2 => ?_)
  have b3 : Bd x1 0 150 := Ok.fd hOk e2 (S_X8.h S0) rfl
  refine J_istore_n E [(1, .int x1), (0, .ref h0)] dX8_clear_4 rfl (by decide) rfl ?_
  refine J_aload_n E dX8_clear_5 1 rfl ?_
  refine J_iconst E 0 dX8_clear_6 (by decide) ?_
  refine J_pI E in_X8 rfl (S_X8.h S0) 5 (by decide) wd940 tyX8 tyX8_ok nmX8 rfl rfl .int (by decide +kernel) rfl rfl dX8_clear_7 (fun v4 e5 => ?_)
  have o6 : Ok G v4 w := Ok.pf hOk e5 (S_X8.h S0) rfl ((Bd.lit 0 0 (by decide)).w 0 150 (by decide))
  have k7 : Kx G (fun a k => a = h0 ∧ k = 5) v v4 := Kx.here Kx.rf e5 ⟨rfl, rfl⟩
  have f8 : Fr G [8] v v4 := Fr.st Fr.rf e5 (S_X8.h S0) rfl
  have e9 : (0 : Int32) = v4 h0 5 := by rw [e5, stv_s]
  refine J_iload_n E dX8_clear_10 0 rfl ?_
  exact J_iret E hr dX8_clear_11 ⟨o6, k7, b3, f8⟩

abbrev rm_X8_here : Room := { frames := 0, cells := 0, slots := 0, locals := 0 }
set_option maxHeartbeats 4000000 in
set_option maxRecDepth 100000 in
theorem ct_X8_here (l : Launch) (D : va_G) (dA : Nat → ClassId) (G : Gm) (v : Mv) (w : Mw) (hOk : Ok G v w) (h0 : Nat) (S0 : S_X8 G h0) : CtI l yX8_here cX8_here 1 (some .int) rm_X8_here D dA G [.ref h0] v w (fun r v1 w1 => v1 = v ∧ w1 = w ∧ Bd r (-128) 127 ∧ r = hF G v h0 ∧ (Bd r (-1) (-1) ∨ Bd (v h0 6) 0 149)) := by
  refine CtI.of RX8 [(0, .ref h0)] (Nat.le_of_ble_eq_true rfl) rfl (by decide) rfl ?_
  intro p e s m args below meth c E hr
  refine J_aload_n E dX8_here_0 0 rfl ?_
  refine J_getI E in_X8 rfl (S_X8.h S0) 6 (by decide) wd941 rfl dX8_here_1 (fun x1 e2 => ?_)
  have b3 : Bd x1 0 150 := Ok.fd hOk e2 (S_X8.h S0) rfl
  refine J_aload_n E dX8_here_4 0 rfl ?_
  refine J_getI E in_X8 rfl (S_X8.h S0) 5 (by decide) wd940 rfl dX8_here_5 (fun x4 e5 => ?_)
  have b6 : Bd x4 0 150 := Ok.fd hOk e5 (S_X8.h S0) rfl
  refine J_icmp_ge E 23 dX8_here_8 (by decide) (fun c7 => ?_) (fun c7 => ?_)
  · refine J_iconst E (-1) dX8_here_23 (by decide) ?_
    exact J_iret E hr dX8_here_24 ⟨rfl, rfl, ((Bd.lit (-1) (-1) (by decide)).w (-128) 127 (by decide)), (by unfold hF; rw [if_neg (by rw [← e2, ← e5]; exact fun q => nle_of_lt q c7)]), Or.inl (Bd.lit (-1) (-1) (by decide))⟩
  · have b8 : Bd x1 0 149 := Bd.lt_l (nle c7) b3 b6 149 (by decide)
    have b9 : Bd x4 1 150 := Bd.lt_r (nle c7) b3 b6 1 (by decide)
    refine J_aload_n E dX8_here_11 0 rfl ?_
    refine J_getR E in_X8 rfl (S_X8.h S0) 4 (by decide) wd939 rfl dX8_here_12 ?_
    refine J_aload_n E dX8_here_15 0 rfl ?_
    refine J_getI E in_X8 rfl (S_X8.h S0) 6 (by decide) wd941 rfl dX8_here_16 (fun x10 e11 => ?_)
    rw [show x10 = x1 from e11.trans (e2).symm]
    refine J_bald1 E (S_X8.f4 S0) (Bd.in b8 (by decide)) dX8_here_19 (fun x12 e13 => ?_)
    have b14 : Bd x12 (-128) 127 := Bd.e (Ok.ld hOk (S_X8.f4 S0) b8 0 150 (-128) 127 (by decide) (by decide +kernel)) e13
    refine J_goto E 24 dX8_here_20 (by decide) ?_
    exact J_iret E hr dX8_here_24 ⟨rfl, rfl, b14, (by unfold hF; rw [if_pos (by rw [← e2, ← e5]; exact nle c7), ← e2]; exact e13), Or.inr (Bd.e b8 e2.symm)⟩


abbrev rm_X8_spells_3 : Room := { frames := 0, cells := 0, slots := 0, locals := 0 }
set_option maxHeartbeats 4000000 in
set_option maxRecDepth 100000 in
theorem ct_X8_spells_3 (l : Launch) (D : va_G) (dA : Nat → ClassId) (G : Gm) (v : Mv) (w : Mw) (hOk : Ok G v w) (h0 : Nat) (S0 : S_X8 G h0) (x_0 : Int32) (bx_0 : Bd x_0 111 111) (x_1 : Int32) (bx_1 : Bd x_1 110 119) (x_2 : Int32) (bx_2 : Bd x_2 101 110) (x_3 : Int32) (bx_3 : Bd x_3 0 0) (x_4 : Int32) (bx_4 : Bd x_4 0 0) (x_5 : Int32) (bx_5 : Bd x_5 0 0) : CtI l yX8_spells cX8_spells 9 (some .boolean) rm_X8_spells_3 D dA G [.ref h0, .int x_0, .int x_1, .int x_2, .int x_3, .int x_4, .int x_5, .int 3] v w (fun r v1 w1 => v1 = v ∧ w1 = w ∧ Bd r 0 1 ∧ True) := by
  refine CtI.of RX8 [(0, .ref h0), (1, .int x_0), (2, .int x_1), (3, .int x_2), (4, .int x_3), (5, .int x_4), (6, .int x_5), (7, .int 3)] (Nat.le_of_ble_eq_true rfl) rfl (by decide) rfl ?_
  intro p e s m args below meth c E hr
  have J148 :  J p l e rm_X8_spells_3 s m args below meth c 0 0 (MQ below (QcI D dA G (fun r v1 w1 => v1 = v ∧ w1 = w ∧ Bd r 0 1 ∧ True)) args s 0 0 (dm G)) D dA G (dm G) s.heap 9 v w [] 148 [] := by
    refine J_iconst E 1 dX8_spells_148 (by decide) ?_
    refine J_goto E 153 dX8_spells_149 (by decide) ?_
    exact J_zret E hr (Bd.z (Bd.lit 1 1 (by decide)) (by decide)) dX8_spells_153 ⟨rfl, rfl, ((Bd.lit 1 1 (by decide)).w 0 1 (by decide)), trivial⟩
  have J118 : Bd x_5 0 0 → Bd 3 3 3 → ∀ x3 : Int32, Bd x3 0 1 → ∀ x6 : Int32, x6 = v h0 7 → Bd x6 0 150 → (x3 = 0 ∨ Bd x6 0 147) → J p l e rm_X8_spells_3 s m args below meth c 0 0 (MQ below (QcI D dA G (fun r v1 w1 => v1 = v ∧ w1 = w ∧ Bd r 0 1 ∧ True)) args s 0 0 (dm G)) D dA G (dm G) s.heap 9 v w [(0, .ref h0), (6, .int x_5), (7, .int 3)] 118 [.int x3] := by
    intro b1 b2 x3 b4 x6 e7 b5 h8
    refine J_istore E [(8, .int x3), (0, .ref h0), (6, .int x_5), (7, .int 3)] dX8_spells_118 (by decide) rfl ?_
    refine J_iload E dX8_spells_120 0 rfl ?_
    refine J_if_eq E 152 dX8_spells_122 (by decide) (fun c9 => ?_) (fun c9 => ?_)
    · have b10 : Bd x3 0 0 := Bd.eq_l c9 b4 (Bd.lit 0 0 (by decide)) 0 0 (by decide)
      refine J_iconst E 0 dX8_spells_152 (by decide) ?_
      exact J_zret E hr (Bd.z (Bd.lit 0 0 (by decide)) (by decide)) dX8_spells_153 ⟨rfl, rfl, ((Bd.lit 0 0 (by decide)).w 0 1 (by decide)), trivial⟩
    · have b11 : Bd x3 1 1 := (Bd.ne_lo c9 b4 (Bd.lit 0 0 (by decide))).w _ _ (by decide)
      have b12 : Bd x6 0 147 := h8.resolve_left c9
      refine J_iload E dX8_spells_125 3 rfl ?_
      refine J_bipush E 6 dX8_spells_127 (by decide) ?_
      refine J_icmp_lt E 148 dX8_spells_129 (by decide) (fun c13 => ?_) (fun c13 => ?_)
      · exact J.sub [] rfl (J148)
      · exact Bd.no (Bd.le_l (nlt c13) (Bd.lit 6 6 (by decide)) (Bd.lit 3 3 (by decide)) 3 (by decide)) (by decide)
  have J117 : Bd x_5 0 0 → Bd 3 3 3 → J p l e rm_X8_spells_3 s m args below meth c 0 0 (MQ below (QcI D dA G (fun r v1 w1 => v1 = v ∧ w1 = w ∧ Bd r 0 1 ∧ True)) args s 0 0 (dm G)) D dA G (dm G) s.heap 9 v w [(0, .ref h0), (6, .int x_5), (7, .int 3)] 117 [] := by
    intro b14 b15
    refine J_iconst E 0 dX8_spells_117 (by decide) ?_
    obtain ⟨x16, e17⟩ : ∃ z : Int32, z = v h0 7 := ⟨_, rfl⟩
    have b18 : Bd x16 0 150 := Ok.fd hOk e17 (S_X8.h S0) rfl
    exact J.sub [0, 1, 2] rfl (J118 b14 (Bd.lit 3 3 (by decide)) 0 ((Bd.lit 0 0 (by decide)).w 0 1 (by decide)) x16 (e17) b18 (Or.inl rfl))
  have J113 : Bd x_5 0 0 → Bd 3 3 3 → ∀ x22 : Int32, x22 = v h0 7 → Bd x22 0 147 → J p l e rm_X8_spells_3 s m args below meth c 0 0 (MQ below (QcI D dA G (fun r v1 w1 => v1 = v ∧ w1 = w ∧ Bd r 0 1 ∧ True)) args s 0 0 (dm G)) D dA G (dm G) s.heap 9 v w [(0, .ref h0), (6, .int x_5), (7, .int 3)] 113 [] := by
    intro b19 b20 x22 e23 b21
    refine J_iconst E 1 dX8_spells_113 (by decide) ?_
    refine J_goto E 118 dX8_spells_114 (by decide) ?_
    exact J.sub [0, 1, 2] rfl (J118 b19 (Bd.lit 3 3 (by decide)) 1 ((Bd.lit 1 1 (by decide)).w 0 1 (by decide)) x22 (e23) (b21.w 0 150 (by decide)) (Or.inr b21))
  have J91 : Bd x_4 0 0 → Bd x_5 0 0 → Bd 3 3 3 → ∀ x28 : Int32, x28 = v h0 7 → Bd x28 0 147 → J p l e rm_X8_spells_3 s m args below meth c 0 0 (MQ below (QcI D dA G (fun r v1 w1 => v1 = v ∧ w1 = w ∧ Bd r 0 1 ∧ True)) args s 0 0 (dm G)) D dA G (dm G) s.heap 9 v w [(0, .ref h0), (5, .int x_4), (6, .int x_5), (7, .int 3)] 91 [] := by
    intro b24 b25 b26 x28 e29 b27
    refine J_iload E dX8_spells_91 3 rfl ?_
    refine J_iconst E 5 dX8_spells_93 (by decide) ?_
    refine J_icmp_lt E 113 dX8_spells_94 (by decide) (fun c30 => ?_) (fun c30 => ?_)
    · exact J.sub [0, 2, 3] rfl (J113 b25 (Bd.lit 3 3 (by decide)) x28 (e29) b27)
    · exact Bd.no (Bd.le_l (nlt c30) (Bd.lit 5 5 (by decide)) (Bd.lit 3 3 (by decide)) 3 (by decide)) (by decide)
  have J62 : Bd x_3 0 0 → Bd x_4 0 0 → Bd x_5 0 0 → Bd 3 3 3 → ∀ x35 : Int32, Bd x35 0 1 → ∀ x38 : Int32, x38 = v h0 7 → Bd x38 0 150 → (x35 = 0 ∨ Bd x38 0 147) → J p l e rm_X8_spells_3 s m args below meth c 0 0 (MQ below (QcI D dA G (fun r v1 w1 => v1 = v ∧ w1 = w ∧ Bd r 0 1 ∧ True)) args s 0 0 (dm G)) D dA G (dm G) s.heap 9 v w [(0, .ref h0), (4, .int x_3), (5, .int x_4), (6, .int x_5), (7, .int 3)] 62 [.int x35] := by
    intro b31 b32 b33 b34 x35 b36 x38 e39 b37 h40
    refine J_istore E [(8, .int x35), (0, .ref h0), (4, .int x_3), (5, .int x_4), (6, .int x_5), (7, .int 3)] dX8_spells_62 (by decide) rfl ?_
    refine J_iload E dX8_spells_64 0 rfl ?_
    refine J_if_eq E 117 dX8_spells_66 (by decide) (fun c41 => ?_) (fun c41 => ?_)
    · have b42 : Bd x35 0 0 := Bd.eq_l c41 b36 (Bd.lit 0 0 (by decide)) 0 0 (by decide)
      exact J.sub [1, 4, 5] rfl (J117 b33 (Bd.lit 3 3 (by decide)))
    · have b43 : Bd x35 1 1 := (Bd.ne_lo c41 b36 (Bd.lit 0 0 (by decide))).w _ _ (by decide)
      have b44 : Bd x38 0 147 := h40.resolve_left c41
      refine J_iload E dX8_spells_69 5 rfl ?_
      refine J_iconst E 4 dX8_spells_71 (by decide) ?_
      refine J_icmp_lt E 91 dX8_spells_72 (by decide) (fun c45 => ?_) (fun c45 => ?_)
      · exact J.sub [1, 3, 4, 5] rfl (J91 b32 b33 (Bd.lit 3 3 (by decide)) x38 (e39) b44)
      · exact Bd.no (Bd.le_l (nlt c45) (Bd.lit 4 4 (by decide)) (Bd.lit 3 3 (by decide)) 3 (by decide)) (by decide)
  have J61 : Bd x_3 0 0 → Bd x_4 0 0 → Bd x_5 0 0 → Bd 3 3 3 → J p l e rm_X8_spells_3 s m args below meth c 0 0 (MQ below (QcI D dA G (fun r v1 w1 => v1 = v ∧ w1 = w ∧ Bd r 0 1 ∧ True)) args s 0 0 (dm G)) D dA G (dm G) s.heap 9 v w [(0, .ref h0), (4, .int x_3), (5, .int x_4), (6, .int x_5), (7, .int 3)] 61 [] := by
    intro b46 b47 b48 b49
    refine J_iconst E 0 dX8_spells_61 (by decide) ?_
    obtain ⟨x50, e51⟩ : ∃ z : Int32, z = v h0 7 := ⟨_, rfl⟩
    have b52 : Bd x50 0 150 := Ok.fd hOk e51 (S_X8.h S0) rfl
    exact J.sub [0, 1, 2, 3, 4] rfl (J62 b46 b47 b48 (Bd.lit 3 3 (by decide)) 0 ((Bd.lit 0 0 (by decide)).w 0 1 (by decide)) x50 (e51) b52 (Or.inl rfl))
  refine J_aload_n E dX8_spells_0 0 rfl ?_
  refine J_getI E in_X8 rfl (S_X8.h S0) 6 (by decide) wd941 rfl dX8_spells_1 (fun x53 e54 => ?_)
  have b55 : Bd x53 0 150 := Ok.fd hOk e54 (S_X8.h S0) rfl
  refine J_aload_n E dX8_spells_4 0 rfl ?_
  refine J_getI E in_X8 rfl (S_X8.h S0) 7 (by decide) wd942 rfl dX8_spells_5 (fun x56 e57 => ?_)
  have b58 : Bd x56 0 150 := Ok.fd hOk e57 (S_X8.h S0) rfl
  refine J_isub E dX8_spells_8 (fun x59 e60 => ?_)
  have b61 : Bd x59 (-150) 150 := (Bd.sub e60 b55 b58 (by decide)).w _ _ (by decide)
  refine J_iload E dX8_spells_9 7 rfl ?_
  refine J_icmp_ne E 61 dX8_spells_11 (by decide) (fun c62 => ?_) (fun c62 => ?_)
  · exact J.sub [0, 4, 5, 6, 7] rfl (J61 bx_3 bx_4 bx_5 (Bd.lit 3 3 (by decide)))
  · have b63 : Bd x59 3 3 := Bd.eq_l c62 b61 (Bd.lit 3 3 (by decide)) 3 3 (by decide)
    have b64 : Bd x56 0 147 := Bd.suby e60 b55 b58 b63 0 147 (by decide)
    refine J_aload_n E dX8_spells_14 0 rfl ?_
    refine J_getR E in_X8 rfl (S_X8.h S0) 4 (by decide) wd939 rfl dX8_spells_15 ?_
    refine J_aload_n E dX8_spells_18 0 rfl ?_
    refine J_getI E in_X8 rfl (S_X8.h S0) 7 (by decide) wd942 rfl dX8_spells_19 (fun x65 e66 => ?_)
    rw [show x65 = x56 from e66.trans (e57).symm]
    refine J_bald1 E (S_X8.f4 S0) (Bd.in b64 (by decide)) dX8_spells_22 (fun x67 e68 => ?_)
    have b69 : Bd x67 (-128) 127 := Bd.e (Ok.ld hOk (S_X8.f4 S0) b64 0 148 (-128) 127 (by decide) (by decide +kernel)) e68
    refine J_iload_n E dX8_spells_23 1 rfl ?_
    refine J_icmp_ne E 61 dX8_spells_24 (by decide) (fun c70 => ?_) (fun c70 => ?_)
    · exact J.sub [0, 4, 5, 6, 7] rfl (J61 bx_3 bx_4 bx_5 (Bd.lit 3 3 (by decide)))
    · have b71 : Bd x67 111 111 := Bd.eq_l c70 b69 bx_0 111 111 (by decide)
      refine J_aload_n E dX8_spells_27 0 rfl ?_
      refine J_getR E in_X8 rfl (S_X8.h S0) 4 (by decide) wd939 rfl dX8_spells_28 ?_
      refine J_aload_n E dX8_spells_31 0 rfl ?_
      refine J_getI E in_X8 rfl (S_X8.h S0) 7 (by decide) wd942 rfl dX8_spells_32 (fun x72 e73 => ?_)
      rw [show x72 = x56 from e73.trans (e57).symm]
      refine J_iconst E 1 dX8_spells_35 (by decide) ?_
      refine J_iadd E dX8_spells_36 (fun x74 e75 => ?_)
      have b76 : Bd x74 1 148 := (Bd.add e75 b64 (Bd.lit 1 1 (by decide)) (by decide)).w _ _ (by decide)
      refine J_bald1 E (S_X8.f4 S0) (Bd.in b76 (by decide)) dX8_spells_37 (fun x77 e78 => ?_)
      have b79 : Bd x77 (-128) 127 := Bd.e (Ok.ld hOk (S_X8.f4 S0) b76 1 148 (-128) 127 (by decide) (by decide +kernel)) e78
      refine J_iload_n E dX8_spells_38 2 rfl ?_
      refine J_icmp_ne E 61 dX8_spells_39 (by decide) (fun c80 => ?_) (fun c80 => ?_)
      · exact J.sub [0, 4, 5, 6, 7] rfl (J61 bx_3 bx_4 bx_5 (Bd.lit 3 3 (by decide)))
      · have b81 : Bd x77 110 119 := Bd.eq_l c80 b79 bx_1 110 119 (by decide)
        refine J_aload_n E dX8_spells_42 0 rfl ?_
        refine J_getR E in_X8 rfl (S_X8.h S0) 4 (by decide) wd939 rfl dX8_spells_43 ?_
        refine J_aload_n E dX8_spells_46 0 rfl ?_
        refine J_getI E in_X8 rfl (S_X8.h S0) 7 (by decide) wd942 rfl dX8_spells_47 (fun x82 e83 => ?_)
        rw [show x82 = x56 from e83.trans (e57).symm]
        refine J_iconst E 2 dX8_spells_50 (by decide) ?_
        refine J_iadd E dX8_spells_51 (fun x84 e85 => ?_)
        have b86 : Bd x84 2 149 := (Bd.add e85 b64 (Bd.lit 2 2 (by decide)) (by decide)).w _ _ (by decide)
        refine J_bald1 E (S_X8.f4 S0) (Bd.in b86 (by decide)) dX8_spells_52 (fun x87 e88 => ?_)
        have b89 : Bd x87 (-128) 127 := Bd.e (Ok.ld hOk (S_X8.f4 S0) b86 2 148 (-128) 127 (by decide) (by decide +kernel)) e88
        refine J_iload_n E dX8_spells_53 3 rfl ?_
        refine J_icmp_ne E 61 dX8_spells_54 (by decide) (fun c90 => ?_) (fun c90 => ?_)
        · exact J.sub [0, 4, 5, 6, 7] rfl (J61 bx_3 bx_4 bx_5 (Bd.lit 3 3 (by decide)))
        · have b91 : Bd x87 101 110 := Bd.eq_l c90 b89 bx_2 101 110 (by decide)
          refine J_iconst E 1 dX8_spells_57 (by decide) ?_
          refine J_goto E 62 dX8_spells_58 (by decide) ?_
          exact J.sub [0, 4, 5, 6, 7] rfl (J62 bx_3 bx_4 bx_5 (Bd.lit 3 3 (by decide)) 1 ((Bd.lit 1 1 (by decide)).w 0 1 (by decide)) x56 (e57) (b64.w 0 150 (by decide)) (Or.inr b64))

abbrev rm_X8_spells_5 : Room := { frames := 0, cells := 0, slots := 0, locals := 0 }
set_option maxHeartbeats 4000000 in
set_option maxRecDepth 100000 in
theorem ct_X8_spells_5 (l : Launch) (D : va_G) (dA : Nat → ClassId) (G : Gm) (v : Mv) (w : Mw) (hOk : Ok G v w) (h0 : Nat) (S0 : S_X8 G h0) (x_0 : Int32) (bx_0 : Bd x_0 108 121) (x_1 : Int32) (bx_1 : Bd x_1 101 104) (x_2 : Int32) (bx_2 : Bd x_2 97 105) (x_3 : Int32) (bx_3 : Bd x_3 110 118) (x_4 : Int32) (bx_4 : Bd x_4 101 115) (x_5 : Int32) (bx_5 : Bd x_5 0 0) : CtI l yX8_spells cX8_spells 9 (some .boolean) rm_X8_spells_5 D dA G [.ref h0, .int x_0, .int x_1, .int x_2, .int x_3, .int x_4, .int x_5, .int 5] v w (fun r v1 w1 => v1 = v ∧ w1 = w ∧ Bd r 0 1 ∧ True) := by
  refine CtI.of RX8 [(0, .ref h0), (1, .int x_0), (2, .int x_1), (3, .int x_2), (4, .int x_3), (5, .int x_4), (6, .int x_5), (7, .int 5)] (Nat.le_of_ble_eq_true rfl) rfl (by decide) rfl ?_
  intro p e s m args below meth c E hr
  have J148 :  J p l e rm_X8_spells_5 s m args below meth c 0 0 (MQ below (QcI D dA G (fun r v1 w1 => v1 = v ∧ w1 = w ∧ Bd r 0 1 ∧ True)) args s 0 0 (dm G)) D dA G (dm G) s.heap 9 v w [] 148 [] := by
    refine J_iconst E 1 dX8_spells_148 (by decide) ?_
    refine J_goto E 153 dX8_spells_149 (by decide) ?_
    exact J_zret E hr (Bd.z (Bd.lit 1 1 (by decide)) (by decide)) dX8_spells_153 ⟨rfl, rfl, ((Bd.lit 1 1 (by decide)).w 0 1 (by decide)), trivial⟩
  have J118 : Bd x_5 0 0 → Bd 5 5 5 → ∀ x3 : Int32, Bd x3 0 1 → ∀ x6 : Int32, x6 = v h0 7 → Bd x6 0 150 → (x3 = 0 ∨ Bd x6 0 145) → J p l e rm_X8_spells_5 s m args below meth c 0 0 (MQ below (QcI D dA G (fun r v1 w1 => v1 = v ∧ w1 = w ∧ Bd r 0 1 ∧ True)) args s 0 0 (dm G)) D dA G (dm G) s.heap 9 v w [(0, .ref h0), (6, .int x_5), (7, .int 5)] 118 [.int x3] := by
    intro b1 b2 x3 b4 x6 e7 b5 h8
    refine J_istore E [(8, .int x3), (0, .ref h0), (6, .int x_5), (7, .int 5)] dX8_spells_118 (by decide) rfl ?_
    refine J_iload E dX8_spells_120 0 rfl ?_
    refine J_if_eq E 152 dX8_spells_122 (by decide) (fun c9 => ?_) (fun c9 => ?_)
    · have b10 : Bd x3 0 0 := Bd.eq_l c9 b4 (Bd.lit 0 0 (by decide)) 0 0 (by decide)
      refine J_iconst E 0 dX8_spells_152 (by decide) ?_
      exact J_zret E hr (Bd.z (Bd.lit 0 0 (by decide)) (by decide)) dX8_spells_153 ⟨rfl, rfl, ((Bd.lit 0 0 (by decide)).w 0 1 (by decide)), trivial⟩
    · have b11 : Bd x3 1 1 := (Bd.ne_lo c9 b4 (Bd.lit 0 0 (by decide))).w _ _ (by decide)
      have b12 : Bd x6 0 145 := h8.resolve_left c9
      refine J_iload E dX8_spells_125 3 rfl ?_
      refine J_bipush E 6 dX8_spells_127 (by decide) ?_
      refine J_icmp_lt E 148 dX8_spells_129 (by decide) (fun c13 => ?_) (fun c13 => ?_)
      · exact J.sub [] rfl (J148)
      · exact Bd.no (Bd.le_l (nlt c13) (Bd.lit 6 6 (by decide)) (Bd.lit 5 5 (by decide)) 5 (by decide)) (by decide)
  have J117 : Bd x_5 0 0 → Bd 5 5 5 → J p l e rm_X8_spells_5 s m args below meth c 0 0 (MQ below (QcI D dA G (fun r v1 w1 => v1 = v ∧ w1 = w ∧ Bd r 0 1 ∧ True)) args s 0 0 (dm G)) D dA G (dm G) s.heap 9 v w [(0, .ref h0), (6, .int x_5), (7, .int 5)] 117 [] := by
    intro b14 b15
    refine J_iconst E 0 dX8_spells_117 (by decide) ?_
    obtain ⟨x16, e17⟩ : ∃ z : Int32, z = v h0 7 := ⟨_, rfl⟩
    have b18 : Bd x16 0 150 := Ok.fd hOk e17 (S_X8.h S0) rfl
    exact J.sub [0, 1, 2] rfl (J118 b14 (Bd.lit 5 5 (by decide)) 0 ((Bd.lit 0 0 (by decide)).w 0 1 (by decide)) x16 (e17) b18 (Or.inl rfl))
  have J113 : Bd x_5 0 0 → Bd 5 5 5 → ∀ x22 : Int32, x22 = v h0 7 → Bd x22 0 145 → J p l e rm_X8_spells_5 s m args below meth c 0 0 (MQ below (QcI D dA G (fun r v1 w1 => v1 = v ∧ w1 = w ∧ Bd r 0 1 ∧ True)) args s 0 0 (dm G)) D dA G (dm G) s.heap 9 v w [(0, .ref h0), (6, .int x_5), (7, .int 5)] 113 [] := by
    intro b19 b20 x22 e23 b21
    refine J_iconst E 1 dX8_spells_113 (by decide) ?_
    refine J_goto E 118 dX8_spells_114 (by decide) ?_
    exact J.sub [0, 1, 2] rfl (J118 b19 (Bd.lit 5 5 (by decide)) 1 ((Bd.lit 1 1 (by decide)).w 0 1 (by decide)) x22 (e23) (b21.w 0 150 (by decide)) (Or.inr b21))
  have J91 : Bd x_4 101 115 → Bd x_5 0 0 → Bd 5 5 5 → ∀ x28 : Int32, x28 = v h0 7 → Bd x28 0 145 → J p l e rm_X8_spells_5 s m args below meth c 0 0 (MQ below (QcI D dA G (fun r v1 w1 => v1 = v ∧ w1 = w ∧ Bd r 0 1 ∧ True)) args s 0 0 (dm G)) D dA G (dm G) s.heap 9 v w [(0, .ref h0), (5, .int x_4), (6, .int x_5), (7, .int 5)] 91 [] := by
    intro b24 b25 b26 x28 e29 b27
    refine J_iload E dX8_spells_91 3 rfl ?_
    refine J_iconst E 5 dX8_spells_93 (by decide) ?_
    refine J_icmp_lt E 113 dX8_spells_94 (by decide) (fun c30 => ?_) (fun c30 => ?_)
    · exact Bd.no (Bd.lt_l c30 (Bd.lit 5 5 (by decide)) (Bd.lit 5 5 (by decide)) 4 (by decide)) (by decide)
    · refine J_aload_n E dX8_spells_97 0 rfl ?_
      refine J_getR E in_X8 rfl (S_X8.h S0) 4 (by decide) wd939 rfl dX8_spells_98 ?_
      refine J_aload_n E dX8_spells_101 0 rfl ?_
      refine J_getI E in_X8 rfl (S_X8.h S0) 7 (by decide) wd942 rfl dX8_spells_102 (fun x31 e32 => ?_)
      rw [show x31 = x28 from e32.trans (e29).symm]
      refine J_iconst E 4 dX8_spells_105 (by decide) ?_
      refine J_iadd E dX8_spells_106 (fun x33 e34 => ?_)
      have b35 : Bd x33 4 149 := (Bd.add e34 b27 (Bd.lit 4 4 (by decide)) (by decide)).w _ _ (by decide)
      refine J_bald1 E (S_X8.f4 S0) (Bd.in b35 (by decide)) dX8_spells_107 (fun x36 e37 => ?_)
      have b38 : Bd x36 (-128) 127 := Bd.e (Ok.ld hOk (S_X8.f4 S0) b35 4 146 (-128) 127 (by decide) (by decide +kernel)) e37
      refine J_iload E dX8_spells_108 1 rfl ?_
      refine J_icmp_ne E 117 dX8_spells_110 (by decide) (fun c39 => ?_) (fun c39 => ?_)
      · exact J.sub [0, 2, 3] rfl (J117 b25 (Bd.lit 5 5 (by decide)))
      · have b40 : Bd x36 101 115 := Bd.eq_l c39 b38 b24 101 115 (by decide)
        exact J.sub [0, 2, 3] rfl (J113 b25 (Bd.lit 5 5 (by decide)) x28 (e29) b27)
  have J62 : Bd x_3 110 118 → Bd x_4 101 115 → Bd x_5 0 0 → Bd 5 5 5 → ∀ x45 : Int32, Bd x45 0 1 → ∀ x48 : Int32, x48 = v h0 7 → Bd x48 0 150 → (x45 = 0 ∨ Bd x48 0 145) → J p l e rm_X8_spells_5 s m args below meth c 0 0 (MQ below (QcI D dA G (fun r v1 w1 => v1 = v ∧ w1 = w ∧ Bd r 0 1 ∧ True)) args s 0 0 (dm G)) D dA G (dm G) s.heap 9 v w [(0, .ref h0), (4, .int x_3), (5, .int x_4), (6, .int x_5), (7, .int 5)] 62 [.int x45] := by
    intro b41 b42 b43 b44 x45 b46 x48 e49 b47 h50
    refine J_istore E [(8, .int x45), (0, .ref h0), (4, .int x_3), (5, .int x_4), (6, .int x_5), (7, .int 5)] dX8_spells_62 (by decide) rfl ?_
    refine J_iload E dX8_spells_64 0 rfl ?_
    refine J_if_eq E 117 dX8_spells_66 (by decide) (fun c51 => ?_) (fun c51 => ?_)
    · have b52 : Bd x45 0 0 := Bd.eq_l c51 b46 (Bd.lit 0 0 (by decide)) 0 0 (by decide)
      exact J.sub [1, 4, 5] rfl (J117 b43 (Bd.lit 5 5 (by decide)))
    · have b53 : Bd x45 1 1 := (Bd.ne_lo c51 b46 (Bd.lit 0 0 (by decide))).w _ _ (by decide)
      have b54 : Bd x48 0 145 := h50.resolve_left c51
      refine J_iload E dX8_spells_69 5 rfl ?_
      refine J_iconst E 4 dX8_spells_71 (by decide) ?_
      refine J_icmp_lt E 91 dX8_spells_72 (by decide) (fun c55 => ?_) (fun c55 => ?_)
      · exact Bd.no (Bd.lt_l c55 (Bd.lit 5 5 (by decide)) (Bd.lit 4 4 (by decide)) 3 (by decide)) (by decide)
      · refine J_aload_n E dX8_spells_75 1 rfl ?_
        refine J_getR E in_X8 rfl (S_X8.h S0) 4 (by decide) wd939 rfl dX8_spells_76 ?_
        refine J_aload_n E dX8_spells_79 1 rfl ?_
        refine J_getI E in_X8 rfl (S_X8.h S0) 7 (by decide) wd942 rfl dX8_spells_80 (fun x56 e57 => ?_)
        rw [show x56 = x48 from e57.trans (e49).symm]
        refine J_iconst E 3 dX8_spells_83 (by decide) ?_
        refine J_iadd E dX8_spells_84 (fun x58 e59 => ?_)
        have b60 : Bd x58 3 148 := (Bd.add e59 b54 (Bd.lit 3 3 (by decide)) (by decide)).w _ _ (by decide)
        refine J_bald1 E (S_X8.f4 S0) (Bd.in b60 (by decide)) dX8_spells_85 (fun x61 e62 => ?_)
        have b63 : Bd x61 (-128) 127 := Bd.e (Ok.ld hOk (S_X8.f4 S0) b60 3 146 (-128) 127 (by decide) (by decide +kernel)) e62
        refine J_iload E dX8_spells_86 2 rfl ?_
        refine J_icmp_ne E 117 dX8_spells_88 (by decide) (fun c64 => ?_) (fun c64 => ?_)
        · exact J.sub [1, 4, 5] rfl (J117 b43 (Bd.lit 5 5 (by decide)))
        · have b65 : Bd x61 110 118 := Bd.eq_l c64 b63 b41 110 118 (by decide)
          exact J.sub [1, 3, 4, 5] rfl (J91 b42 b43 (Bd.lit 5 5 (by decide)) x48 (e49) b54)
  have J61 : Bd x_3 110 118 → Bd x_4 101 115 → Bd x_5 0 0 → Bd 5 5 5 → J p l e rm_X8_spells_5 s m args below meth c 0 0 (MQ below (QcI D dA G (fun r v1 w1 => v1 = v ∧ w1 = w ∧ Bd r 0 1 ∧ True)) args s 0 0 (dm G)) D dA G (dm G) s.heap 9 v w [(0, .ref h0), (4, .int x_3), (5, .int x_4), (6, .int x_5), (7, .int 5)] 61 [] := by
    intro b66 b67 b68 b69
    refine J_iconst E 0 dX8_spells_61 (by decide) ?_
    obtain ⟨x70, e71⟩ : ∃ z : Int32, z = v h0 7 := ⟨_, rfl⟩
    have b72 : Bd x70 0 150 := Ok.fd hOk e71 (S_X8.h S0) rfl
    exact J.sub [0, 1, 2, 3, 4] rfl (J62 b66 b67 b68 (Bd.lit 5 5 (by decide)) 0 ((Bd.lit 0 0 (by decide)).w 0 1 (by decide)) x70 (e71) b72 (Or.inl rfl))
  refine J_aload_n E dX8_spells_0 0 rfl ?_
  refine J_getI E in_X8 rfl (S_X8.h S0) 6 (by decide) wd941 rfl dX8_spells_1 (fun x73 e74 => ?_)
  have b75 : Bd x73 0 150 := Ok.fd hOk e74 (S_X8.h S0) rfl
  refine J_aload_n E dX8_spells_4 0 rfl ?_
  refine J_getI E in_X8 rfl (S_X8.h S0) 7 (by decide) wd942 rfl dX8_spells_5 (fun x76 e77 => ?_)
  have b78 : Bd x76 0 150 := Ok.fd hOk e77 (S_X8.h S0) rfl
  refine J_isub E dX8_spells_8 (fun x79 e80 => ?_)
  have b81 : Bd x79 (-150) 150 := (Bd.sub e80 b75 b78 (by decide)).w _ _ (by decide)
  refine J_iload E dX8_spells_9 7 rfl ?_
  refine J_icmp_ne E 61 dX8_spells_11 (by decide) (fun c82 => ?_) (fun c82 => ?_)
  · exact J.sub [0, 4, 5, 6, 7] rfl (J61 bx_3 bx_4 bx_5 (Bd.lit 5 5 (by decide)))
  · have b83 : Bd x79 5 5 := Bd.eq_l c82 b81 (Bd.lit 5 5 (by decide)) 5 5 (by decide)
    have b84 : Bd x76 0 145 := Bd.suby e80 b75 b78 b83 0 145 (by decide)
    refine J_aload_n E dX8_spells_14 0 rfl ?_
    refine J_getR E in_X8 rfl (S_X8.h S0) 4 (by decide) wd939 rfl dX8_spells_15 ?_
    refine J_aload_n E dX8_spells_18 0 rfl ?_
    refine J_getI E in_X8 rfl (S_X8.h S0) 7 (by decide) wd942 rfl dX8_spells_19 (fun x85 e86 => ?_)
    rw [show x85 = x76 from e86.trans (e77).symm]
    refine J_bald1 E (S_X8.f4 S0) (Bd.in b84 (by decide)) dX8_spells_22 (fun x87 e88 => ?_)
    have b89 : Bd x87 (-128) 127 := Bd.e (Ok.ld hOk (S_X8.f4 S0) b84 0 146 (-128) 127 (by decide) (by decide +kernel)) e88
    refine J_iload_n E dX8_spells_23 1 rfl ?_
    refine J_icmp_ne E 61 dX8_spells_24 (by decide) (fun c90 => ?_) (fun c90 => ?_)
    · exact J.sub [0, 4, 5, 6, 7] rfl (J61 bx_3 bx_4 bx_5 (Bd.lit 5 5 (by decide)))
    · have b91 : Bd x87 108 121 := Bd.eq_l c90 b89 bx_0 108 121 (by decide)
      refine J_aload_n E dX8_spells_27 0 rfl ?_
      refine J_getR E in_X8 rfl (S_X8.h S0) 4 (by decide) wd939 rfl dX8_spells_28 ?_
      refine J_aload_n E dX8_spells_31 0 rfl ?_
      refine J_getI E in_X8 rfl (S_X8.h S0) 7 (by decide) wd942 rfl dX8_spells_32 (fun x92 e93 => ?_)
      rw [show x92 = x76 from e93.trans (e77).symm]
      refine J_iconst E 1 dX8_spells_35 (by decide) ?_
      refine J_iadd E dX8_spells_36 (fun x94 e95 => ?_)
      have b96 : Bd x94 1 146 := (Bd.add e95 b84 (Bd.lit 1 1 (by decide)) (by decide)).w _ _ (by decide)
      refine J_bald1 E (S_X8.f4 S0) (Bd.in b96 (by decide)) dX8_spells_37 (fun x97 e98 => ?_)
      have b99 : Bd x97 (-128) 127 := Bd.e (Ok.ld hOk (S_X8.f4 S0) b96 1 146 (-128) 127 (by decide) (by decide +kernel)) e98
      refine J_iload_n E dX8_spells_38 2 rfl ?_
      refine J_icmp_ne E 61 dX8_spells_39 (by decide) (fun c100 => ?_) (fun c100 => ?_)
      · exact J.sub [0, 4, 5, 6, 7] rfl (J61 bx_3 bx_4 bx_5 (Bd.lit 5 5 (by decide)))
      · have b101 : Bd x97 101 104 := Bd.eq_l c100 b99 bx_1 101 104 (by decide)
        refine J_aload_n E dX8_spells_42 0 rfl ?_
        refine J_getR E in_X8 rfl (S_X8.h S0) 4 (by decide) wd939 rfl dX8_spells_43 ?_
        refine J_aload_n E dX8_spells_46 0 rfl ?_
        refine J_getI E in_X8 rfl (S_X8.h S0) 7 (by decide) wd942 rfl dX8_spells_47 (fun x102 e103 => ?_)
        rw [show x102 = x76 from e103.trans (e77).symm]
        refine J_iconst E 2 dX8_spells_50 (by decide) ?_
        refine J_iadd E dX8_spells_51 (fun x104 e105 => ?_)
        have b106 : Bd x104 2 147 := (Bd.add e105 b84 (Bd.lit 2 2 (by decide)) (by decide)).w _ _ (by decide)
        refine J_bald1 E (S_X8.f4 S0) (Bd.in b106 (by decide)) dX8_spells_52 (fun x107 e108 => ?_)
        have b109 : Bd x107 (-128) 127 := Bd.e (Ok.ld hOk (S_X8.f4 S0) b106 2 146 (-128) 127 (by decide) (by decide +kernel)) e108
        refine J_iload_n E dX8_spells_53 3 rfl ?_
        refine J_icmp_ne E 61 dX8_spells_54 (by decide) (fun c110 => ?_) (fun c110 => ?_)
        · exact J.sub [0, 4, 5, 6, 7] rfl (J61 bx_3 bx_4 bx_5 (Bd.lit 5 5 (by decide)))
        · have b111 : Bd x107 97 105 := Bd.eq_l c110 b109 bx_2 97 105 (by decide)
          refine J_iconst E 1 dX8_spells_57 (by decide) ?_
          refine J_goto E 62 dX8_spells_58 (by decide) ?_
          exact J.sub [0, 4, 5, 6, 7] rfl (J62 bx_3 bx_4 bx_5 (Bd.lit 5 5 (by decide)) 1 ((Bd.lit 1 1 (by decide)).w 0 1 (by decide)) x76 (e77) (b84.w 0 150 (by decide)) (Or.inr b84))

abbrev rm_X8_spells_6 : Room := { frames := 0, cells := 0, slots := 0, locals := 0 }
set_option maxHeartbeats 4000000 in
set_option maxRecDepth 100000 in
theorem ct_X8_spells_6 (l : Launch) (D : va_G) (dA : Nat → ClassId) (G : Gm) (v : Mv) (w : Mw) (hOk : Ok G v w) (h0 : Nat) (S0 : S_X8 G h0) (x_0 : Int32) (bx_0 : Bd x_0 112 112) (x_1 : Int32) (bx_1 : Bd x_1 101 101) (x_2 : Int32) (bx_2 : Bd x_2 111 111) (x_3 : Int32) (bx_3 : Bd x_3 112 112) (x_4 : Int32) (bx_4 : Bd x_4 108 108) (x_5 : Int32) (bx_5 : Bd x_5 101 101) : CtI l yX8_spells cX8_spells 9 (some .boolean) rm_X8_spells_6 D dA G [.ref h0, .int x_0, .int x_1, .int x_2, .int x_3, .int x_4, .int x_5, .int 6] v w (fun r v1 w1 => v1 = v ∧ w1 = w ∧ Bd r 0 1 ∧ True) := by
  refine CtI.of RX8 [(0, .ref h0), (1, .int x_0), (2, .int x_1), (3, .int x_2), (4, .int x_3), (5, .int x_4), (6, .int x_5), (7, .int 6)] (Nat.le_of_ble_eq_true rfl) rfl (by decide) rfl ?_
  intro p e s m args below meth c E hr
  have J148 :  J p l e rm_X8_spells_6 s m args below meth c 0 0 (MQ below (QcI D dA G (fun r v1 w1 => v1 = v ∧ w1 = w ∧ Bd r 0 1 ∧ True)) args s 0 0 (dm G)) D dA G (dm G) s.heap 9 v w [] 148 [] := by
    refine J_iconst E 1 dX8_spells_148 (by decide) ?_
    refine J_goto E 153 dX8_spells_149 (by decide) ?_
    exact J_zret E hr (Bd.z (Bd.lit 1 1 (by decide)) (by decide)) dX8_spells_153 ⟨rfl, rfl, ((Bd.lit 1 1 (by decide)).w 0 1 (by decide)), trivial⟩
  have J118 : Bd x_5 101 101 → Bd 6 6 6 → ∀ x3 : Int32, Bd x3 0 1 → ∀ x6 : Int32, x6 = v h0 7 → Bd x6 0 150 → (x3 = 0 ∨ Bd x6 0 144) → J p l e rm_X8_spells_6 s m args below meth c 0 0 (MQ below (QcI D dA G (fun r v1 w1 => v1 = v ∧ w1 = w ∧ Bd r 0 1 ∧ True)) args s 0 0 (dm G)) D dA G (dm G) s.heap 9 v w [(0, .ref h0), (6, .int x_5), (7, .int 6)] 118 [.int x3] := by
    intro b1 b2 x3 b4 x6 e7 b5 h8
    refine J_istore E [(8, .int x3), (0, .ref h0), (6, .int x_5), (7, .int 6)] dX8_spells_118 (by decide) rfl ?_
    refine J_iload E dX8_spells_120 0 rfl ?_
    refine J_if_eq E 152 dX8_spells_122 (by decide) (fun c9 => ?_) (fun c9 => ?_)
    · have b10 : Bd x3 0 0 := Bd.eq_l c9 b4 (Bd.lit 0 0 (by decide)) 0 0 (by decide)
      refine J_iconst E 0 dX8_spells_152 (by decide) ?_
      exact J_zret E hr (Bd.z (Bd.lit 0 0 (by decide)) (by decide)) dX8_spells_153 ⟨rfl, rfl, ((Bd.lit 0 0 (by decide)).w 0 1 (by decide)), trivial⟩
    · have b11 : Bd x3 1 1 := (Bd.ne_lo c9 b4 (Bd.lit 0 0 (by decide))).w _ _ (by decide)
      have b12 : Bd x6 0 144 := h8.resolve_left c9
      refine J_iload E dX8_spells_125 3 rfl ?_
      refine J_bipush E 6 dX8_spells_127 (by decide) ?_
      refine J_icmp_lt E 148 dX8_spells_129 (by decide) (fun c13 => ?_) (fun c13 => ?_)
      · exact Bd.no (Bd.lt_l c13 (Bd.lit 6 6 (by decide)) (Bd.lit 6 6 (by decide)) 5 (by decide)) (by decide)
      · refine J_aload_n E dX8_spells_132 1 rfl ?_
        refine J_getR E in_X8 rfl (S_X8.h S0) 4 (by decide) wd939 rfl dX8_spells_133 ?_
        refine J_aload_n E dX8_spells_136 1 rfl ?_
        refine J_getI E in_X8 rfl (S_X8.h S0) 7 (by decide) wd942 rfl dX8_spells_137 (fun x14 e15 => ?_)
        rw [show x14 = x6 from e15.trans (e7).symm]
        refine J_iconst E 5 dX8_spells_140 (by decide) ?_
        refine J_iadd E dX8_spells_141 (fun x16 e17 => ?_)
        have b18 : Bd x16 5 149 := (Bd.add e17 b12 (Bd.lit 5 5 (by decide)) (by decide)).w _ _ (by decide)
        refine J_bald1 E (S_X8.f4 S0) (Bd.in b18 (by decide)) dX8_spells_142 (fun x19 e20 => ?_)
        have b21 : Bd x19 (-128) 127 := Bd.e (Ok.ld hOk (S_X8.f4 S0) b18 5 145 (-128) 127 (by decide) (by decide +kernel)) e20
        refine J_iload E dX8_spells_143 2 rfl ?_
        refine J_icmp_ne E 152 dX8_spells_145 (by decide) (fun c22 => ?_) (fun c22 => ?_)
        · refine J_iconst E 0 dX8_spells_152 (by decide) ?_
          exact J_zret E hr (Bd.z (Bd.lit 0 0 (by decide)) (by decide)) dX8_spells_153 ⟨rfl, rfl, ((Bd.lit 0 0 (by decide)).w 0 1 (by decide)), trivial⟩
        · have b23 : Bd x19 101 101 := Bd.eq_l c22 b21 b1 101 101 (by decide)
          exact J.sub [] rfl (J148)
  have J117 : Bd x_5 101 101 → Bd 6 6 6 → J p l e rm_X8_spells_6 s m args below meth c 0 0 (MQ below (QcI D dA G (fun r v1 w1 => v1 = v ∧ w1 = w ∧ Bd r 0 1 ∧ True)) args s 0 0 (dm G)) D dA G (dm G) s.heap 9 v w [(0, .ref h0), (6, .int x_5), (7, .int 6)] 117 [] := by
    intro b24 b25
    refine J_iconst E 0 dX8_spells_117 (by decide) ?_
    obtain ⟨x26, e27⟩ : ∃ z : Int32, z = v h0 7 := ⟨_, rfl⟩
    have b28 : Bd x26 0 150 := Ok.fd hOk e27 (S_X8.h S0) rfl
    exact J.sub [0, 1, 2] rfl (J118 b24 (Bd.lit 6 6 (by decide)) 0 ((Bd.lit 0 0 (by decide)).w 0 1 (by decide)) x26 (e27) b28 (Or.inl rfl))
  have J113 : Bd x_5 101 101 → Bd 6 6 6 → ∀ x32 : Int32, x32 = v h0 7 → Bd x32 0 144 → J p l e rm_X8_spells_6 s m args below meth c 0 0 (MQ below (QcI D dA G (fun r v1 w1 => v1 = v ∧ w1 = w ∧ Bd r 0 1 ∧ True)) args s 0 0 (dm G)) D dA G (dm G) s.heap 9 v w [(0, .ref h0), (6, .int x_5), (7, .int 6)] 113 [] := by
    intro b29 b30 x32 e33 b31
    refine J_iconst E 1 dX8_spells_113 (by decide) ?_
    refine J_goto E 118 dX8_spells_114 (by decide) ?_
    exact J.sub [0, 1, 2] rfl (J118 b29 (Bd.lit 6 6 (by decide)) 1 ((Bd.lit 1 1 (by decide)).w 0 1 (by decide)) x32 (e33) (b31.w 0 150 (by decide)) (Or.inr b31))
  have J91 : Bd x_4 108 108 → Bd x_5 101 101 → Bd 6 6 6 → ∀ x38 : Int32, x38 = v h0 7 → Bd x38 0 144 → J p l e rm_X8_spells_6 s m args below meth c 0 0 (MQ below (QcI D dA G (fun r v1 w1 => v1 = v ∧ w1 = w ∧ Bd r 0 1 ∧ True)) args s 0 0 (dm G)) D dA G (dm G) s.heap 9 v w [(0, .ref h0), (5, .int x_4), (6, .int x_5), (7, .int 6)] 91 [] := by
    intro b34 b35 b36 x38 e39 b37
    refine J_iload E dX8_spells_91 3 rfl ?_
    refine J_iconst E 5 dX8_spells_93 (by decide) ?_
    refine J_icmp_lt E 113 dX8_spells_94 (by decide) (fun c40 => ?_) (fun c40 => ?_)
    · exact Bd.no (Bd.lt_l c40 (Bd.lit 6 6 (by decide)) (Bd.lit 5 5 (by decide)) 4 (by decide)) (by decide)
    · refine J_aload_n E dX8_spells_97 0 rfl ?_
      refine J_getR E in_X8 rfl (S_X8.h S0) 4 (by decide) wd939 rfl dX8_spells_98 ?_
      refine J_aload_n E dX8_spells_101 0 rfl ?_
      refine J_getI E in_X8 rfl (S_X8.h S0) 7 (by decide) wd942 rfl dX8_spells_102 (fun x41 e42 => ?_)
      rw [show x41 = x38 from e42.trans (e39).symm]
      refine J_iconst E 4 dX8_spells_105 (by decide) ?_
      refine J_iadd E dX8_spells_106 (fun x43 e44 => ?_)
      have b45 : Bd x43 4 148 := (Bd.add e44 b37 (Bd.lit 4 4 (by decide)) (by decide)).w _ _ (by decide)
      refine J_bald1 E (S_X8.f4 S0) (Bd.in b45 (by decide)) dX8_spells_107 (fun x46 e47 => ?_)
      have b48 : Bd x46 (-128) 127 := Bd.e (Ok.ld hOk (S_X8.f4 S0) b45 4 145 (-128) 127 (by decide) (by decide +kernel)) e47
      refine J_iload E dX8_spells_108 1 rfl ?_
      refine J_icmp_ne E 117 dX8_spells_110 (by decide) (fun c49 => ?_) (fun c49 => ?_)
      · exact J.sub [0, 2, 3] rfl (J117 b35 (Bd.lit 6 6 (by decide)))
      · have b50 : Bd x46 108 108 := Bd.eq_l c49 b48 b34 108 108 (by decide)
        exact J.sub [0, 2, 3] rfl (J113 b35 (Bd.lit 6 6 (by decide)) x38 (e39) b37)
  have J62 : Bd x_3 112 112 → Bd x_4 108 108 → Bd x_5 101 101 → Bd 6 6 6 → ∀ x55 : Int32, Bd x55 0 1 → ∀ x58 : Int32, x58 = v h0 7 → Bd x58 0 150 → (x55 = 0 ∨ Bd x58 0 144) → J p l e rm_X8_spells_6 s m args below meth c 0 0 (MQ below (QcI D dA G (fun r v1 w1 => v1 = v ∧ w1 = w ∧ Bd r 0 1 ∧ True)) args s 0 0 (dm G)) D dA G (dm G) s.heap 9 v w [(0, .ref h0), (4, .int x_3), (5, .int x_4), (6, .int x_5), (7, .int 6)] 62 [.int x55] := by
    intro b51 b52 b53 b54 x55 b56 x58 e59 b57 h60
    refine J_istore E [(8, .int x55), (0, .ref h0), (4, .int x_3), (5, .int x_4), (6, .int x_5), (7, .int 6)] dX8_spells_62 (by decide) rfl ?_
    refine J_iload E dX8_spells_64 0 rfl ?_
    refine J_if_eq E 117 dX8_spells_66 (by decide) (fun c61 => ?_) (fun c61 => ?_)
    · have b62 : Bd x55 0 0 := Bd.eq_l c61 b56 (Bd.lit 0 0 (by decide)) 0 0 (by decide)
      exact J.sub [1, 4, 5] rfl (J117 b53 (Bd.lit 6 6 (by decide)))
    · have b63 : Bd x55 1 1 := (Bd.ne_lo c61 b56 (Bd.lit 0 0 (by decide))).w _ _ (by decide)
      have b64 : Bd x58 0 144 := h60.resolve_left c61
      refine J_iload E dX8_spells_69 5 rfl ?_
      refine J_iconst E 4 dX8_spells_71 (by decide) ?_
      refine J_icmp_lt E 91 dX8_spells_72 (by decide) (fun c65 => ?_) (fun c65 => ?_)
      · exact Bd.no (Bd.lt_l c65 (Bd.lit 6 6 (by decide)) (Bd.lit 4 4 (by decide)) 3 (by decide)) (by decide)
      · refine J_aload_n E dX8_spells_75 1 rfl ?_
        refine J_getR E in_X8 rfl (S_X8.h S0) 4 (by decide) wd939 rfl dX8_spells_76 ?_
        refine J_aload_n E dX8_spells_79 1 rfl ?_
        refine J_getI E in_X8 rfl (S_X8.h S0) 7 (by decide) wd942 rfl dX8_spells_80 (fun x66 e67 => ?_)
        rw [show x66 = x58 from e67.trans (e59).symm]
        refine J_iconst E 3 dX8_spells_83 (by decide) ?_
        refine J_iadd E dX8_spells_84 (fun x68 e69 => ?_)
        have b70 : Bd x68 3 147 := (Bd.add e69 b64 (Bd.lit 3 3 (by decide)) (by decide)).w _ _ (by decide)
        refine J_bald1 E (S_X8.f4 S0) (Bd.in b70 (by decide)) dX8_spells_85 (fun x71 e72 => ?_)
        have b73 : Bd x71 (-128) 127 := Bd.e (Ok.ld hOk (S_X8.f4 S0) b70 3 145 (-128) 127 (by decide) (by decide +kernel)) e72
        refine J_iload E dX8_spells_86 2 rfl ?_
        refine J_icmp_ne E 117 dX8_spells_88 (by decide) (fun c74 => ?_) (fun c74 => ?_)
        · exact J.sub [1, 4, 5] rfl (J117 b53 (Bd.lit 6 6 (by decide)))
        · have b75 : Bd x71 112 112 := Bd.eq_l c74 b73 b51 112 112 (by decide)
          exact J.sub [1, 3, 4, 5] rfl (J91 b52 b53 (Bd.lit 6 6 (by decide)) x58 (e59) b64)
  have J61 : Bd x_3 112 112 → Bd x_4 108 108 → Bd x_5 101 101 → Bd 6 6 6 → J p l e rm_X8_spells_6 s m args below meth c 0 0 (MQ below (QcI D dA G (fun r v1 w1 => v1 = v ∧ w1 = w ∧ Bd r 0 1 ∧ True)) args s 0 0 (dm G)) D dA G (dm G) s.heap 9 v w [(0, .ref h0), (4, .int x_3), (5, .int x_4), (6, .int x_5), (7, .int 6)] 61 [] := by
    intro b76 b77 b78 b79
    refine J_iconst E 0 dX8_spells_61 (by decide) ?_
    obtain ⟨x80, e81⟩ : ∃ z : Int32, z = v h0 7 := ⟨_, rfl⟩
    have b82 : Bd x80 0 150 := Ok.fd hOk e81 (S_X8.h S0) rfl
    exact J.sub [0, 1, 2, 3, 4] rfl (J62 b76 b77 b78 (Bd.lit 6 6 (by decide)) 0 ((Bd.lit 0 0 (by decide)).w 0 1 (by decide)) x80 (e81) b82 (Or.inl rfl))
  refine J_aload_n E dX8_spells_0 0 rfl ?_
  refine J_getI E in_X8 rfl (S_X8.h S0) 6 (by decide) wd941 rfl dX8_spells_1 (fun x83 e84 => ?_)
  have b85 : Bd x83 0 150 := Ok.fd hOk e84 (S_X8.h S0) rfl
  refine J_aload_n E dX8_spells_4 0 rfl ?_
  refine J_getI E in_X8 rfl (S_X8.h S0) 7 (by decide) wd942 rfl dX8_spells_5 (fun x86 e87 => ?_)
  have b88 : Bd x86 0 150 := Ok.fd hOk e87 (S_X8.h S0) rfl
  refine J_isub E dX8_spells_8 (fun x89 e90 => ?_)
  have b91 : Bd x89 (-150) 150 := (Bd.sub e90 b85 b88 (by decide)).w _ _ (by decide)
  refine J_iload E dX8_spells_9 7 rfl ?_
  refine J_icmp_ne E 61 dX8_spells_11 (by decide) (fun c92 => ?_) (fun c92 => ?_)
  · exact J.sub [0, 4, 5, 6, 7] rfl (J61 bx_3 bx_4 bx_5 (Bd.lit 6 6 (by decide)))
  · have b93 : Bd x89 6 6 := Bd.eq_l c92 b91 (Bd.lit 6 6 (by decide)) 6 6 (by decide)
    have b94 : Bd x86 0 144 := Bd.suby e90 b85 b88 b93 0 144 (by decide)
    refine J_aload_n E dX8_spells_14 0 rfl ?_
    refine J_getR E in_X8 rfl (S_X8.h S0) 4 (by decide) wd939 rfl dX8_spells_15 ?_
    refine J_aload_n E dX8_spells_18 0 rfl ?_
    refine J_getI E in_X8 rfl (S_X8.h S0) 7 (by decide) wd942 rfl dX8_spells_19 (fun x95 e96 => ?_)
    rw [show x95 = x86 from e96.trans (e87).symm]
    refine J_bald1 E (S_X8.f4 S0) (Bd.in b94 (by decide)) dX8_spells_22 (fun x97 e98 => ?_)
    have b99 : Bd x97 (-128) 127 := Bd.e (Ok.ld hOk (S_X8.f4 S0) b94 0 145 (-128) 127 (by decide) (by decide +kernel)) e98
    refine J_iload_n E dX8_spells_23 1 rfl ?_
    refine J_icmp_ne E 61 dX8_spells_24 (by decide) (fun c100 => ?_) (fun c100 => ?_)
    · exact J.sub [0, 4, 5, 6, 7] rfl (J61 bx_3 bx_4 bx_5 (Bd.lit 6 6 (by decide)))
    · have b101 : Bd x97 112 112 := Bd.eq_l c100 b99 bx_0 112 112 (by decide)
      refine J_aload_n E dX8_spells_27 0 rfl ?_
      refine J_getR E in_X8 rfl (S_X8.h S0) 4 (by decide) wd939 rfl dX8_spells_28 ?_
      refine J_aload_n E dX8_spells_31 0 rfl ?_
      refine J_getI E in_X8 rfl (S_X8.h S0) 7 (by decide) wd942 rfl dX8_spells_32 (fun x102 e103 => ?_)
      rw [show x102 = x86 from e103.trans (e87).symm]
      refine J_iconst E 1 dX8_spells_35 (by decide) ?_
      refine J_iadd E dX8_spells_36 (fun x104 e105 => ?_)
      have b106 : Bd x104 1 145 := (Bd.add e105 b94 (Bd.lit 1 1 (by decide)) (by decide)).w _ _ (by decide)
      refine J_bald1 E (S_X8.f4 S0) (Bd.in b106 (by decide)) dX8_spells_37 (fun x107 e108 => ?_)
      have b109 : Bd x107 (-128) 127 := Bd.e (Ok.ld hOk (S_X8.f4 S0) b106 1 145 (-128) 127 (by decide) (by decide +kernel)) e108
      refine J_iload_n E dX8_spells_38 2 rfl ?_
      refine J_icmp_ne E 61 dX8_spells_39 (by decide) (fun c110 => ?_) (fun c110 => ?_)
      · exact J.sub [0, 4, 5, 6, 7] rfl (J61 bx_3 bx_4 bx_5 (Bd.lit 6 6 (by decide)))
      · have b111 : Bd x107 101 101 := Bd.eq_l c110 b109 bx_1 101 101 (by decide)
        refine J_aload_n E dX8_spells_42 0 rfl ?_
        refine J_getR E in_X8 rfl (S_X8.h S0) 4 (by decide) wd939 rfl dX8_spells_43 ?_
        refine J_aload_n E dX8_spells_46 0 rfl ?_
        refine J_getI E in_X8 rfl (S_X8.h S0) 7 (by decide) wd942 rfl dX8_spells_47 (fun x112 e113 => ?_)
        rw [show x112 = x86 from e113.trans (e87).symm]
        refine J_iconst E 2 dX8_spells_50 (by decide) ?_
        refine J_iadd E dX8_spells_51 (fun x114 e115 => ?_)
        have b116 : Bd x114 2 146 := (Bd.add e115 b94 (Bd.lit 2 2 (by decide)) (by decide)).w _ _ (by decide)
        refine J_bald1 E (S_X8.f4 S0) (Bd.in b116 (by decide)) dX8_spells_52 (fun x117 e118 => ?_)
        have b119 : Bd x117 (-128) 127 := Bd.e (Ok.ld hOk (S_X8.f4 S0) b116 2 145 (-128) 127 (by decide) (by decide +kernel)) e118
        refine J_iload_n E dX8_spells_53 3 rfl ?_
        refine J_icmp_ne E 61 dX8_spells_54 (by decide) (fun c120 => ?_) (fun c120 => ?_)
        · exact J.sub [0, 4, 5, 6, 7] rfl (J61 bx_3 bx_4 bx_5 (Bd.lit 6 6 (by decide)))
        · have b121 : Bd x117 111 111 := Bd.eq_l c120 b119 bx_2 111 111 (by decide)
          refine J_iconst E 1 dX8_spells_57 (by decide) ?_
          refine J_goto E 62 dX8_spells_58 (by decide) ?_
          exact J.sub [0, 4, 5, 6, 7] rfl (J62 bx_3 bx_4 bx_5 (Bd.lit 6 6 (by decide)) 1 ((Bd.lit 1 1 (by decide)).w 0 1 (by decide)) x86 (e87) (b94.w 0 150 (by decide)) (Or.inr b94))

abbrev rm_X8_wordOf : Room := { frames := 1, cells := 0, slots := 0, locals := 28 }
set_option maxHeartbeats 4000000 in
set_option maxRecDepth 100000 in
theorem ct_X8_wordOf (l : Launch) (D : va_G) (dA : Nat → ClassId) (G : Gm) (v : Mv) (w : Mw) (hOk : Ok G v w) (h0 : Nat) (S0 : S_X8 G h0) : CtI l yX8_wordOf cX8_wordOf 1 (some .int) rm_X8_wordOf D dA G [.ref h0] v w (fun r v1 w1 => v1 = v ∧ w1 = w ∧ Bd r 0 9 ∧ True) := by
  refine CtI.of RX8 [(0, .ref h0)] (Nat.le_of_ble_eq_true rfl) rfl (by decide) rfl ?_
  intro p e s m args below meth c E hr
  refine J_aload_n E dX8_wordOf_0 0 rfl ?_
  refine J_bipush E 112 dX8_wordOf_1 (by decide) ?_
  refine J_bipush E 101 dX8_wordOf_3 (by decide) ?_
  refine J_bipush E 111 dX8_wordOf_5 (by decide) ?_
  refine J_bipush E 112 dX8_wordOf_7 (by decide) ?_
  refine J_bipush E 108 dX8_wordOf_9 (by decide) ?_
  refine J_bipush E 101 dX8_wordOf_11 (by decide) ?_
  refine J_bipush E 6 dX8_wordOf_13 (by decide) ?_
  refine J_callVI E cal_X8_spells wd1043 rfl (S_X8.h S0) [.int 112, .int 101, .int 111, .int 112, .int 108, .int 101, .int 6] [] (ct_X8_spells_6 l D dA G v w (hOk) h0 S0 112 (Bd.lit 112 112 (by decide)) 101 (Bd.lit 101 101 (by decide)) 111 (Bd.lit 111 111 (by decide)) 112 (Bd.lit 112 112 (by decide)) 108 (Bd.lit 108 108 (by decide)) 101 (Bd.lit 101 101 (by decide))) rfl rfl (Nat.le_of_ble_eq_true rfl) ⟨rfl, rfl⟩ ⟨Nat.le_of_ble_eq_true rfl, Nat.le_of_ble_eq_true rfl⟩ dX8_wordOf_15 (fun x4 v1 w2 p3 => ?_)
  rw [p3.1, p3.2.1]
  have b5 : Bd x4 0 1 := p3.2.2.1
  refine J_if_eq E 25 dX8_wordOf_18 (by decide) (fun c6 => ?_) (fun c6 => ?_)
  · have b7 : Bd x4 0 0 := Bd.eq_l c6 b5 (Bd.lit 0 0 (by decide)) 0 0 (by decide)
    refine J_aload_n E dX8_wordOf_25 0 rfl ?_
    refine J_bipush E 116 dX8_wordOf_26 (by decide) ?_
    refine J_bipush E 104 dX8_wordOf_28 (by decide) ?_
    refine J_bipush E 105 dX8_wordOf_30 (by decide) ?_
    refine J_bipush E 110 dX8_wordOf_32 (by decide) ?_
    refine J_bipush E 103 dX8_wordOf_34 (by decide) ?_
    refine J_iconst E 0 dX8_wordOf_36 (by decide) ?_
    refine J_iconst E 5 dX8_wordOf_37 (by decide) ?_
    refine J_callVI E cal_X8_spells wd1043 rfl (S_X8.h S0) [.int 116, .int 104, .int 105, .int 110, .int 103, .int 0, .int 5] [] (ct_X8_spells_5 l D dA G v w (hOk) h0 S0 116 ((Bd.lit 116 116 (by decide)).w 108 121 (by decide)) 104 ((Bd.lit 104 104 (by decide)).w 101 104 (by decide)) 105 ((Bd.lit 105 105 (by decide)).w 97 105 (by decide)) 110 ((Bd.lit 110 110 (by decide)).w 110 118 (by decide)) 103 ((Bd.lit 103 103 (by decide)).w 101 115 (by decide)) 0 (Bd.lit 0 0 (by decide))) rfl rfl (Nat.le_of_ble_eq_true rfl) ⟨rfl, rfl⟩ ⟨Nat.le_of_ble_eq_true rfl, Nat.le_of_ble_eq_true rfl⟩ dX8_wordOf_38 (fun x11 v8 w9 p10 => ?_)
    rw [p10.1, p10.2.1]
    have b12 : Bd x11 0 1 := p10.2.2.1
    refine J_if_eq E 48 dX8_wordOf_41 (by decide) (fun c13 => ?_) (fun c13 => ?_)
    · have b14 : Bd x11 0 0 := Bd.eq_l c13 b12 (Bd.lit 0 0 (by decide)) 0 0 (by decide)
      refine J_aload_n E dX8_wordOf_48 0 rfl ?_
      refine J_bipush E 111 dX8_wordOf_49 (by decide) ?_
      refine J_bipush E 110 dX8_wordOf_51 (by decide) ?_
      refine J_bipush E 101 dX8_wordOf_53 (by decide) ?_
      refine J_iconst E 0 dX8_wordOf_55 (by decide) ?_
      refine J_iconst E 0 dX8_wordOf_56 (by decide) ?_
      refine J_iconst E 0 dX8_wordOf_57 (by decide) ?_
      refine J_iconst E 3 dX8_wordOf_58 (by decide) ?_
      refine J_callVI E cal_X8_spells wd1043 rfl (S_X8.h S0) [.int 111, .int 110, .int 101, .int 0, .int 0, .int 0, .int 3] [] (ct_X8_spells_3 l D dA G v w (hOk) h0 S0 111 (Bd.lit 111 111 (by decide)) 110 ((Bd.lit 110 110 (by decide)).w 110 119 (by decide)) 101 ((Bd.lit 101 101 (by decide)).w 101 110 (by decide)) 0 (Bd.lit 0 0 (by decide)) 0 (Bd.lit 0 0 (by decide)) 0 (Bd.lit 0 0 (by decide))) rfl rfl (Nat.le_of_ble_eq_true rfl) ⟨rfl, rfl⟩ ⟨Nat.le_of_ble_eq_true rfl, Nat.le_of_ble_eq_true rfl⟩ dX8_wordOf_59 (fun x18 v15 w16 p17 => ?_)
      rw [p17.1, p17.2.1]
      have b19 : Bd x18 0 1 := p17.2.2.1
      refine J_if_eq E 69 dX8_wordOf_62 (by decide) (fun c20 => ?_) (fun c20 => ?_)
      · have b21 : Bd x18 0 0 := Bd.eq_l c20 b19 (Bd.lit 0 0 (by decide)) 0 0 (by decide)
        refine J_aload_n E dX8_wordOf_69 0 rfl ?_
        refine J_bipush E 111 dX8_wordOf_70 (by decide) ?_
        refine J_bipush E 119 dX8_wordOf_72 (by decide) ?_
        refine J_bipush E 110 dX8_wordOf_74 (by decide) ?_
        refine J_iconst E 0 dX8_wordOf_76 (by decide) ?_
        refine J_iconst E 0 dX8_wordOf_77 (by decide) ?_
        refine J_iconst E 0 dX8_wordOf_78 (by decide) ?_
        refine J_iconst E 3 dX8_wordOf_79 (by decide) ?_
        refine J_callVI E cal_X8_spells wd1043 rfl (S_X8.h S0) [.int 111, .int 119, .int 110, .int 0, .int 0, .int 0, .int 3] [] (ct_X8_spells_3 l D dA G v w (hOk) h0 S0 111 (Bd.lit 111 111 (by decide)) 119 ((Bd.lit 119 119 (by decide)).w 110 119 (by decide)) 110 ((Bd.lit 110 110 (by decide)).w 101 110 (by decide)) 0 (Bd.lit 0 0 (by decide)) 0 (Bd.lit 0 0 (by decide)) 0 (Bd.lit 0 0 (by decide))) rfl rfl (Nat.le_of_ble_eq_true rfl) ⟨rfl, rfl⟩ ⟨Nat.le_of_ble_eq_true rfl, Nat.le_of_ble_eq_true rfl⟩ dX8_wordOf_80 (fun x25 v22 w23 p24 => ?_)
        rw [p24.1, p24.2.1]
        have b26 : Bd x25 0 1 := p24.2.2.1
        refine J_if_eq E 90 dX8_wordOf_83 (by decide) (fun c27 => ?_) (fun c27 => ?_)
        · have b28 : Bd x25 0 0 := Bd.eq_l c27 b26 (Bd.lit 0 0 (by decide)) 0 0 (by decide)
          refine J_aload_n E dX8_wordOf_90 0 rfl ?_
          refine J_bipush E 108 dX8_wordOf_91 (by decide) ?_
          refine J_bipush E 101 dX8_wordOf_93 (by decide) ?_
          refine J_bipush E 97 dX8_wordOf_95 (by decide) ?_
          refine J_bipush E 118 dX8_wordOf_97 (by decide) ?_
          refine J_bipush E 101 dX8_wordOf_99 (by decide) ?_
          refine J_iconst E 0 dX8_wordOf_101 (by decide) ?_
          refine J_iconst E 5 dX8_wordOf_102 (by decide) ?_
          refine J_callVI E cal_X8_spells wd1043 rfl (S_X8.h S0) [.int 108, .int 101, .int 97, .int 118, .int 101, .int 0, .int 5] [] (ct_X8_spells_5 l D dA G v w (hOk) h0 S0 108 ((Bd.lit 108 108 (by decide)).w 108 121 (by decide)) 101 ((Bd.lit 101 101 (by decide)).w 101 104 (by decide)) 97 ((Bd.lit 97 97 (by decide)).w 97 105 (by decide)) 118 ((Bd.lit 118 118 (by decide)).w 110 118 (by decide)) 101 ((Bd.lit 101 101 (by decide)).w 101 115 (by decide)) 0 (Bd.lit 0 0 (by decide))) rfl rfl (Nat.le_of_ble_eq_true rfl) ⟨rfl, rfl⟩ ⟨Nat.le_of_ble_eq_true rfl, Nat.le_of_ble_eq_true rfl⟩ dX8_wordOf_103 (fun x32 v29 w30 p31 => ?_)
          rw [p31.1, p31.2.1]
          have b33 : Bd x32 0 1 := p31.2.2.1
          refine J_if_eq E 113 dX8_wordOf_106 (by decide) (fun c34 => ?_) (fun c34 => ?_)
          · have b35 : Bd x32 0 0 := Bd.eq_l c34 b33 (Bd.lit 0 0 (by decide)) 0 0 (by decide)
            refine J_aload_n E dX8_wordOf_113 0 rfl ?_
            refine J_bipush E 121 dX8_wordOf_114 (by decide) ?_
            refine J_bipush E 101 dX8_wordOf_116 (by decide) ?_
            refine J_bipush E 97 dX8_wordOf_118 (by decide) ?_
            refine J_bipush E 114 dX8_wordOf_120 (by decide) ?_
            refine J_bipush E 115 dX8_wordOf_122 (by decide) ?_
            refine J_iconst E 0 dX8_wordOf_124 (by decide) ?_
            refine J_iconst E 5 dX8_wordOf_125 (by decide) ?_
            refine J_callVI E cal_X8_spells wd1043 rfl (S_X8.h S0) [.int 121, .int 101, .int 97, .int 114, .int 115, .int 0, .int 5] [] (ct_X8_spells_5 l D dA G v w (hOk) h0 S0 121 ((Bd.lit 121 121 (by decide)).w 108 121 (by decide)) 101 ((Bd.lit 101 101 (by decide)).w 101 104 (by decide)) 97 ((Bd.lit 97 97 (by decide)).w 97 105 (by decide)) 114 ((Bd.lit 114 114 (by decide)).w 110 118 (by decide)) 115 ((Bd.lit 115 115 (by decide)).w 101 115 (by decide)) 0 (Bd.lit 0 0 (by decide))) rfl rfl (Nat.le_of_ble_eq_true rfl) ⟨rfl, rfl⟩ ⟨Nat.le_of_ble_eq_true rfl, Nat.le_of_ble_eq_true rfl⟩ dX8_wordOf_126 (fun x39 v36 w37 p38 => ?_)
            rw [p38.1, p38.2.1]
            have b40 : Bd x39 0 1 := p38.2.2.1
            refine J_if_eq E 136 dX8_wordOf_129 (by decide) (fun c41 => ?_) (fun c41 => ?_)
            · have b42 : Bd x39 0 0 := Bd.eq_l c41 b40 (Bd.lit 0 0 (by decide)) 0 0 (by decide)
              refine J_bipush E 9 dX8_wordOf_136 (by decide) ?_
              exact J_iret E hr dX8_wordOf_138 ⟨rfl, rfl, ((Bd.lit 9 9 (by decide)).w 0 9 (by decide)), trivial⟩
            · have b43 : Bd x39 1 1 := (Bd.ne_lo c41 b40 (Bd.lit 0 0 (by decide))).w _ _ (by decide)
              refine J_iconst E 5 dX8_wordOf_132 (by decide) ?_
              refine J_goto E 138 dX8_wordOf_133 (by decide) ?_
              exact J_iret E hr dX8_wordOf_138 ⟨rfl, rfl, ((Bd.lit 5 5 (by decide)).w 0 9 (by decide)), trivial⟩
          · have b44 : Bd x32 1 1 := (Bd.ne_lo c34 b33 (Bd.lit 0 0 (by decide))).w _ _ (by decide)
            refine J_iconst E 4 dX8_wordOf_109 (by decide) ?_
            refine J_goto E 138 dX8_wordOf_110 (by decide) ?_
            exact J_iret E hr dX8_wordOf_138 ⟨rfl, rfl, ((Bd.lit 4 4 (by decide)).w 0 9 (by decide)), trivial⟩
        · have b45 : Bd x25 1 1 := (Bd.ne_lo c27 b26 (Bd.lit 0 0 (by decide))).w _ _ (by decide)
          refine J_iconst E 3 dX8_wordOf_86 (by decide) ?_
          refine J_goto E 138 dX8_wordOf_87 (by decide) ?_
          exact J_iret E hr dX8_wordOf_138 ⟨rfl, rfl, ((Bd.lit 3 3 (by decide)).w 0 9 (by decide)), trivial⟩
      · have b46 : Bd x18 1 1 := (Bd.ne_lo c20 b19 (Bd.lit 0 0 (by decide))).w _ _ (by decide)
        refine J_iconst E 2 dX8_wordOf_65 (by decide) ?_
        refine J_goto E 138 dX8_wordOf_66 (by decide) ?_
        exact J_iret E hr dX8_wordOf_138 ⟨rfl, rfl, ((Bd.lit 2 2 (by decide)).w 0 9 (by decide)), trivial⟩
    · have b47 : Bd x11 1 1 := (Bd.ne_lo c13 b12 (Bd.lit 0 0 (by decide))).w _ _ (by decide)
      refine J_iconst E 1 dX8_wordOf_44 (by decide) ?_
      refine J_goto E 138 dX8_wordOf_45 (by decide) ?_
      exact J_iret E hr dX8_wordOf_138 ⟨rfl, rfl, ((Bd.lit 1 1 (by decide)).w 0 9 (by decide)), trivial⟩
  · have b48 : Bd x4 1 1 := (Bd.ne_lo c6 b5 (Bd.lit 0 0 (by decide))).w _ _ (by decide)
    refine J_iconst E 0 dX8_wordOf_21 (by decide) ?_
    refine J_goto E 138 dX8_wordOf_22 (by decide) ?_
    exact J_iret E hr dX8_wordOf_138 ⟨rfl, rfl, ((Bd.lit 0 0 (by decide)).w 0 9 (by decide)), trivial⟩

abbrev rm_X8_step : Room := { frames := 2, cells := 0, slots := 0, locals := 48 }
set_option maxHeartbeats 4000000 in
set_option maxRecDepth 100000 in
theorem ct_X8_step (l : Launch) (D : va_G) (dA : Nat → ClassId) (G : Gm) (v : Mv) (w : Mw) (hOk : Ok G v w) (h0 : Nat) (S0 : S_X8 G h0) : CtV l yX8_step cX8_step 2 none rm_X8_step D dA G [.ref h0] v w (fun v1 w1 => Ok G v1 w1 ∧ Kp G v v1 ∧ (Ps h0 v v1) ∧ v1 h0 10 = v h0 10 ∧ v1 h0 11 = v h0 11 ∧ Fr G [8] v v1) := by
  refine CtV.of RX8 [(0, .ref h0)] (Nat.le_of_ble_eq_true rfl) rfl (by decide) rfl ?_
  intro p e s m args below meth c E hr
  have J165 : ∀ n : Nat, ∀ (v1 : Mv) (w2 : Mw), Ok G v1 w2 → Kp G v v1 → Fr G [8] v v1 → v1 h0 10 = v h0 10 → v1 h0 11 = v h0 11 → ∀ x9 : Int32, x9 = v1 h0 6 → Bd x9 0 150 → ((v h0 6).toInt ≤ x9.toInt) → ((v h0 6).toInt < x9.toInt ∨ (97 ≤ hF G v1 h0 ∧ hF G v1 h0 ≤ 122)) → Mu x9 150 n → J p l e rm_X8_step s m args below meth c 0 0 (MQ below (QcV D dA G (fun v1 w1 => Ok G v1 w1 ∧ Kp G v v1 ∧ (Ps h0 v v1) ∧ v1 h0 10 = v h0 10 ∧ v1 h0 11 = v h0 11 ∧ Fr G [8] v v1)) args s 0 0 (dm G)) D dA G (dm G) s.heap 2 v1 w2 [(0, .ref h0)] 165 [] := by
    intro n
    induction n with
    | zero => intro v1 w2 o3 k4 f5 u6 u7 x9 e10 b8 h11 h12 hm; exact hm.zero b8 (by decide)
    | succ n ih165 =>
      intro v1 w2 o3 k4 f5 u6 u7 x9 e10 b8 h11 h12 hmu165
      refine J_aload_n E dX8_step_165 0 rfl ?_
      refine J_callVI E cal_X8_here wd1035 rfl (S_X8.h S0) [] [] (ct_X8_here l D dA G v1 w2 (o3) h0 S0) rfl rfl (Nat.le_of_ble_eq_true rfl) ⟨rfl, rfl⟩ ⟨Nat.le_of_ble_eq_true rfl, Nat.le_of_ble_eq_true rfl⟩ dX8_step_166 (fun x16 v13 w14 p15 => ?_)
      rw [p15.1, p15.2.1]
      have b17 : Bd x16 (-128) 127 := p15.2.2.1
      refine J_bipush E 97 dX8_step_169 (by decide) ?_
      refine J_bipush E 122 dX8_step_171 (by decide) ?_
      refine J_callSI E cal_X8_in wd996 [.int x16, .int 97, .int 122] [] (ct_X8_in l D dA G v1 w2 (o3) x16 97 122) rfl rfl (Nat.le_of_ble_eq_true rfl) ⟨rfl, rfl⟩ ⟨Nat.le_of_ble_eq_true rfl, Nat.le_of_ble_eq_true rfl⟩ dX8_step_173 (fun x21 v18 w19 p20 => ?_)
      rw [p20.1, p20.2.1]
      have b22 : Bd x21 0 1 := p20.2.2.1
      refine J_if_eq E 192 dX8_step_176 (by decide) (fun c23 => ?_) (fun c23 => ?_)
      · have b24 : Bd x21 0 0 := Bd.eq_l c23 b22 (Bd.lit 0 0 (by decide)) 0 0 (by decide)
        have g25 : ¬ (97 ≤ x16 ∧ x16 ≤ 122) := (p20.2.2.2.2).resolve_left (fun h9 => h9 c23)
        have t26 : (v h0 6).toInt < x9.toInt := h12.resolve_right (fun q9 => g25 (by rw [(p15.2.2.2.1)]; exact q9))
        refine J_aload_n E dX8_step_192 0 rfl ?_
        refine J_aload_n E dX8_step_193 0 rfl ?_
        refine J_callVI E cal_X8_wordOf wd1039 rfl (S_X8.h S0) [] [.ref h0] (ct_X8_wordOf l D dA G v1 w2 (o3) h0 S0) rfl rfl (Nat.le_of_ble_eq_true rfl) ⟨rfl, rfl⟩ ⟨Nat.le_of_ble_eq_true rfl, Nat.le_of_ble_eq_true rfl⟩ dX8_step_194 (fun x30 v27 w28 p29 => ?_)
        rw [p29.1, p29.2.1]
        have b31 : Bd x30 0 9 := p29.2.2.1
        refine J_pI E in_X8 rfl (S_X8.h S0) 8 (by decide) wd943 tyX8 tyX8_ok nmX8 rfl rfl .int (by decide +kernel) rfl rfl dX8_step_197 (fun v32 e33 => ?_)
        have o34 : Ok G v32 w2 := Ok.pf o3 e33 (S_X8.h S0) rfl (b31.w I0 I1 (by decide))
        have k35 : Kp G v v32 := Kp.pf k4 e33 (S_X8.h S0) rfl
        have e36 : x9 = v32 h0 6 := by rw [e33, stv_k (by decide)]; exact e10
        have f37 : Fr G [8] v v32 := Fr.st f5 e33 (S_X8.h S0) rfl
        have u38 : v32 h0 10 = v h0 10 := by rw [e33, stv_k (by decide)]; exact u6
        have u39 : v32 h0 11 = v h0 11 := by rw [e33, stv_k (by decide)]; exact u7
        have e40 : x30 = v32 h0 8 := by rw [e33, stv_s]
        refine J_goto E 230 dX8_step_200 (by decide) ?_
        exact J_vret E hr dX8_step_230 ⟨o34, k35, ⟨⟨by rw [← e36]; exact Int.le_of_lt t26, Or.inr (by rw [← e36]; exact t26)⟩, u38, u39, f37⟩⟩
      · have b41 : Bd x21 1 1 := (Bd.ne_lo c23 b22 (Bd.lit 0 0 (by decide))).w _ _ (by decide)
        have g42 := (p20.2.2.2.1).resolve_left c23
        have b43 : Bd x16 97 127 := Bd.le_r g42.1 (Bd.lit 97 97 (by decide)) b17 97 (by decide)
        have b44 : Bd x9 0 149 := Bd.e ((p15.2.2.2.2).resolve_left (fun q9 => by have q8 := b43; unfold Bd at q9 q8; omega)) e10
        have b45 : Bd x16 97 122 := Bd.le_l g42.2 b43 (Bd.lit 122 122 (by decide)) 122 (by decide)
        refine J_aload_n E dX8_step_179 0 rfl ?_
        refine J_dup E dX8_step_180 rfl ?_
        refine J_getI E in_X8 rfl (S_X8.h S0) 6 (by decide) wd941 rfl dX8_step_181 (fun x46 e47 => ?_)
        rw [show x46 = x9 from e47.trans (e10).symm]
        refine J_iconst E 1 dX8_step_184 (by decide) ?_
        refine J_iadd E dX8_step_185 (fun x48 e49 => ?_)
        have b50 : Bd x48 1 150 := (Bd.add e49 b44 (Bd.lit 1 1 (by decide)) (by decide)).w _ _ (by decide)
        refine J_pI E in_X8 rfl (S_X8.h S0) 6 (by decide) wd941 tyX8 tyX8_ok nmX8 rfl rfl .int (by decide +kernel) rfl rfl dX8_step_186 (fun v51 e52 => ?_)
        have o53 : Ok G v51 w2 := Ok.pf o3 e52 (S_X8.h S0) rfl (b50.w 0 150 (by decide))
        have k54 : Kp G v v51 := Kp.pf k4 e52 (S_X8.h S0) rfl
        have f55 : Fr G [8] v v51 := Fr.st f5 e52 (S_X8.h S0) rfl
        have u56 : v51 h0 10 = v h0 10 := by rw [e52, stv_k (by decide)]; exact u6
        have u57 : v51 h0 11 = v h0 11 := by rw [e52, stv_k (by decide)]; exact u7
        have e58 : x48 = v51 h0 6 := by rw [e52, stv_s]
        have t59 : (v h0 6).toInt < x48.toInt := at_inc h11 e49 b44
        refine J_goto E 165 dX8_step_189 (by decide) ?_
        exact J.sub [0] rfl (ih165 v51 w2 (o53) (k54) f55 u56 u57 x48 (e58) (b50.w 0 150 (by decide)) (Int.le_of_lt t59) (Or.inl t59) (Mu.step hmu165 e49 b44 (Bd.lit 1 1 (by decide)) (by decide)))
  have J148 : ∀ (v60 : Mv) (w61 : Mw), Ok G v60 w61 → Kp G v v60 → Fr G [8] v v60 → v60 h0 10 = v h0 10 → v60 h0 11 = v h0 11 → ∀ x67 : Int32, Bd x67 6 9 → ∀ x70 : Int32, x70 = v60 h0 6 → Bd x70 0 150 → ((v h0 6).toInt < x70.toInt) → J p l e rm_X8_step s m args below meth c 0 0 (MQ below (QcV D dA G (fun v1 w1 => Ok G v1 w1 ∧ Kp G v v1 ∧ (Ps h0 v v1) ∧ v1 h0 10 = v h0 10 ∧ v1 h0 11 = v h0 11 ∧ Fr G [8] v v1)) args s 0 0 (dm G)) D dA G (dm G) s.heap 2 v60 w61 [] 148 [.int x67, .ref h0] := by
    intro v60 w61 o62 k63 f64 u65 u66 x67 b68 x70 e71 b69 h72
    refine J_pI E in_X8 rfl (S_X8.h S0) 8 (by decide) wd943 tyX8 tyX8_ok nmX8 rfl rfl .int (by decide +kernel) rfl rfl dX8_step_148 (fun v73 e74 => ?_)
    have o75 : Ok G v73 w61 := Ok.pf o62 e74 (S_X8.h S0) rfl (b68.w I0 I1 (by decide))
    have k76 : Kp G v v73 := Kp.pf k63 e74 (S_X8.h S0) rfl
    have e77 : x70 = v73 h0 6 := by rw [e74, stv_k (by decide)]; exact e71
    have f78 : Fr G [8] v v73 := Fr.st f64 e74 (S_X8.h S0) rfl
    have u79 : v73 h0 10 = v h0 10 := by rw [e74, stv_k (by decide)]; exact u65
    have u80 : v73 h0 11 = v h0 11 := by rw [e74, stv_k (by decide)]; exact u66
    have e81 : x67 = v73 h0 8 := by rw [e74, stv_s]
    refine J_goto E 230 dX8_step_151 (by decide) ?_
    exact J_vret E hr dX8_step_230 ⟨o75, k76, ⟨⟨by rw [← e77]; exact Int.le_of_lt h72, Or.inr (by rw [← e77]; exact h72)⟩, u79, u80, f78⟩⟩
  have J65 : ∀ n : Nat, ∀ (v82 : Mv) (w83 : Mw), Ok G v82 w83 → Kp G v v82 → Fr G [8] v v82 → v82 h0 10 = v h0 10 → v82 h0 11 = v h0 11 → ∀ x90 : Int32, x90 = v82 h0 6 → Bd x90 0 150 → ((v h0 6).toInt ≤ x90.toInt) → ((v h0 6).toInt < x90.toInt ∨ (48 ≤ hF G v82 h0 ∧ hF G v82 h0 ≤ 57)) → Mu x90 150 n → J p l e rm_X8_step s m args below meth c 0 0 (MQ below (QcV D dA G (fun v1 w1 => Ok G v1 w1 ∧ Kp G v v1 ∧ (Ps h0 v v1) ∧ v1 h0 10 = v h0 10 ∧ v1 h0 11 = v h0 11 ∧ Fr G [8] v v1)) args s 0 0 (dm G)) D dA G (dm G) s.heap 2 v82 w83 [(0, .ref h0)] 65 [] := by
    intro n
    induction n with
    | zero => intro v82 w83 o84 k85 f86 u87 u88 x90 e91 b89 h92 h93 hm; exact hm.zero b89 (by decide)
    | succ n ih65 =>
      intro v82 w83 o84 k85 f86 u87 u88 x90 e91 b89 h92 h93 hmu65
      have J111 : ∀ x94 : Int32, Bd x94 0 999 → Bd x90 0 149 → ((v h0 6).toInt ≤ x90.toInt) → J p l e rm_X8_step s m args below meth c 0 0 (MQ below (QcV D dA G (fun v1 w1 => Ok G v1 w1 ∧ Kp G v v1 ∧ (Ps h0 v v1) ∧ v1 h0 10 = v h0 10 ∧ v1 h0 11 = v h0 11 ∧ Fr G [8] v v1)) args s 0 0 (dm G)) D dA G (dm G) s.heap 2 v82 w83 [(0, .ref h0)] 111 [.int x94, .ref h0] := by
        intro x94 b95 b96 h97
        refine J_pI E in_X8 rfl (S_X8.h S0) 9 (by decide) wd944 tyX8 tyX8_ok nmX8 rfl rfl .int (by decide +kernel) rfl rfl dX8_step_111 (fun v98 e99 => ?_)
        have o100 : Ok G v98 w83 := Ok.pf o84 e99 (S_X8.h S0) rfl b95
        have k101 : Kp G v v98 := Kp.pf k85 e99 (S_X8.h S0) rfl
        have e102 : x90 = v98 h0 6 := by rw [e99, stv_k (by decide)]; exact e91
        have f103 : Fr G [8] v v98 := Fr.st f86 e99 (S_X8.h S0) rfl
        have u104 : v98 h0 10 = v h0 10 := by rw [e99, stv_k (by decide)]; exact u87
        have u105 : v98 h0 11 = v h0 11 := by rw [e99, stv_k (by decide)]; exact u88
        have e106 : x94 = v98 h0 9 := by rw [e99, stv_s]
        refine J_aload_n E dX8_step_114 0 rfl ?_
        refine J_dup E dX8_step_115 rfl ?_
        refine J_getI E in_X8 rfl (S_X8.h S0) 6 (by decide) wd941 rfl dX8_step_116 (fun x107 e108 => ?_)
        rw [show x107 = x90 from e108.trans (e102).symm]
        refine J_iconst E 1 dX8_step_119 (by decide) ?_
        refine J_iadd E dX8_step_120 (fun x109 e110 => ?_)
        have b111 : Bd x109 1 150 := (Bd.add e110 b96 (Bd.lit 1 1 (by decide)) (by decide)).w _ _ (by decide)
        refine J_pI E in_X8 rfl (S_X8.h S0) 6 (by decide) wd941 tyX8 tyX8_ok nmX8 rfl rfl .int (by decide +kernel) rfl rfl dX8_step_121 (fun v112 e113 => ?_)
        have o114 : Ok G v112 w83 := Ok.pf o100 e113 (S_X8.h S0) rfl (b111.w 0 150 (by decide))
        have k115 : Kp G v v112 := Kp.pf k101 e113 (S_X8.h S0) rfl
        have e116 : x94 = v112 h0 9 := by rw [e113, stv_k (by decide)]; exact e106
        have f117 : Fr G [8] v v112 := Fr.st f103 e113 (S_X8.h S0) rfl
        have u118 : v112 h0 10 = v h0 10 := by rw [e113, stv_k (by decide)]; exact u104
        have u119 : v112 h0 11 = v h0 11 := by rw [e113, stv_k (by decide)]; exact u105
        have e120 : x109 = v112 h0 6 := by rw [e113, stv_s]
        have t121 : (v h0 6).toInt < x109.toInt := at_inc h97 e110 b96
        refine J_goto E 65 dX8_step_124 (by decide) ?_
        exact J.sub [0] rfl (ih65 v112 w83 (o114) (k115) f117 u118 u119 x109 (e120) (b111.w 0 150 (by decide)) (Int.le_of_lt t121) (Or.inl t121) (Mu.step hmu65 e110 b96 (Bd.lit 1 1 (by decide)) (by decide)))
      refine J_aload_n E dX8_step_65 0 rfl ?_
      refine J_callVI E cal_X8_here wd1035 rfl (S_X8.h S0) [] [] (ct_X8_here l D dA G v82 w83 (o84) h0 S0) rfl rfl (Nat.le_of_ble_eq_true rfl) ⟨rfl, rfl⟩ ⟨Nat.le_of_ble_eq_true rfl, Nat.le_of_ble_eq_true rfl⟩ dX8_step_66 (fun x125 v122 w123 p124 => ?_)
      rw [p124.1, p124.2.1]
      have b126 : Bd x125 (-128) 127 := p124.2.2.1
      refine J_bipush E 48 dX8_step_69 (by decide) ?_
      refine J_bipush E 57 dX8_step_71 (by decide) ?_
      refine J_callSI E cal_X8_in wd996 [.int x125, .int 48, .int 57] [] (ct_X8_in l D dA G v82 w83 (o84) x125 48 57) rfl rfl (Nat.le_of_ble_eq_true rfl) ⟨rfl, rfl⟩ ⟨Nat.le_of_ble_eq_true rfl, Nat.le_of_ble_eq_true rfl⟩ dX8_step_73 (fun x130 v127 w128 p129 => ?_)
      rw [p129.1, p129.2.1]
      have b131 : Bd x130 0 1 := p129.2.2.1
      refine J_if_eq E 127 dX8_step_76 (by decide) (fun c132 => ?_) (fun c132 => ?_)
      · have b133 : Bd x130 0 0 := Bd.eq_l c132 b131 (Bd.lit 0 0 (by decide)) 0 0 (by decide)
        have g134 : ¬ (48 ≤ x125 ∧ x125 ≤ 57) := (p129.2.2.2.2).resolve_left (fun h9 => h9 c132)
        have t135 : (v h0 6).toInt < x90.toInt := h93.resolve_right (fun q9 => g134 (by rw [(p124.2.2.2.1)]; exact q9))
        refine J_aload_n E dX8_step_127 0 rfl ?_
        refine J_aload_n E dX8_step_128 0 rfl ?_
        refine J_getI E in_X8 rfl (S_X8.h S0) 6 (by decide) wd941 rfl dX8_step_129 (fun x136 e137 => ?_)
        rw [show x136 = x90 from e137.trans (e91).symm]
        refine J_aload_n E dX8_step_132 0 rfl ?_
        refine J_getI E in_X8 rfl (S_X8.h S0) 7 (by decide) wd942 rfl dX8_step_133 (fun x138 e139 => ?_)
        have b140 : Bd x138 0 150 := Ok.fd o84 e139 (S_X8.h S0) rfl
        refine J_isub E dX8_step_136 (fun x141 e142 => ?_)
        have b143 : Bd x141 (-150) 150 := (Bd.sub e142 b89 b140 (by decide)).w _ _ (by decide)
        refine J_iconst E 2 dX8_step_137 (by decide) ?_
        refine J_icmp_le E 146 dX8_step_138 (by decide) (fun c144 => ?_) (fun c144 => ?_)
        · have b145 : Bd x141 (-150) 2 := Bd.le_l c144 b143 (Bd.lit 2 2 (by decide)) 2 (by decide)
          refine J_bipush E 6 dX8_step_146 (by decide) ?_
          exact J.sub [] rfl (J148 v82 w83 (o84) (k85) f86 u87 u88 6 ((Bd.lit 6 6 (by decide)).w 6 9 (by decide)) x90 (e91) b89 t135)
        · have b146 : Bd x141 3 150 := Bd.lt_r (nle c144) (Bd.lit 2 2 (by decide)) b143 3 (by decide)
          refine J_bipush E 9 dX8_step_141 (by decide) ?_
          refine J_goto E 148 dX8_step_143 (by decide) ?_
          exact J.sub [] rfl (J148 v82 w83 (o84) (k85) f86 u87 u88 9 ((Bd.lit 9 9 (by decide)).w 6 9 (by decide)) x90 (e91) b89 t135)
      · have b147 : Bd x130 1 1 := (Bd.ne_lo c132 b131 (Bd.lit 0 0 (by decide))).w _ _ (by decide)
        have g148 := (p129.2.2.2.1).resolve_left c132
        have b149 : Bd x125 48 127 := Bd.le_r g148.1 (Bd.lit 48 48 (by decide)) b126 48 (by decide)
        have b150 : Bd x90 0 149 := Bd.e ((p124.2.2.2.2).resolve_left (fun q9 => by have q8 := b149; unfold Bd at q9 q8; omega)) e91
        have b151 : Bd x125 48 57 := Bd.le_l g148.2 b149 (Bd.lit 57 57 (by decide)) 57 (by decide)
        refine J_aload_n E dX8_step_79 0 rfl ?_
        refine J_aload_n E dX8_step_80 0 rfl ?_
        refine J_getI E in_X8 rfl (S_X8.h S0) 9 (by decide) wd944 rfl dX8_step_81 (fun x152 e153 => ?_)
        have b154 : Bd x152 0 999 := Ok.fd o84 e153 (S_X8.h S0) rfl
        refine J_bipush E 99 dX8_step_84 (by decide) ?_
        refine J_icmp_le E 96 dX8_step_86 (by decide) (fun c155 => ?_) (fun c155 => ?_)
        · have b156 : Bd x152 0 99 := Bd.le_l c155 b154 (Bd.lit 99 99 (by decide)) 99 (by decide)
          refine J_bipush E 10 dX8_step_96 (by decide) ?_
          refine J_aload_n E dX8_step_98 0 rfl ?_
          refine J_getI E in_X8 rfl (S_X8.h S0) 9 (by decide) wd944 rfl dX8_step_99 (fun x157 e158 => ?_)
          rw [show x157 = x152 from e158.trans (e153).symm]
          refine J_imul E dX8_step_102 (fun x159 e160 => ?_)
          have b161 : Bd x159 0 990 := Bd.mul e160 (Bd.lit 10 10 (by decide)) b156 (by decide)
          refine J_aload_n E dX8_step_103 0 rfl ?_
          refine J_callVI E cal_X8_here wd1035 rfl (S_X8.h S0) [] [.int x159, .ref h0] (ct_X8_here l D dA G v82 w83 (o84) h0 S0) rfl rfl (Nat.le_of_ble_eq_true rfl) ⟨rfl, rfl⟩ ⟨Nat.le_of_ble_eq_true rfl, Nat.le_of_ble_eq_true rfl⟩ dX8_step_104 (fun x165 v162 w163 p164 => ?_)
          rw [p164.1, p164.2.1]
          have b166 : Bd x165 (-128) 127 := p164.2.2.1
          rw [show x165 = x125 from ((p164.2.2.2.1)).trans ((p124.2.2.2.1)).symm]
          refine J_iadd E dX8_step_107 (fun x167 e168 => ?_)
          have b169 : Bd x167 48 1047 := (Bd.add e168 b161 b151 (by decide)).w _ _ (by decide)
          refine J_bipush E 48 dX8_step_108 (by decide) ?_
          refine J_isub E dX8_step_110 (fun x170 e171 => ?_)
          have b172 : Bd x170 0 999 := (Bd.sub e171 b169 (Bd.lit 48 48 (by decide)) (by decide)).w _ _ (by decide)
          exact J.sub [0] rfl (J111 x170 b172 b150 h92)
        · have b173 : Bd x152 100 999 := Bd.lt_r (nle c155) (Bd.lit 99 99 (by decide)) b154 100 (by decide)
          refine J_aload_n E dX8_step_89 0 rfl ?_
          refine J_getI E in_X8 rfl (S_X8.h S0) 9 (by decide) wd944 rfl dX8_step_90 (fun x174 e175 => ?_)
          rw [show x174 = x152 from e175.trans (e153).symm]
          refine J_goto E 111 dX8_step_93 (by decide) ?_
          exact J.sub [0] rfl (J111 x152 (b173.w 0 999 (by decide)) b150 h92)
  have J0 : ∀ n : Nat, ∀ (v176 : Mv) (w177 : Mw), Ok G v176 w177 → Kp G v v176 → Fr G [8] v v176 → v176 h0 10 = v h0 10 → v176 h0 11 = v h0 11 → ∀ x184 : Int32, x184 = v176 h0 6 → Bd x184 0 150 → ((v h0 6).toInt ≤ x184.toInt) → Mu x184 150 n → J p l e rm_X8_step s m args below meth c 0 0 (MQ below (QcV D dA G (fun v1 w1 => Ok G v1 w1 ∧ Kp G v v1 ∧ (Ps h0 v v1) ∧ v1 h0 10 = v h0 10 ∧ v1 h0 11 = v h0 11 ∧ Fr G [8] v v1)) args s 0 0 (dm G)) D dA G (dm G) s.heap 2 v176 w177 [(0, .ref h0)] 0 [] := by
    intro n
    induction n with
    | zero => intro v176 w177 o178 k179 f180 u181 u182 x184 e185 b183 h186 hm; exact hm.zero b183 (by decide)
    | succ n ih0 =>
      intro v176 w177 o178 k179 f180 u181 u182 x184 e185 b183 h186 hmu0
      refine J_aload_n E dX8_step_0 0 rfl ?_
      refine J_callVI E cal_X8_here wd1035 rfl (S_X8.h S0) [] [] (ct_X8_here l D dA G v176 w177 (o178) h0 S0) rfl rfl (Nat.le_of_ble_eq_true rfl) ⟨rfl, rfl⟩ ⟨Nat.le_of_ble_eq_true rfl, Nat.le_of_ble_eq_true rfl⟩ dX8_step_1 (fun x190 v187 w188 p189 => ?_)
      rw [p189.1, p189.2.1]
      have b191 : Bd x190 (-128) 127 := p189.2.2.1
      refine J_bipush E 32 dX8_step_4 (by decide) ?_
      refine J_icmp_ne E 22 dX8_step_6 (by decide) (fun c192 => ?_) (fun c192 => ?_)
      · refine J_aload_n E dX8_step_22 0 rfl ?_
        refine J_aload_n E dX8_step_23 0 rfl ?_
        refine J_getI E in_X8 rfl (S_X8.h S0) 6 (by decide) wd941 rfl dX8_step_24 (fun x193 e194 => ?_)
        rw [show x193 = x184 from e194.trans (e185).symm]
        refine J_pI E in_X8 rfl (S_X8.h S0) 7 (by decide) wd942 tyX8 tyX8_ok nmX8 rfl rfl .int (by decide +kernel) rfl rfl dX8_step_27 (fun v195 e196 => ?_)
        have o197 : Ok G v195 w177 := Ok.pf o178 e196 (S_X8.h S0) rfl b183
        have k198 : Kp G v v195 := Kp.pf k179 e196 (S_X8.h S0) rfl
        have e199 : x184 = v195 h0 6 := by rw [e196, stv_k (by decide)]; exact e185
        have f200 : Fr G [8] v v195 := Fr.st f180 e196 (S_X8.h S0) rfl
        have u201 : v195 h0 10 = v h0 10 := by rw [e196, stv_k (by decide)]; exact u181
        have u202 : v195 h0 11 = v h0 11 := by rw [e196, stv_k (by decide)]; exact u182
        have e203 : x184 = v195 h0 7 := by rw [e196, stv_s]
        refine J_aload_n E dX8_step_30 0 rfl ?_
        refine J_iconst E 0 dX8_step_31 (by decide) ?_
        refine J_pI E in_X8 rfl (S_X8.h S0) 9 (by decide) wd944 tyX8 tyX8_ok nmX8 rfl rfl .int (by decide +kernel) rfl rfl dX8_step_32 (fun v204 e205 => ?_)
        have o206 : Ok G v204 w177 := Ok.pf o197 e205 (S_X8.h S0) rfl ((Bd.lit 0 0 (by decide)).w 0 999 (by decide))
        have k207 : Kp G v v204 := Kp.pf k198 e205 (S_X8.h S0) rfl
        have e208 : x184 = v204 h0 6 := by rw [e205, stv_k (by decide)]; exact e199
        have e209 : x184 = v204 h0 7 := by rw [e205, stv_k (by decide)]; exact e203
        have f210 : Fr G [8] v v204 := Fr.st f200 e205 (S_X8.h S0) rfl
        have u211 : v204 h0 10 = v h0 10 := by rw [e205, stv_k (by decide)]; exact u201
        have u212 : v204 h0 11 = v h0 11 := by rw [e205, stv_k (by decide)]; exact u202
        have e213 : (0 : Int32) = v204 h0 9 := by rw [e205, stv_s]
        refine J_aload_n E dX8_step_35 0 rfl ?_
        refine J_callVI E cal_X8_here wd1035 rfl (S_X8.h S0) [] [] (ct_X8_here l D dA G v204 w177 (o206) h0 S0) rfl rfl (Nat.le_of_ble_eq_true rfl) ⟨rfl, rfl⟩ ⟨Nat.le_of_ble_eq_true rfl, Nat.le_of_ble_eq_true rfl⟩ dX8_step_36 (fun x217 v214 w215 p216 => ?_)
        rw [p216.1, p216.2.1]
        have b218 : Bd x217 (-128) 127 := p216.2.2.1
        refine J_istore_n E [(1, .int x217), (0, .ref h0)] dX8_step_39 rfl (by decide) rfl ?_
        refine J_iload_n E dX8_step_40 0 rfl ?_
        refine J_iconst E (-1) dX8_step_41 (by decide) ?_
        refine J_icmp_ne E 54 dX8_step_42 (by decide) (fun c219 => ?_) (fun c219 => ?_)
        · have b220 : Bd x184 0 149 := Bd.e ((p216.2.2.2.2).resolve_left (fun q9 => c219 (Bd.m1 q9))) e208
          refine J_iload_n E dX8_step_54 0 rfl ?_
          refine J_bipush E 48 dX8_step_55 (by decide) ?_
          refine J_bipush E 57 dX8_step_57 (by decide) ?_
          refine J_callSI E cal_X8_in wd996 [.int x217, .int 48, .int 57] [] (ct_X8_in l D dA G v204 w177 (o206) x217 48 57) rfl rfl (Nat.le_of_ble_eq_true rfl) ⟨rfl, rfl⟩ ⟨Nat.le_of_ble_eq_true rfl, Nat.le_of_ble_eq_true rfl⟩ dX8_step_59 (fun x224 v221 w222 p223 => ?_)
          rw [p223.1, p223.2.1]
          have b225 : Bd x224 0 1 := p223.2.2.1
          refine J_if_eq E 154 dX8_step_62 (by decide) (fun c226 => ?_) (fun c226 => ?_)
          · have b227 : Bd x224 0 0 := Bd.eq_l c226 b225 (Bd.lit 0 0 (by decide)) 0 0 (by decide)
            have g228 : ¬ (48 ≤ x217 ∧ x217 ≤ 57) := (p223.2.2.2.2).resolve_left (fun h9 => h9 c226)
            refine J_iload_n E dX8_step_154 0 rfl ?_
            refine J_bipush E 97 dX8_step_155 (by decide) ?_
            refine J_bipush E 122 dX8_step_157 (by decide) ?_
            refine J_callSI E cal_X8_in wd996 [.int x217, .int 97, .int 122] [] (ct_X8_in l D dA G v204 w177 (o206) x217 97 122) rfl rfl (Nat.le_of_ble_eq_true rfl) ⟨rfl, rfl⟩ ⟨Nat.le_of_ble_eq_true rfl, Nat.le_of_ble_eq_true rfl⟩ dX8_step_159 (fun x232 v229 w230 p231 => ?_)
            rw [p231.1, p231.2.1]
            have b233 : Bd x232 0 1 := p231.2.2.1
            refine J_if_eq E 203 dX8_step_162 (by decide) (fun c234 => ?_) (fun c234 => ?_)
            · have b235 : Bd x232 0 0 := Bd.eq_l c234 b233 (Bd.lit 0 0 (by decide)) 0 0 (by decide)
              have g236 : ¬ (97 ≤ x217 ∧ x217 ≤ 122) := (p231.2.2.2.2).resolve_left (fun h9 => h9 c234)
              refine J_aload_n E dX8_step_203 1 rfl ?_
              refine J_dup E dX8_step_204 rfl ?_
              refine J_getI E in_X8 rfl (S_X8.h S0) 6 (by decide) wd941 rfl dX8_step_205 (fun x237 e238 => ?_)
              rw [show x237 = x184 from e238.trans (e208).symm]
              refine J_iconst E 1 dX8_step_208 (by decide) ?_
              refine J_iadd E dX8_step_209 (fun x239 e240 => ?_)
              have b241 : Bd x239 1 150 := (Bd.add e240 b220 (Bd.lit 1 1 (by decide)) (by decide)).w _ _ (by decide)
              refine J_pI E in_X8 rfl (S_X8.h S0) 6 (by decide) wd941 tyX8 tyX8_ok nmX8 rfl rfl .int (by decide +kernel) rfl rfl dX8_step_210 (fun v242 e243 => ?_)
              have o244 : Ok G v242 w177 := Ok.pf o206 e243 (S_X8.h S0) rfl (b241.w 0 150 (by decide))
              have k245 : Kp G v v242 := Kp.pf k207 e243 (S_X8.h S0) rfl
              have e246 : x184 = v242 h0 7 := by rw [e243, stv_k (by decide)]; exact e209
              have e247 : 0 = v242 h0 9 := by rw [e243, stv_k (by decide)]; exact e213
              have f248 : Fr G [8] v v242 := Fr.st f210 e243 (S_X8.h S0) rfl
              have u249 : v242 h0 10 = v h0 10 := by rw [e243, stv_k (by decide)]; exact u211
              have u250 : v242 h0 11 = v h0 11 := by rw [e243, stv_k (by decide)]; exact u212
              have e251 : x239 = v242 h0 6 := by rw [e243, stv_s]
              have t252 : (v h0 6).toInt < x239.toInt := at_inc h186 e240 b220
              refine J_aload_n E dX8_step_213 1 rfl ?_
              refine J_iload_n E dX8_step_214 0 rfl ?_
              refine J_bipush E 59 dX8_step_215 (by decide) ?_
              refine J_icmp_ne E 225 dX8_step_217 (by decide) (fun c253 => ?_) (fun c253 => ?_)
              · refine J_bipush E 9 dX8_step_225 (by decide) ?_
                refine J_pI E in_X8 rfl (S_X8.h S0) 8 (by decide) wd943 tyX8 tyX8_ok nmX8 rfl rfl .int (by decide +kernel) rfl rfl dX8_step_227 (fun v254 e255 => ?_)
                have o256 : Ok G v254 w177 := Ok.pf o244 e255 (S_X8.h S0) rfl ((Bd.lit 9 9 (by decide)).w I0 I1 (by decide))
                have k257 : Kp G v v254 := Kp.pf k245 e255 (S_X8.h S0) rfl
                have e258 : x184 = v254 h0 7 := by rw [e255, stv_k (by decide)]; exact e246
                have e259 : 0 = v254 h0 9 := by rw [e255, stv_k (by decide)]; exact e247
                have e260 : x239 = v254 h0 6 := by rw [e255, stv_k (by decide)]; exact e251
                have f261 : Fr G [8] v v254 := Fr.st f248 e255 (S_X8.h S0) rfl
                have u262 : v254 h0 10 = v h0 10 := by rw [e255, stv_k (by decide)]; exact u249
                have u263 : v254 h0 11 = v h0 11 := by rw [e255, stv_k (by decide)]; exact u250
                have e264 : (9 : Int32) = v254 h0 8 := by rw [e255, stv_s]
                exact J_vret E hr dX8_step_230 ⟨o256, k257, ⟨⟨by rw [← e260]; exact Int.le_of_lt t252, Or.inr (by rw [← e260]; exact t252)⟩, u262, u263, f261⟩⟩
              · have b265 : Bd x217 59 59 := Bd.eq_l c253 b218 (Bd.lit 59 59 (by decide)) 59 59 (by decide)
                refine J_bipush E 7 dX8_step_220 (by decide) ?_
                refine J_goto E 227 dX8_step_222 (by decide) ?_
                refine J_pI E in_X8 rfl (S_X8.h S0) 8 (by decide) wd943 tyX8 tyX8_ok nmX8 rfl rfl .int (by decide +kernel) rfl rfl dX8_step_227 (fun v266 e267 => ?_)
                have o268 : Ok G v266 w177 := Ok.pf o244 e267 (S_X8.h S0) rfl ((Bd.lit 7 7 (by decide)).w I0 I1 (by decide))
                have k269 : Kp G v v266 := Kp.pf k245 e267 (S_X8.h S0) rfl
                have e270 : x184 = v266 h0 7 := by rw [e267, stv_k (by decide)]; exact e246
                have e271 : 0 = v266 h0 9 := by rw [e267, stv_k (by decide)]; exact e247
                have e272 : x239 = v266 h0 6 := by rw [e267, stv_k (by decide)]; exact e251
                have f273 : Fr G [8] v v266 := Fr.st f248 e267 (S_X8.h S0) rfl
                have u274 : v266 h0 10 = v h0 10 := by rw [e267, stv_k (by decide)]; exact u249
                have u275 : v266 h0 11 = v h0 11 := by rw [e267, stv_k (by decide)]; exact u250
                have e276 : (7 : Int32) = v266 h0 8 := by rw [e267, stv_s]
                exact J_vret E hr dX8_step_230 ⟨o268, k269, ⟨⟨by rw [← e272]; exact Int.le_of_lt t252, Or.inr (by rw [← e272]; exact t252)⟩, u274, u275, f273⟩⟩
            · have b277 : Bd x232 1 1 := (Bd.ne_lo c234 b233 (Bd.lit 0 0 (by decide))).w _ _ (by decide)
              have g278 := (p231.2.2.2.1).resolve_left c234
              have b279 : Bd x217 97 127 := Bd.le_r g278.1 (Bd.lit 97 97 (by decide)) b218 97 (by decide)
              have b280 : Bd x217 97 122 := Bd.le_l g278.2 b279 (Bd.lit 122 122 (by decide)) 122 (by decide)
              exact J.sub [1] rfl (J165 151 v204 w177 (o206) (k207) f210 u211 u212 x184 (e208) (b220.w 0 150 (by decide)) h186 (Or.inr (by rw [← (p216.2.2.2.1)]; exact ⟨g278.1, g278.2⟩)) (Mu.start _ b220 (by decide)))
          · have b281 : Bd x224 1 1 := (Bd.ne_lo c226 b225 (Bd.lit 0 0 (by decide))).w _ _ (by decide)
            have g282 := (p223.2.2.2.1).resolve_left c226
            have b283 : Bd x217 48 127 := Bd.le_r g282.1 (Bd.lit 48 48 (by decide)) b218 48 (by decide)
            have b284 : Bd x217 48 57 := Bd.le_l g282.2 b283 (Bd.lit 57 57 (by decide)) 57 (by decide)
            exact J.sub [1] rfl (J65 151 v204 w177 (o206) (k207) f210 u211 u212 x184 (e208) (b220.w 0 150 (by decide)) h186 (Or.inr (by rw [← (p216.2.2.2.1)]; exact ⟨g282.1, g282.2⟩)) (Mu.start _ b220 (by decide)))
        · have b285 : Bd x217 (-1) (-1) := Bd.eq_l c219 b218 (Bd.lit (-1) (-1) (by decide)) (-1) (-1) (by decide)
          refine J_aload_n E dX8_step_45 1 rfl ?_
          refine J_bipush E 8 dX8_step_46 (by decide) ?_
          refine J_pI E in_X8 rfl (S_X8.h S0) 8 (by decide) wd943 tyX8 tyX8_ok nmX8 rfl rfl .int (by decide +kernel) rfl rfl dX8_step_48 (fun v286 e287 => ?_)
          have o288 : Ok G v286 w177 := Ok.pf o206 e287 (S_X8.h S0) rfl ((Bd.lit 8 8 (by decide)).w I0 I1 (by decide))
          have k289 : Kp G v v286 := Kp.pf k207 e287 (S_X8.h S0) rfl
          have e290 : x184 = v286 h0 6 := by rw [e287, stv_k (by decide)]; exact e208
          have e291 : x184 = v286 h0 7 := by rw [e287, stv_k (by decide)]; exact e209
          have e292 : 0 = v286 h0 9 := by rw [e287, stv_k (by decide)]; exact e213
          have f293 : Fr G [8] v v286 := Fr.st f210 e287 (S_X8.h S0) rfl
          have u294 : v286 h0 10 = v h0 10 := by rw [e287, stv_k (by decide)]; exact u211
          have u295 : v286 h0 11 = v h0 11 := by rw [e287, stv_k (by decide)]; exact u212
          have e296 : (8 : Int32) = v286 h0 8 := by rw [e287, stv_s]
          refine J_goto E 230 dX8_step_51 (by decide) ?_
          exact J_vret E hr dX8_step_230 ⟨o288, k289, ⟨⟨by rw [← e290]; exact h186, Or.inl (e296).symm⟩, u294, u295, f293⟩⟩
      · have b297 : Bd x190 32 32 := Bd.eq_l c192 b191 (Bd.lit 32 32 (by decide)) 32 32 (by decide)
        have b298 : Bd x184 0 149 := Bd.e ((p189.2.2.2.2).resolve_left (fun q9 => by have q8 := b297; unfold Bd at q9 q8; omega)) e185
        refine J_aload_n E dX8_step_9 0 rfl ?_
        refine J_dup E dX8_step_10 rfl ?_
        refine J_getI E in_X8 rfl (S_X8.h S0) 6 (by decide) wd941 rfl dX8_step_11 (fun x299 e300 => ?_)
        rw [show x299 = x184 from e300.trans (e185).symm]
        refine J_iconst E 1 dX8_step_14 (by decide) ?_
        refine J_iadd E dX8_step_15 (fun x301 e302 => ?_)
        have b303 : Bd x301 1 150 := (Bd.add e302 b298 (Bd.lit 1 1 (by decide)) (by decide)).w _ _ (by decide)
        refine J_pI E in_X8 rfl (S_X8.h S0) 6 (by decide) wd941 tyX8 tyX8_ok nmX8 rfl rfl .int (by decide +kernel) rfl rfl dX8_step_16 (fun v304 e305 => ?_)
        have o306 : Ok G v304 w177 := Ok.pf o178 e305 (S_X8.h S0) rfl (b303.w 0 150 (by decide))
        have k307 : Kp G v v304 := Kp.pf k179 e305 (S_X8.h S0) rfl
        have f308 : Fr G [8] v v304 := Fr.st f180 e305 (S_X8.h S0) rfl
        have u309 : v304 h0 10 = v h0 10 := by rw [e305, stv_k (by decide)]; exact u181
        have u310 : v304 h0 11 = v h0 11 := by rw [e305, stv_k (by decide)]; exact u182
        have e311 : x301 = v304 h0 6 := by rw [e305, stv_s]
        have t312 : (v h0 6).toInt < x301.toInt := at_inc h186 e302 b298
        refine J_goto E 0 dX8_step_19 (by decide) ?_
        exact J.sub [0] rfl (ih0 v304 w177 (o306) (k307) f308 u309 u310 x301 (e311) (b303.w 0 150 (by decide)) (Int.le_of_lt t312) (Mu.step hmu0 e302 b298 (Bd.lit 1 1 (by decide)) (by decide)))
  obtain ⟨x313, e314⟩ : ∃ z : Int32, z = v h0 6 := ⟨_, rfl⟩
  have b315 : Bd x313 0 150 := Ok.fd hOk e314 (S_X8.h S0) rfl
  exact J.sub [0] rfl (J0 151 v w (hOk) (Kp.rf) Fr.rf rfl rfl x313 (e314) b315 (by rw [e314]; exact Int.le_refl _) (Mu.start _ b315 (by decide)))

abbrev rm_X8_due : Room := { frames := 3, cells := 0, slots := 0, locals := 69 }
set_option maxHeartbeats 4000000 in
set_option maxRecDepth 100000 in
theorem ct_X8_due (l : Launch) (D : va_G) (dA : Nat → ClassId) (G : Gm) (v : Mv) (w : Mw) (hOk : Ok G v w) (h0 : Nat) (S0 : S_X8 G h0) (x_0 : Int32) (bx_0 : Bd x_0 0 1) : CtV l yX8_due cX8_due 2 none rm_X8_due D dA G [.ref h0, .int x_0] v w (fun v1 w1 => Ok G v1 w1 ∧ Kp G v v1 ∧ (¬ v1 h0 10 = 0 ∨ (¬ x_0 = 0 ∧ v h0 10 = 0 ∧ Ps h0 v v1)) ∧ Pg h0 v v1 ∧ Fr G [8] v v1) := by
  refine CtV.of RX8 [(0, .ref h0), (1, .int x_0)] (Nat.le_of_ble_eq_true rfl) rfl (by decide) rfl ?_
  intro p e s m args below meth c E hr
  refine J_aload_n E dX8_due_0 0 rfl ?_
  refine J_getI E in_X8 rfl (S_X8.h S0) 10 (by decide) wd945 rfl dX8_due_1 (fun x1 e2 => ?_)
  have b3 : Bd x1 0 1 := Ok.fd hOk e2 (S_X8.h S0) rfl
  refine J_if_eq E 8 dX8_due_4 (by decide) (fun c4 => ?_) (fun c4 => ?_)
  · have b5 : Bd x1 0 0 := Bd.eq_l c4 b3 (Bd.lit 0 0 (by decide)) 0 0 (by decide)
    refine J_iload_n E dX8_due_8 1 rfl ?_
    refine J_if_eq E 19 dX8_due_9 (by decide) (fun c6 => ?_) (fun c6 => ?_)
    · have b7 : Bd x_0 0 0 := Bd.eq_l c6 bx_0 (Bd.lit 0 0 (by decide)) 0 0 (by decide)
      refine J_aload_n E dX8_due_19 0 rfl ?_
      refine J_iconst E 1 dX8_due_20 (by decide) ?_
      refine J_pI E in_X8 rfl (S_X8.h S0) 10 (by decide) wd945 tyX8 tyX8_ok nmX8 rfl rfl .boolean (by decide +kernel) (Bd.z (Bd.lit 1 1 (by decide)) (by decide)) (Bd.zf (Bd.lit 1 1 (by decide)) (by decide)) dX8_due_21 (fun v8 e9 => ?_)
      have o10 : Ok G v8 w := Ok.pf hOk e9 (S_X8.h S0) rfl ((Bd.lit 1 1 (by decide)).w 0 1 (by decide))
      have k11 : Kp G v v8 := Kp.pf Kp.rf e9 (S_X8.h S0) rfl
      have f12 : Fr G [8] v v8 := Fr.st Fr.rf e9 (S_X8.h S0) rfl
      have g13 : Pg h0 v v8 := Pg.same Pg.rf (by rw [e9, stv_k (by decide)]) (by rw [e9, stv_k (by decide)])
      have e14 : (1 : Int32) = v8 h0 10 := by rw [e9, stv_s]
      exact J_vret E hr dX8_due_24 ⟨o10, k11, ⟨(Or.inl (by rw [← e14]; decide)), g13, f12⟩⟩
    · have b15 : Bd x_0 1 1 := (Bd.ne_lo c6 bx_0 (Bd.lit 0 0 (by decide))).w _ _ (by decide)
      refine J_aload_n E dX8_due_12 0 rfl ?_
      refine J_callVV E cal_X8_step wd1031 rfl (S_X8.h S0) [] [] (ct_X8_step l D dA G v w (hOk) h0 S0) rfl rfl (Nat.le_of_ble_eq_true rfl) ⟨rfl, rfl⟩ ⟨Nat.le_of_ble_eq_true rfl, Nat.le_of_ble_eq_true rfl⟩ dX8_due_13 (fun v16 w17 p18 => ?_)
      have o20 := p18.1
      have k21 : Kp G v v16 := (Kp.rf).tr p18.2.1
      have f22 : Fr G [8] v v16 := Fr.tr Fr.rf (p18.2.2.2.2.2) (by decide)
      have g23 : Pg h0 v v16 := Pg.rf.tr (Ps.g p18.2.2.1)
      refine J_goto E 24 dX8_due_16 (by decide) ?_
      exact J_vret E hr dX8_due_24 ⟨o20, k21, ⟨(Or.inr ⟨c6, e2.symm.trans c4, (p18.2.2.1)⟩), g23, f22⟩⟩
  · have b24 : Bd x1 1 1 := (Bd.ne_lo c4 b3 (Bd.lit 0 0 (by decide))).w _ _ (by decide)
    exact J_vret E hr dX8_due_7 ⟨hOk, Kp.rf, ⟨(Or.inl (by rw [← e2]; exact c4)), Pg.rf, Fr.rf⟩⟩

abbrev rm_X8_number : Room := { frames := 4, cells := 0, slots := 0, locals := 90 }
set_option maxHeartbeats 4000000 in
set_option maxRecDepth 100000 in
theorem ct_X8_number (l : Launch) (D : va_G) (dA : Nat → ClassId) (G : Gm) (v : Mv) (w : Mw) (hOk : Ok G v w) (h0 : Nat) (S0 : S_X8 G h0) (x_0 : Int32) (x_1 : Int32) : CtI l yX8_number cX8_number 4 (some .int) rm_X8_number D dA G [.ref h0, .int x_0, .int x_1] v w (fun r v1 w1 => Ok G v1 w1 ∧ Kp G v v1 ∧ Bd r 0 999 ∧ Pg h0 v v1 ∧ Fr G [8] v v1) := by
  refine CtI.of RX8 [(0, .ref h0), (1, .int x_0), (2, .int x_1)] (Nat.le_of_ble_eq_true rfl) rfl (by decide) rfl ?_
  intro p e s m args below meth c E hr
  have J29 : ∀ x1 : Int32, Bd x1 0 999 → ∀ x3 : Int32, Bd x3 0 1 → J p l e rm_X8_number s m args below meth c 0 0 (MQ below (QcI D dA G (fun r v1 w1 => Ok G v1 w1 ∧ Kp G v v1 ∧ Bd r 0 999 ∧ Pg h0 v v1 ∧ Fr G [8] v v1)) args s 0 0 (dm G)) D dA G (dm G) s.heap 4 v w [(3, .int x1)] 29 [.int x3, .ref h0] := by
    intro x1 b2 x3 b4
    refine J_callVV E cal_X8_due wd1051 rfl (S_X8.h S0) [.int x3] [] (ct_X8_due l D dA G v w (hOk) h0 S0 x3 b4) rfl rfl (Nat.le_of_ble_eq_true rfl) ⟨rfl, rfl⟩ ⟨Nat.le_of_ble_eq_true rfl, Nat.le_of_ble_eq_true rfl⟩ dX8_number_29 (fun v5 w6 p7 => ?_)
    have o9 := p7.1
    have k10 : Kp G v v5 := (Kp.rf).tr p7.2.1
    have f11 : Fr G [8] v v5 := Fr.tr Fr.rf (p7.2.2.2.2) (by decide)
    have g12 : Pg h0 v v5 := Pg.rf.tr p7.2.2.2.1
    refine J_iload_n E dX8_number_32 0 rfl ?_
    exact J_iret E hr dX8_number_33 ⟨o9, k10, b2, ⟨g12, f11⟩⟩
  have J28 : ∀ x13 : Int32, Bd x13 0 999 → J p l e rm_X8_number s m args below meth c 0 0 (MQ below (QcI D dA G (fun r v1 w1 => Ok G v1 w1 ∧ Kp G v v1 ∧ Bd r 0 999 ∧ Pg h0 v v1 ∧ Fr G [8] v v1)) args s 0 0 (dm G)) D dA G (dm G) s.heap 4 v w [(3, .int x13)] 28 [.ref h0] := by
    intro x13 b14
    refine J_iconst E 0 dX8_number_28 (by decide) ?_
    exact J.sub [0] rfl (J29 x13 b14 0 ((Bd.lit 0 0 (by decide)).w 0 1 (by decide)))
  refine J_aload_n E dX8_number_0 0 rfl ?_
  refine J_getI E in_X8 rfl (S_X8.h S0) 9 (by decide) wd944 rfl dX8_number_1 (fun x15 e16 => ?_)
  have b17 : Bd x15 0 999 := Ok.fd hOk e16 (S_X8.h S0) rfl
  refine J_istore_n E [(3, .int x15), (0, .ref h0), (1, .int x_0), (2, .int x_1)] dX8_number_4 rfl (by decide) rfl ?_
  refine J_aload_n E dX8_number_5 1 rfl ?_
  refine J_aload_n E dX8_number_6 1 rfl ?_
  refine J_getI E in_X8 rfl (S_X8.h S0) 8 (by decide) wd943 rfl dX8_number_7 (fun x18 e19 => ?_)
  refine J_bipush E 6 dX8_number_10 (by decide) ?_
  refine J_icmp_ne E 28 dX8_number_12 (by decide) (fun c20 => ?_) (fun c20 => ?_)
  · exact J.sub [0] rfl (J28 x15 b17)
  · have b21 : Bd x18 6 6 := Bd.eq_l c20 (Bd.any x18) (Bd.lit 6 6 (by decide)) 6 6 (by decide)
    refine J_iload_n E dX8_number_15 0 rfl ?_
    refine J_iload_n E dX8_number_16 2 rfl ?_
    refine J_iload_n E dX8_number_17 3 rfl ?_
    refine J_callSI E cal_X8_in wd996 [.int x15, .int x_0, .int x_1] [.ref h0] (ct_X8_in l D dA G v w (hOk) x15 x_0 x_1) rfl rfl (Nat.le_of_ble_eq_true rfl) ⟨rfl, rfl⟩ ⟨Nat.le_of_ble_eq_true rfl, Nat.le_of_ble_eq_true rfl⟩ dX8_number_18 (fun x25 v22 w23 p24 => ?_)
    rw [p24.1, p24.2.1]
    have b26 : Bd x25 0 1 := p24.2.2.1
    refine J_if_eq E 28 dX8_number_21 (by decide) (fun c27 => ?_) (fun c27 => ?_)
    · have b28 : Bd x25 0 0 := Bd.eq_l c27 b26 (Bd.lit 0 0 (by decide)) 0 0 (by decide)
      have g29 : ¬ (x_0 ≤ x15 ∧ x15 ≤ x_1) := (p24.2.2.2.2).resolve_left (fun h9 => h9 c27)
      exact J.sub [0] rfl (J28 x15 b17)
    · have b30 : Bd x25 1 1 := (Bd.ne_lo c27 b26 (Bd.lit 0 0 (by decide))).w _ _ (by decide)
      have g31 := (p24.2.2.2.1).resolve_left c27
      have b32 : Bd x_0 I0 999 := Bd.le_l g31.1 (Bd.any x_0) b17 999 (by decide)
      have b33 : Bd x_1 0 I1 := Bd.le_r g31.2 b17 (Bd.any x_1) 0 (by decide)
      refine J_iconst E 1 dX8_number_24 (by decide) ?_
      refine J_goto E 29 dX8_number_25 (by decide) ?_
      exact J.sub [0] rfl (J29 x15 b17 1 ((Bd.lit 1 1 (by decide)).w 0 1 (by decide)))

abbrev rm_X8_readThing : Room := { frames := 5, cells := 0, slots := 0, locals := 113 }
set_option maxHeartbeats 4000000 in
set_option maxRecDepth 100000 in
theorem ct_X8_readThing (l : Launch) (D : va_G) (dA : Nat → ClassId) (G : Gm) (v : Mv) (w : Mw) (hOk : Ok G v w) (h0 : Nat) (S0 : S_X8 G h0) (z_0 : Int32) (ez_0 : z_0 = v (rf G h0 1) 738) (pre0 : Bd z_0 0 6) : CtV l yX8_readThing cX8_readThing 3 none rm_X8_readThing D dA G [.ref h0] v w (fun v1 w1 => Ok G v1 w1 ∧ Kp G v v1 ∧ Pg h0 v v1 ∧ Fr G [8, 1084] v v1) := by
  refine CtV.of RX8 [(0, .ref h0)] (Nat.le_of_ble_eq_true rfl) rfl (by decide) rfl ?_
  intro p e s m args below meth c E hr
  refine J_aload_n E dX8_readThing_0 0 rfl ?_
  refine J_iconst E 0 dX8_readThing_1 (by decide) ?_
  refine J_iconst E 5 dX8_readThing_2 (by decide) ?_
  refine J_callVI E cal_X8_number wd1063 rfl (S_X8.h S0) [.int 0, .int 5] [] (ct_X8_number l D dA G v w (hOk) h0 S0 0 5) rfl rfl (Nat.le_of_ble_eq_true rfl) ⟨rfl, rfl⟩ ⟨Nat.le_of_ble_eq_true rfl, Nat.le_of_ble_eq_true rfl⟩ dX8_readThing_3 (fun x4 v1 w2 p3 => ?_)
  have o5 := p3.1
  have k6 : Kp G v v1 := (Kp.rf).tr p3.2.1
  have f7 : Fr G [8, 1084] v v1 := Fr.tr Fr.rf (p3.2.2.2.2) (by decide)
  have g8 : Pg h0 v v1 := Pg.rf.tr p3.2.2.2.1
  have b9 : Bd x4 0 999 := p3.2.2.1
  refine J_istore_n E [(1, .int x4), (0, .ref h0)] dX8_readThing_6 rfl (by decide) rfl ?_
  refine J_aload_n E dX8_readThing_7 1 rfl ?_
  refine J_iconst E 1 dX8_readThing_8 (by decide) ?_
  refine J_bipush E 30 dX8_readThing_9 (by decide) ?_
  refine J_callVI E cal_X8_number wd1063 rfl (S_X8.h S0) [.int 1, .int 30] [] (ct_X8_number l D dA G v1 w2 (o5) h0 S0 1 30) rfl rfl (Nat.le_of_ble_eq_true rfl) ⟨rfl, rfl⟩ ⟨Nat.le_of_ble_eq_true rfl, Nat.le_of_ble_eq_true rfl⟩ dX8_readThing_11 (fun x13 v10 w11 p12 => ?_)
  have o14 := p12.1
  have k15 : Kp G v v10 := (k6).tr p12.2.1
  have f16 : Fr G [8, 1084] v v10 := Fr.tr f7 (p12.2.2.2.2) (by decide)
  have g17 : Pg h0 v v10 := g8.tr p12.2.2.2.1
  have b18 : Bd x13 0 999 := p12.2.2.1
  refine J_istore_n E [(2, .int x13), (1, .int x4), (0, .ref h0)] dX8_readThing_14 rfl (by decide) rfl ?_
  refine J_aload_n E dX8_readThing_15 2 rfl ?_
  refine J_getI E in_X8 rfl (S_X8.h S0) 10 (by decide) wd945 rfl dX8_readThing_16 (fun x19 e20 => ?_)
  have b21 : Bd x19 0 1 := Ok.fd o14 e20 (S_X8.h S0) rfl
  refine J_if_ne E 32 dX8_readThing_19 (by decide) (fun c22 => ?_) (fun c22 => ?_)
  · have b23 : Bd x19 1 1 := (Bd.ne_lo c22 b21 (Bd.lit 0 0 (by decide))).w _ _ (by decide)
    exact J_vret E hr dX8_readThing_32 ⟨o14, k15, ⟨g17, f16⟩⟩
  · have b24 : Bd x19 0 0 := Bd.eq_l c22 b21 (Bd.lit 0 0 (by decide)) 0 0 (by decide)
    refine J_aload_n E dX8_readThing_22 2 rfl ?_
    refine J_sipush E 738 dX8_readThing_23 (by decide) ?_
    refine J_iload_n E dX8_readThing_26 1 rfl ?_
    refine J_iload_n E dX8_readThing_27 0 rfl ?_
    refine J_callVI E cal_X8_add wd1007 rfl (S_X8.h S0) [.int 738, .int x4, .int x13] [] (ct_X8_add_738 l D dA G v10 w11 (o14) h0 S0 x4 b9 x13 b18 z_0 (((((ez_0).trans (Fr.at (p3.2.2.2.2) ((S_X8.f1 S0)) rfl 738).symm)).trans (Fr.at (p12.2.2.2.2) ((S_X8.f1 S0)) rfl 738).symm)) pre0) rfl rfl (Nat.le_of_ble_eq_true rfl) ⟨rfl, rfl⟩ ⟨Nat.le_of_ble_eq_true rfl, Nat.le_of_ble_eq_true rfl⟩ dX8_readThing_28 (fun x28 v25 w26 p27 => ?_)
    have o29 := p27.1
    have k30 : Kp G v v25 := (k15).tr p27.2.1
    have f31 : Fr G [8, 1084] v v25 := Fr.tr f16 (p27.2.2.2) (by decide)
    have g32 : Pg h0 v v25 := Pg.same g17 (Fr.at (p27.2.2.2) (S_X8.h S0) rfl 6) (Fr.at (p27.2.2.2) (S_X8.h S0) rfl 8)
    have b33 : Bd x28 0 6 := p27.2.2.1
    refine J_pop E dX8_readThing_31 rfl ?_
    exact J_vret E hr dX8_readThing_32 ⟨o29, k30, ⟨g32, f31⟩⟩

abbrev rm_X8_readOne : Room := { frames := 5, cells := 0, slots := 0, locals := 113 }
set_option maxHeartbeats 4000000 in
set_option maxRecDepth 100000 in
theorem ct_X8_readOne (l : Launch) (D : va_G) (dA : Nat → ClassId) (G : Gm) (v : Mv) (w : Mw) (hOk : Ok G v w) (h0 : Nat) (S0 : S_X8 G h0) (z_0 : Int32) (ez_0 : z_0 = v (rf G h0 1) 739) (pre0 : Bd z_0 0 6) : CtV l yX8_readOne cX8_readOne 4 none rm_X8_readOne D dA G [.ref h0] v w (fun v1 w1 => Ok G v1 w1 ∧ Kp G v v1 ∧ Pg h0 v v1 ∧ Fr G [8, 1084] v v1) := by
  refine CtV.of RX8 [(0, .ref h0)] (Nat.le_of_ble_eq_true rfl) rfl (by decide) rfl ?_
  intro p e s m args below meth c E hr
  refine J_aload_n E dX8_readOne_0 0 rfl ?_
  refine J_iconst E 0 dX8_readOne_1 (by decide) ?_
  refine J_iconst E 5 dX8_readOne_2 (by decide) ?_
  refine J_callVI E cal_X8_number wd1063 rfl (S_X8.h S0) [.int 0, .int 5] [] (ct_X8_number l D dA G v w (hOk) h0 S0 0 5) rfl rfl (Nat.le_of_ble_eq_true rfl) ⟨rfl, rfl⟩ ⟨Nat.le_of_ble_eq_true rfl, Nat.le_of_ble_eq_true rfl⟩ dX8_readOne_3 (fun x4 v1 w2 p3 => ?_)
  have o5 := p3.1
  have k6 : Kp G v v1 := (Kp.rf).tr p3.2.1
  have f7 : Fr G [8, 1084] v v1 := Fr.tr Fr.rf (p3.2.2.2.2) (by decide)
  have g8 : Pg h0 v v1 := Pg.rf.tr p3.2.2.2.1
  have b9 : Bd x4 0 999 := p3.2.2.1
  refine J_istore_n E [(1, .int x4), (0, .ref h0)] dX8_readOne_6 rfl (by decide) rfl ?_
  refine J_aload_n E dX8_readOne_7 1 rfl ?_
  refine J_iconst E 1 dX8_readOne_8 (by decide) ?_
  refine J_bipush E 9 dX8_readOne_9 (by decide) ?_
  refine J_callVI E cal_X8_number wd1063 rfl (S_X8.h S0) [.int 1, .int 9] [] (ct_X8_number l D dA G v1 w2 (o5) h0 S0 1 9) rfl rfl (Nat.le_of_ble_eq_true rfl) ⟨rfl, rfl⟩ ⟨Nat.le_of_ble_eq_true rfl, Nat.le_of_ble_eq_true rfl⟩ dX8_readOne_11 (fun x13 v10 w11 p12 => ?_)
  have o14 := p12.1
  have k15 : Kp G v v10 := (k6).tr p12.2.1
  have f16 : Fr G [8, 1084] v v10 := Fr.tr f7 (p12.2.2.2.2) (by decide)
  have g17 : Pg h0 v v10 := g8.tr p12.2.2.2.1
  have b18 : Bd x13 0 999 := p12.2.2.1
  refine J_istore_n E [(2, .int x13), (1, .int x4), (0, .ref h0)] dX8_readOne_14 rfl (by decide) rfl ?_
  refine J_aload_n E dX8_readOne_15 2 rfl ?_
  refine J_iconst E 0 dX8_readOne_16 (by decide) ?_
  refine J_bipush E 99 dX8_readOne_17 (by decide) ?_
  refine J_callVI E cal_X8_number wd1063 rfl (S_X8.h S0) [.int 0, .int 99] [] (ct_X8_number l D dA G v10 w11 (o14) h0 S0 0 99) rfl rfl (Nat.le_of_ble_eq_true rfl) ⟨rfl, rfl⟩ ⟨Nat.le_of_ble_eq_true rfl, Nat.le_of_ble_eq_true rfl⟩ dX8_readOne_19 (fun x22 v19 w20 p21 => ?_)
  have o23 := p21.1
  have k24 : Kp G v v19 := (k15).tr p21.2.1
  have f25 : Fr G [8, 1084] v v19 := Fr.tr f16 (p21.2.2.2.2) (by decide)
  have g26 : Pg h0 v v19 := g17.tr p21.2.2.2.1
  have b27 : Bd x22 0 999 := p21.2.2.1
  refine J_istore_n E [(3, .int x22), (2, .int x13), (1, .int x4), (0, .ref h0)] dX8_readOne_22 rfl (by decide) rfl ?_
  refine J_aload_n E dX8_readOne_23 3 rfl ?_
  refine J_getI E in_X8 rfl (S_X8.h S0) 10 (by decide) wd945 rfl dX8_readOne_24 (fun x28 e29 => ?_)
  have b30 : Bd x28 0 1 := Ok.fd o23 e29 (S_X8.h S0) rfl
  refine J_if_ne E 41 dX8_readOne_27 (by decide) (fun c31 => ?_) (fun c31 => ?_)
  · have b32 : Bd x28 1 1 := (Bd.ne_lo c31 b30 (Bd.lit 0 0 (by decide))).w _ _ (by decide)
    exact J_vret E hr dX8_readOne_41 ⟨o23, k24, ⟨g26, f25⟩⟩
  · have b33 : Bd x28 0 0 := Bd.eq_l c31 b30 (Bd.lit 0 0 (by decide)) 0 0 (by decide)
    refine J_aload_n E dX8_readOne_30 3 rfl ?_
    refine J_sipush E 738 dX8_readOne_31 (by decide) ?_
    refine J_iload_n E dX8_readOne_34 2 rfl ?_
    refine J_iload_n E dX8_readOne_35 1 rfl ?_
    refine J_iload_n E dX8_readOne_36 0 rfl ?_
    refine J_callVI E cal_X8_join wd1015 rfl (S_X8.h S0) [.int 738, .int x4, .int x13, .int x22] [] (ct_X8_join_738 l D dA G v19 w20 (o23) h0 S0 x4 b9 x13 b18 x22 b27 z_0 (((((((ez_0).trans (Fr.at (p3.2.2.2.2) ((S_X8.f1 S0)) rfl 739).symm)).trans (Fr.at (p12.2.2.2.2) ((S_X8.f1 S0)) rfl 739).symm)).trans (Fr.at (p21.2.2.2.2) ((S_X8.f1 S0)) rfl 739).symm)) pre0) rfl rfl (Nat.le_of_ble_eq_true rfl) ⟨rfl, rfl⟩ ⟨Nat.le_of_ble_eq_true rfl, Nat.le_of_ble_eq_true rfl⟩ dX8_readOne_37 (fun x37 v34 w35 p36 => ?_)
    have o38 := p36.1
    have k39 : Kp G v v34 := (k24).tr p36.2.1
    have f40 : Fr G [8, 1084] v v34 := Fr.tr f25 (p36.2.2.2) (by decide)
    have g41 : Pg h0 v v34 := Pg.same g26 (Fr.at (p36.2.2.2) (S_X8.h S0) rfl 6) (Fr.at (p36.2.2.2) (S_X8.h S0) rfl 8)
    have b42 : Bd x37 0 6 := p36.2.2.1
    refine J_pop E dX8_readOne_40 rfl ?_
    exact J_vret E hr dX8_readOne_41 ⟨o38, k39, ⟨g41, f40⟩⟩

abbrev rm_X8_readOwn : Room := { frames := 4, cells := 0, slots := 0, locals := 90 }
set_option maxHeartbeats 4000000 in
set_option maxRecDepth 100000 in
theorem ct_X8_readOwn (l : Launch) (D : va_G) (dA : Nat → ClassId) (G : Gm) (v : Mv) (w : Mw) (hOk : Ok G v w) (h0 : Nat) (S0 : S_X8 G h0) : CtV l yX8_readOwn cX8_readOwn 4 none rm_X8_readOwn D dA G [.ref h0] v w (fun v1 w1 => Ok G v1 w1 ∧ Kp G v v1 ∧ Pg h0 v v1 ∧ Fr G [8, 1084] v v1) := by
  refine CtV.of RX8 [(0, .ref h0)] (Nat.le_of_ble_eq_true rfl) rfl (by decide) rfl ?_
  intro p e s m args below meth c E hr
  have J125 : ∀ (v1 : Mv) (w2 : Mw), Ok G v1 w2 → Kp G v v1 → Fr G [8, 1084] v v1 → Pg h0 v v1 → ∀ x7 : Int32, Bd x7 0 999 → ∀ x9 : Int32, Bd x9 0 999 → ∀ x11 : Int32, Bd x11 0 1 → (x11 = 0 ∨ Bd x9 0 6) → (¬ v1 h0 10 = 0 ∨ Bd x7 0 6) → J p l e rm_X8_readOwn s m args below meth c 0 0 (MQ below (QcV D dA G (fun v1 w1 => Ok G v1 w1 ∧ Kp G v v1 ∧ Pg h0 v v1 ∧ Fr G [8, 1084] v v1)) args s 0 0 (dm G)) D dA G (dm G) s.heap 4 v1 w2 [(0, .ref h0), (1, .int x7), (3, .int x9)] 125 [.int x11, .ref h0] := by
    intro v1 w2 o3 k4 f5 g6 x7 b8 x9 b10 x11 b12 h13 h14
    refine J_callVV E cal_X8_due wd1051 rfl (S_X8.h S0) [.int x11] [] (ct_X8_due l D dA G v1 w2 (o3) h0 S0 x11 b12) rfl rfl (Nat.le_of_ble_eq_true rfl) ⟨rfl, rfl⟩ ⟨Nat.le_of_ble_eq_true rfl, Nat.le_of_ble_eq_true rfl⟩ dX8_readOwn_125 (fun v15 w16 p17 => ?_)
    have o19 := p17.1
    have k20 : Kp G v v15 := (k4).tr p17.2.1
    have f21 : Fr G [8, 1084] v v15 := Fr.tr f5 (p17.2.2.2.2) (by decide)
    have g22 : Pg h0 v v15 := g6.tr p17.2.2.2.1
    refine J_aload_n E dX8_readOwn_128 0 rfl ?_
    refine J_getI E in_X8 rfl (S_X8.h S0) 10 (by decide) wd945 rfl dX8_readOwn_129 (fun x23 e24 => ?_)
    have b25 : Bd x23 0 1 := Ok.fd o19 e24 (S_X8.h S0) rfl
    refine J_if_ne E 146 dX8_readOwn_132 (by decide) (fun c26 => ?_) (fun c26 => ?_)
    · have b27 : Bd x23 1 1 := (Bd.ne_lo c26 b25 (Bd.lit 0 0 (by decide))).w _ _ (by decide)
      exact J_vret E hr dX8_readOwn_146 ⟨o19, k20, ⟨g22, f21⟩⟩
    · have b28 : Bd x23 0 0 := Bd.eq_l c26 b25 (Bd.lit 0 0 (by decide)) 0 0 (by decide)
      have g29 := (p17.2.2.1).resolve_left (fun h9 => h9 (by rw [← e24]; exact c26))
      have b30 : Bd x9 0 6 := h13.resolve_left g29.1
      have b31 : Bd x7 0 6 := h14.resolve_left (fun h9 => h9 g29.2.1)
      refine J_aload_n E dX8_readOwn_135 0 rfl ?_
      refine J_getR E in_X8 rfl (S_X8.h S0) 1 (by decide) wd936 rfl dX8_readOwn_136 ?_
      refine J_sipush E 781 dX8_readOwn_139 (by decide) ?_
      refine J_iload_n E dX8_readOwn_142 1 rfl ?_
      refine J_iadd E dX8_readOwn_143 (fun x32 e33 => ?_)
      have b34 : Bd x32 781 787 := (Bd.add e33 (Bd.lit 781 781 (by decide)) b31 (by decide)).w _ _ (by decide)
      refine J_iload_n E dX8_readOwn_144 2 rfl ?_
      refine J_iast1 E (S_X8.f1 S0) (Bd.in b34 (by decide)) dX8_readOwn_145 (fun v35 e36 => ?_)
      have o37 : Ok G v35 w16 := by rw [e36]; exact Ok.sv o19 (S_X8.f1 S0) b34 b30 781 7 (by decide) (by decide +kernel)
      have k38 : Kp G v v35 := by rw [e36]; exact Kp.sv k20 (S_X8.f1 S0) b34 781 7 0 6 (by decide) (by decide +kernel)
      have f39 : Fr G [8, 1084] v v35 := Fr.st f21 e36 (S_X8.f1 S0) rfl
      have e40 : x23 = v35 h0 10 := by rw [e36, stv_a (tg_ne (S_X8.h S0) ((S_X8.f1 S0)) rfl)]; exact e24
      have g41 : Pg h0 v v35 := Pg.same g22 (by rw [e36, stv_a (tg_ne (S_X8.h S0) (S_X8.f1 S0) rfl)]) (by rw [e36, stv_a (tg_ne (S_X8.h S0) (S_X8.f1 S0) rfl)])
      exact J_vret E hr dX8_readOwn_146 ⟨o37, k38, ⟨g41, f39⟩⟩
  have J124 : ∀ (v42 : Mv) (w43 : Mw), Ok G v42 w43 → Kp G v v42 → Fr G [8, 1084] v v42 → Pg h0 v v42 → ∀ x48 : Int32, Bd x48 0 999 → ∀ x50 : Int32, Bd x50 0 999 → (¬ v42 h0 10 = 0 ∨ Bd x48 0 6) → J p l e rm_X8_readOwn s m args below meth c 0 0 (MQ below (QcV D dA G (fun v1 w1 => Ok G v1 w1 ∧ Kp G v v1 ∧ Pg h0 v v1 ∧ Fr G [8, 1084] v v1)) args s 0 0 (dm G)) D dA G (dm G) s.heap 4 v42 w43 [(0, .ref h0), (1, .int x48), (3, .int x50)] 124 [.ref h0] := by
    intro v42 w43 o44 k45 f46 g47 x48 b49 x50 b51 h52
    refine J_iconst E 0 dX8_readOwn_124 (by decide) ?_
    exact J.sub [0, 1, 2] rfl (J125 v42 w43 (o44) (k45) f46 g47 x48 b49 x50 b51 0 ((Bd.lit 0 0 (by decide)).w 0 1 (by decide)) (Or.inl rfl) h52)
  have J71 : ∀ x53 : Int32, Bd x53 0 999 → ∀ x55 : Int32, Bd x55 0 1 → (x55 = 0 ∨ Bd x53 0 6) → J p l e rm_X8_readOwn s m args below meth c 0 0 (MQ below (QcV D dA G (fun v1 w1 => Ok G v1 w1 ∧ Kp G v v1 ∧ Pg h0 v v1 ∧ Fr G [8, 1084] v v1)) args s 0 0 (dm G)) D dA G (dm G) s.heap 4 v w [(0, .ref h0), (1, .int x53)] 71 [.int x55, .ref h0] := by
    intro x53 b54 x55 b56 h57
    refine J_callVV E cal_X8_due wd1051 rfl (S_X8.h S0) [.int x55] [] (ct_X8_due l D dA G v w (hOk) h0 S0 x55 b56) rfl rfl (Nat.le_of_ble_eq_true rfl) ⟨rfl, rfl⟩ ⟨Nat.le_of_ble_eq_true rfl, Nat.le_of_ble_eq_true rfl⟩ dX8_readOwn_71 (fun v58 w59 p60 => ?_)
    have o62 := p60.1
    have k63 : Kp G v v58 := (Kp.rf).tr p60.2.1
    have f64 : Fr G [8, 1084] v v58 := Fr.tr Fr.rf (p60.2.2.2.2) (by decide)
    have g65 : Pg h0 v v58 := Pg.rf.tr p60.2.2.2.1
    refine J_aload_n E dX8_readOwn_74 0 rfl ?_
    refine J_getI E in_X8 rfl (S_X8.h S0) 9 (by decide) wd944 rfl dX8_readOwn_75 (fun x66 e67 => ?_)
    have b68 : Bd x66 0 999 := Ok.fd o62 e67 (S_X8.h S0) rfl
    refine J_istore_n E [(3, .int x66), (0, .ref h0), (1, .int x53)] dX8_readOwn_78 rfl (by decide) rfl ?_
    refine J_aload_n E dX8_readOwn_79 1 rfl ?_
    refine J_aload_n E dX8_readOwn_80 1 rfl ?_
    refine J_getI E in_X8 rfl (S_X8.h S0) 8 (by decide) wd943 rfl dX8_readOwn_81 (fun x69 e70 => ?_)
    refine J_bipush E 6 dX8_readOwn_84 (by decide) ?_
    refine J_icmp_ne E 124 dX8_readOwn_86 (by decide) (fun c71 => ?_) (fun c71 => ?_)
    · exact J.sub [1, 2, 0] rfl (J124 v58 w59 (o62) (k63) f64 g65 x53 b54 x66 b68 ((p60.2.2.1).imp id (fun q9 => h57.resolve_left q9.1)))
    · have b72 : Bd x69 6 6 := Bd.eq_l c71 (Bd.any x69) (Bd.lit 6 6 (by decide)) 6 6 (by decide)
      refine J_iload_n E dX8_readOwn_89 0 rfl ?_
      refine J_aload_n E dX8_readOwn_90 1 rfl ?_
      refine J_getR E in_X8 rfl (S_X8.h S0) 1 (by decide) wd936 rfl dX8_readOwn_91 ?_
      refine J_sipush E 738 dX8_readOwn_94 (by decide) ?_
      refine J_iald1 E (S_X8.f1 S0) (Bd.in (Bd.lit 738 738 (by decide)) (by decide)) dX8_readOwn_97 (fun x73 e74 => ?_)
      have b75 : Bd x73 0 7 := Bd.e (Ok.ld o62 (S_X8.f1 S0) (Bd.lit 738 738 (by decide)) 738 1 0 7 (by decide) (by decide +kernel)) e74
      have e76 : x73 = v58 (rf G h0 1) 738 := by rw [e74, Bd.ix (Bd.lit 738 738 (by decide)) 738 rfl]
      refine J_icmp_ge E 124 dX8_readOwn_98 (by decide) (fun c77 => ?_) (fun c77 => ?_)
      · exact J.sub [1, 2, 0] rfl (J124 v58 w59 (o62) (k63) f64 g65 x53 b54 x66 b68 ((p60.2.2.1).imp id (fun q9 => h57.resolve_left q9.1)))
      · have b78 : Bd x66 0 6 := Bd.lt_l (nle c77) b68 b75 6 (by decide)
        have b79 : Bd x73 1 7 := Bd.lt_r (nle c77) b68 b75 1 (by decide)
        refine J_aload_n E dX8_readOwn_101 1 rfl ?_
        refine J_sipush E 738 dX8_readOwn_102 (by decide) ?_
        refine J_aload_n E dX8_readOwn_105 1 rfl ?_
        refine J_getR E in_X8 rfl (S_X8.h S0) 1 (by decide) wd936 rfl dX8_readOwn_106 ?_
        refine J_sipush E 772 dX8_readOwn_109 (by decide) ?_
        refine J_iload_n E dX8_readOwn_112 0 rfl ?_
        refine J_callVI E cal_X8_ownerOf wd1078 rfl (S_X8.h S0) [.int 738, .ref (rf G h0 1), .int 772, .int x66] [.ref h0] (ct_X8_ownerOf_738_A_772 l D dA G v58 w59 (o62) h0 S0 x66 b78) rfl rfl (Nat.le_of_ble_eq_true rfl) ⟨rfl, rfl⟩ ⟨Nat.le_of_ble_eq_true rfl, Nat.le_of_ble_eq_true rfl⟩ dX8_readOwn_113 (fun x83 v80 w81 p82 => ?_)
        rw [p82.1, p82.2.1]
        have b84 : Bd x83 (-1) 6 := p82.2.2.1
        refine J_iconst E (-1) dX8_readOwn_116 (by decide) ?_
        refine J_icmp_ne E 124 dX8_readOwn_117 (by decide) (fun c85 => ?_) (fun c85 => ?_)
        · have b86 : Bd x83 0 6 := (Bd.ne_lo c85 b84 (Bd.lit (-1) (-1) (by decide))).w _ _ (by decide)
          exact J.sub [1, 2, 0] rfl (J124 v58 w59 (o62) (k63) f64 g65 x53 b54 x66 (b78.w 0 999 (by decide)) ((p60.2.2.1).imp id (fun q9 => h57.resolve_left q9.1)))
        · have b87 : Bd x83 (-1) (-1) := Bd.eq_l c85 b84 (Bd.lit (-1) (-1) (by decide)) (-1) (-1) (by decide)
          refine J_iconst E 1 dX8_readOwn_120 (by decide) ?_
          refine J_goto E 125 dX8_readOwn_121 (by decide) ?_
          exact J.sub [1, 2, 0] rfl (J125 v58 w59 (o62) (k63) f64 g65 x53 b54 x66 (b78.w 0 999 (by decide)) 1 ((Bd.lit 1 1 (by decide)).w 0 1 (by decide)) (Or.inr b78) ((p60.2.2.1).imp id (fun q9 => h57.resolve_left q9.1)))
  have J70 : ∀ x88 : Int32, Bd x88 0 999 → J p l e rm_X8_readOwn s m args below meth c 0 0 (MQ below (QcV D dA G (fun v1 w1 => Ok G v1 w1 ∧ Kp G v v1 ∧ Pg h0 v v1 ∧ Fr G [8, 1084] v v1)) args s 0 0 (dm G)) D dA G (dm G) s.heap 4 v w [(0, .ref h0), (1, .int x88)] 70 [.ref h0] := by
    intro x88 b89
    refine J_iconst E 0 dX8_readOwn_70 (by decide) ?_
    exact J.sub [0, 1] rfl (J71 x88 b89 0 ((Bd.lit 0 0 (by decide)).w 0 1 (by decide)) (Or.inl rfl))
  have J46 : ∀ x90 : Int32, Bd x90 0 999 → ∀ x92 : Int32, Bd x92 0 1 → (x92 = 0 ∨ Bd x90 0 6) → J p l e rm_X8_readOwn s m args below meth c 0 0 (MQ below (QcV D dA G (fun v1 w1 => Ok G v1 w1 ∧ Kp G v v1 ∧ Pg h0 v v1 ∧ Fr G [8, 1084] v v1)) args s 0 0 (dm G)) D dA G (dm G) s.heap 4 v w [(0, .ref h0), (1, .int x90)] 46 [.int x92] := by
    intro x90 b91 x92 b93 h94
    refine J_istore_n E [(2, .int x92), (0, .ref h0), (1, .int x90)] dX8_readOwn_46 rfl (by decide) rfl ?_
    refine J_aload_n E dX8_readOwn_47 1 rfl ?_
    refine J_iload_n E dX8_readOwn_48 0 rfl ?_
    refine J_if_eq E 70 dX8_readOwn_49 (by decide) (fun c95 => ?_) (fun c95 => ?_)
    · have b96 : Bd x92 0 0 := Bd.eq_l c95 b93 (Bd.lit 0 0 (by decide)) 0 0 (by decide)
      exact J.sub [1, 2] rfl (J70 x90 b91)
    · have b97 : Bd x92 1 1 := (Bd.ne_lo c95 b93 (Bd.lit 0 0 (by decide))).w _ _ (by decide)
      have b98 : Bd x90 0 6 := h94.resolve_left c95
      refine J_aload_n E dX8_readOwn_52 1 rfl ?_
      refine J_getR E in_X8 rfl (S_X8.h S0) 1 (by decide) wd936 rfl dX8_readOwn_53 ?_
      refine J_sipush E 781 dX8_readOwn_56 (by decide) ?_
      refine J_iload_n E dX8_readOwn_59 2 rfl ?_
      refine J_iadd E dX8_readOwn_60 (fun x99 e100 => ?_)
      have b101 : Bd x99 781 787 := (Bd.add e100 (Bd.lit 781 781 (by decide)) b98 (by decide)).w _ _ (by decide)
      refine J_iald1 E (S_X8.f1 S0) (Bd.in b101 (by decide)) dX8_readOwn_61 (fun x102 e103 => ?_)
      have b104 : Bd x102 (-1) 6 := Bd.e (Ok.ld hOk (S_X8.f1 S0) b101 781 7 (-1) 6 (by decide) (by decide +kernel)) e103
      refine J_iconst E (-1) dX8_readOwn_62 (by decide) ?_
      refine J_icmp_ne E 70 dX8_readOwn_63 (by decide) (fun c105 => ?_) (fun c105 => ?_)
      · have b106 : Bd x102 0 6 := (Bd.ne_lo c105 b104 (Bd.lit (-1) (-1) (by decide))).w _ _ (by decide)
        exact J.sub [1, 2] rfl (J70 x90 (b98.w 0 999 (by decide)))
      · have b107 : Bd x102 (-1) (-1) := Bd.eq_l c105 b104 (Bd.lit (-1) (-1) (by decide)) (-1) (-1) (by decide)
        refine J_iconst E 1 dX8_readOwn_66 (by decide) ?_
        refine J_goto E 71 dX8_readOwn_67 (by decide) ?_
        exact J.sub [1, 2] rfl (J71 x90 (b98.w 0 999 (by decide)) 1 ((Bd.lit 1 1 (by decide)).w 0 1 (by decide)) (Or.inr b98))
  have J45 : ∀ x108 : Int32, Bd x108 0 999 → J p l e rm_X8_readOwn s m args below meth c 0 0 (MQ below (QcV D dA G (fun v1 w1 => Ok G v1 w1 ∧ Kp G v v1 ∧ Pg h0 v v1 ∧ Fr G [8, 1084] v v1)) args s 0 0 (dm G)) D dA G (dm G) s.heap 4 v w [(0, .ref h0), (1, .int x108)] 45 [] := by
    intro x108 b109
    refine J_iconst E 0 dX8_readOwn_45 (by decide) ?_
    exact J.sub [0, 1] rfl (J46 x108 b109 0 ((Bd.lit 0 0 (by decide)).w 0 1 (by decide)) (Or.inl rfl))
  refine J_aload_n E dX8_readOwn_0 0 rfl ?_
  refine J_getI E in_X8 rfl (S_X8.h S0) 9 (by decide) wd944 rfl dX8_readOwn_1 (fun x110 e111 => ?_)
  have b112 : Bd x110 0 999 := Ok.fd hOk e111 (S_X8.h S0) rfl
  refine J_istore_n E [(1, .int x110), (0, .ref h0)] dX8_readOwn_4 rfl (by decide) rfl ?_
  refine J_aload_n E dX8_readOwn_5 1 rfl ?_
  refine J_getI E in_X8 rfl (S_X8.h S0) 8 (by decide) wd943 rfl dX8_readOwn_6 (fun x113 e114 => ?_)
  refine J_bipush E 6 dX8_readOwn_9 (by decide) ?_
  refine J_icmp_ne E 45 dX8_readOwn_11 (by decide) (fun c115 => ?_) (fun c115 => ?_)
  · exact J.sub [1, 0] rfl (J45 x110 b112)
  · have b116 : Bd x113 6 6 := Bd.eq_l c115 (Bd.any x113) (Bd.lit 6 6 (by decide)) 6 6 (by decide)
    refine J_iload_n E dX8_readOwn_14 0 rfl ?_
    refine J_aload_n E dX8_readOwn_15 1 rfl ?_
    refine J_getR E in_X8 rfl (S_X8.h S0) 1 (by decide) wd936 rfl dX8_readOwn_16 ?_
    refine J_sipush E 739 dX8_readOwn_19 (by decide) ?_
    refine J_iald1 E (S_X8.f1 S0) (Bd.in (Bd.lit 739 739 (by decide)) (by decide)) dX8_readOwn_22 (fun x117 e118 => ?_)
    have b119 : Bd x117 0 7 := Bd.e (Ok.ld hOk (S_X8.f1 S0) (Bd.lit 739 739 (by decide)) 739 1 0 7 (by decide) (by decide +kernel)) e118
    have e120 : x117 = v (rf G h0 1) 739 := by rw [e118, Bd.ix (Bd.lit 739 739 (by decide)) 739 rfl]
    refine J_icmp_ge E 45 dX8_readOwn_23 (by decide) (fun c121 => ?_) (fun c121 => ?_)
    · exact J.sub [1, 0] rfl (J45 x110 b112)
    · have b122 : Bd x110 0 6 := Bd.lt_l (nle c121) b112 b119 6 (by decide)
      have b123 : Bd x117 1 7 := Bd.lt_r (nle c121) b112 b119 1 (by decide)
      refine J_aload_n E dX8_readOwn_26 1 rfl ?_
      refine J_getR E in_X8 rfl (S_X8.h S0) 1 (by decide) wd936 rfl dX8_readOwn_27 ?_
      refine J_sipush E 773 dX8_readOwn_30 (by decide) ?_
      refine J_iald1 E (S_X8.f1 S0) (Bd.in (Bd.lit 773 773 (by decide)) (by decide)) dX8_readOwn_33 (fun x124 e125 => ?_)
      have e126 : x124 = v (rf G h0 1) 773 := by rw [e125, Bd.ix (Bd.lit 773 773 (by decide)) 773 rfl]
      refine J_iload_n E dX8_readOwn_34 0 rfl ?_
      refine J_callSI E cal_X8_has wd1075 [.int x124, .int x110] [] (ct_X8_has l D dA G v w (hOk) x124 x110 (b122.w 0 9 (by decide))) rfl rfl (Nat.le_of_ble_eq_true rfl) ⟨rfl, rfl⟩ ⟨Nat.le_of_ble_eq_true rfl, Nat.le_of_ble_eq_true rfl⟩ dX8_readOwn_35 (fun x130 v127 w128 p129 => ?_)
      rw [p129.1, p129.2.1]
      have b131 : Bd x130 0 1 := p129.2.2.1
      refine J_if_ne E 45 dX8_readOwn_38 (by decide) (fun c132 => ?_) (fun c132 => ?_)
      · have b133 : Bd x130 1 1 := (Bd.ne_lo c132 b131 (Bd.lit 0 0 (by decide))).w _ _ (by decide)
        exact J.sub [1, 0] rfl (J45 x110 (b122.w 0 999 (by decide)))
      · have b134 : Bd x130 0 0 := Bd.eq_l c132 b131 (Bd.lit 0 0 (by decide)) 0 0 (by decide)
        refine J_iconst E 1 dX8_readOwn_41 (by decide) ?_
        refine J_goto E 46 dX8_readOwn_42 (by decide) ?_
        exact J.sub [1, 0] rfl (J46 x110 (b122.w 0 999 (by decide)) 1 ((Bd.lit 1 1 (by decide)).w 0 1 (by decide)) (Or.inr b122))

abbrev rm_X8_readLeave : Room := { frames := 4, cells := 0, slots := 0, locals := 90 }
set_option maxHeartbeats 4000000 in
set_option maxRecDepth 100000 in
theorem ct_X8_readLeave (l : Launch) (D : va_G) (dA : Nat → ClassId) (G : Gm) (v : Mv) (w : Mw) (hOk : Ok G v w) (h0 : Nat) (S0 : S_X8 G h0) : CtV l yX8_readLeave cX8_readLeave 2 none rm_X8_readLeave D dA G [.ref h0] v w (fun v1 w1 => Ok G v1 w1 ∧ Kp G v v1 ∧ Pg h0 v v1 ∧ Fr G [8, 1084] v v1) := by
  refine CtV.of RX8 [(0, .ref h0)] (Nat.le_of_ble_eq_true rfl) rfl (by decide) rfl ?_
  intro p e s m args below meth c E hr
  have J46 : ∀ x1 : Int32, Bd x1 0 999 → ∀ x3 : Int32, Bd x3 0 1 → (x3 = 0 ∨ Bd x1 0 6) → J p l e rm_X8_readLeave s m args below meth c 0 0 (MQ below (QcV D dA G (fun v1 w1 => Ok G v1 w1 ∧ Kp G v v1 ∧ Pg h0 v v1 ∧ Fr G [8, 1084] v v1)) args s 0 0 (dm G)) D dA G (dm G) s.heap 2 v w [(0, .ref h0), (1, .int x1)] 46 [.int x3, .ref h0] := by
    intro x1 b2 x3 b4 h5
    refine J_callVV E cal_X8_due wd1051 rfl (S_X8.h S0) [.int x3] [] (ct_X8_due l D dA G v w (hOk) h0 S0 x3 b4) rfl rfl (Nat.le_of_ble_eq_true rfl) ⟨rfl, rfl⟩ ⟨Nat.le_of_ble_eq_true rfl, Nat.le_of_ble_eq_true rfl⟩ dX8_readLeave_46 (fun v6 w7 p8 => ?_)
    have o10 := p8.1
    have k11 : Kp G v v6 := (Kp.rf).tr p8.2.1
    have f12 : Fr G [8, 1084] v v6 := Fr.tr Fr.rf (p8.2.2.2.2) (by decide)
    have g13 : Pg h0 v v6 := Pg.rf.tr p8.2.2.2.1
    refine J_aload_n E dX8_readLeave_49 0 rfl ?_
    refine J_getI E in_X8 rfl (S_X8.h S0) 10 (by decide) wd945 rfl dX8_readLeave_50 (fun x14 e15 => ?_)
    have b16 : Bd x14 0 1 := Ok.fd o10 e15 (S_X8.h S0) rfl
    refine J_if_ne E 67 dX8_readLeave_53 (by decide) (fun c17 => ?_) (fun c17 => ?_)
    · have b18 : Bd x14 1 1 := (Bd.ne_lo c17 b16 (Bd.lit 0 0 (by decide))).w _ _ (by decide)
      exact J_vret E hr dX8_readLeave_67 ⟨o10, k11, ⟨g13, f12⟩⟩
    · have b19 : Bd x14 0 0 := Bd.eq_l c17 b16 (Bd.lit 0 0 (by decide)) 0 0 (by decide)
      have g20 := (p8.2.2.1).resolve_left (fun h9 => h9 (by rw [← e15]; exact c17))
      have b21 : Bd x1 0 6 := h5.resolve_left g20.1
      refine J_aload_n E dX8_readLeave_56 0 rfl ?_
      refine J_getR E in_X8 rfl (S_X8.h S0) 1 (by decide) wd936 rfl dX8_readLeave_57 ?_
      refine J_sipush E 781 dX8_readLeave_60 (by decide) ?_
      refine J_iload_n E dX8_readLeave_63 1 rfl ?_
      refine J_iadd E dX8_readLeave_64 (fun x22 e23 => ?_)
      have b24 : Bd x22 781 787 := (Bd.add e23 (Bd.lit 781 781 (by decide)) b21 (by decide)).w _ _ (by decide)
      refine J_iconst E (-1) dX8_readLeave_65 (by decide) ?_
      refine J_iast1 E (S_X8.f1 S0) (Bd.in b24 (by decide)) dX8_readLeave_66 (fun v25 e26 => ?_)
      have o27 : Ok G v25 w7 := by rw [e26]; exact Ok.sv o10 (S_X8.f1 S0) b24 (Bd.lit (-1) (-1) (by decide)) 781 7 (by decide) (by decide +kernel)
      have k28 : Kp G v v25 := by rw [e26]; exact Kp.sv k11 (S_X8.f1 S0) b24 781 7 (-1) (-1) (by decide) (by decide +kernel)
      have f29 : Fr G [8, 1084] v v25 := Fr.st f12 e26 (S_X8.f1 S0) rfl
      have e30 : x14 = v25 h0 10 := by rw [e26, stv_a (tg_ne (S_X8.h S0) ((S_X8.f1 S0)) rfl)]; exact e15
      have g31 : Pg h0 v v25 := Pg.same g13 (by rw [e26, stv_a (tg_ne (S_X8.h S0) (S_X8.f1 S0) rfl)]) (by rw [e26, stv_a (tg_ne (S_X8.h S0) (S_X8.f1 S0) rfl)])
      exact J_vret E hr dX8_readLeave_67 ⟨o27, k28, ⟨g31, f29⟩⟩
  have J45 : ∀ x32 : Int32, Bd x32 0 999 → J p l e rm_X8_readLeave s m args below meth c 0 0 (MQ below (QcV D dA G (fun v1 w1 => Ok G v1 w1 ∧ Kp G v v1 ∧ Pg h0 v v1 ∧ Fr G [8, 1084] v v1)) args s 0 0 (dm G)) D dA G (dm G) s.heap 2 v w [(0, .ref h0), (1, .int x32)] 45 [.ref h0] := by
    intro x32 b33
    refine J_iconst E 0 dX8_readLeave_45 (by decide) ?_
    exact J.sub [0, 1] rfl (J46 x32 b33 0 ((Bd.lit 0 0 (by decide)).w 0 1 (by decide)) (Or.inl rfl))
  refine J_aload_n E dX8_readLeave_0 0 rfl ?_
  refine J_getI E in_X8 rfl (S_X8.h S0) 9 (by decide) wd944 rfl dX8_readLeave_1 (fun x34 e35 => ?_)
  have b36 : Bd x34 0 999 := Ok.fd hOk e35 (S_X8.h S0) rfl
  refine J_istore_n E [(1, .int x34), (0, .ref h0)] dX8_readLeave_4 rfl (by decide) rfl ?_
  refine J_aload_n E dX8_readLeave_5 1 rfl ?_
  refine J_aload_n E dX8_readLeave_6 1 rfl ?_
  refine J_getI E in_X8 rfl (S_X8.h S0) 8 (by decide) wd943 rfl dX8_readLeave_7 (fun x37 e38 => ?_)
  refine J_bipush E 6 dX8_readLeave_10 (by decide) ?_
  refine J_icmp_ne E 45 dX8_readLeave_12 (by decide) (fun c39 => ?_) (fun c39 => ?_)
  · exact J.sub [1, 0] rfl (J45 x34 b36)
  · have b40 : Bd x37 6 6 := Bd.eq_l c39 (Bd.any x37) (Bd.lit 6 6 (by decide)) 6 6 (by decide)
    refine J_iload_n E dX8_readLeave_15 0 rfl ?_
    refine J_aload_n E dX8_readLeave_16 1 rfl ?_
    refine J_getR E in_X8 rfl (S_X8.h S0) 1 (by decide) wd936 rfl dX8_readLeave_17 ?_
    refine J_sipush E 739 dX8_readLeave_20 (by decide) ?_
    refine J_iald1 E (S_X8.f1 S0) (Bd.in (Bd.lit 739 739 (by decide)) (by decide)) dX8_readLeave_23 (fun x41 e42 => ?_)
    have b43 : Bd x41 0 7 := Bd.e (Ok.ld hOk (S_X8.f1 S0) (Bd.lit 739 739 (by decide)) 739 1 0 7 (by decide) (by decide +kernel)) e42
    have e44 : x41 = v (rf G h0 1) 739 := by rw [e42, Bd.ix (Bd.lit 739 739 (by decide)) 739 rfl]
    refine J_icmp_ge E 45 dX8_readLeave_24 (by decide) (fun c45 => ?_) (fun c45 => ?_)
    · exact J.sub [1, 0] rfl (J45 x34 b36)
    · have b46 : Bd x34 0 6 := Bd.lt_l (nle c45) b36 b43 6 (by decide)
      have b47 : Bd x41 1 7 := Bd.lt_r (nle c45) b36 b43 1 (by decide)
      refine J_aload_n E dX8_readLeave_27 1 rfl ?_
      refine J_getR E in_X8 rfl (S_X8.h S0) 1 (by decide) wd936 rfl dX8_readLeave_28 ?_
      refine J_sipush E 781 dX8_readLeave_31 (by decide) ?_
      refine J_iload_n E dX8_readLeave_34 0 rfl ?_
      refine J_iadd E dX8_readLeave_35 (fun x48 e49 => ?_)
      have b50 : Bd x48 781 787 := (Bd.add e49 (Bd.lit 781 781 (by decide)) b46 (by decide)).w _ _ (by decide)
      refine J_iald1 E (S_X8.f1 S0) (Bd.in b50 (by decide)) dX8_readLeave_36 (fun x51 e52 => ?_)
      have b53 : Bd x51 (-1) 6 := Bd.e (Ok.ld hOk (S_X8.f1 S0) b50 781 7 (-1) 6 (by decide) (by decide +kernel)) e52
      refine J_iconst E (-1) dX8_readLeave_37 (by decide) ?_
      refine J_icmp_eq E 45 dX8_readLeave_38 (by decide) (fun c54 => ?_) (fun c54 => ?_)
      · have b55 : Bd x51 (-1) (-1) := Bd.eq_l c54 b53 (Bd.lit (-1) (-1) (by decide)) (-1) (-1) (by decide)
        exact J.sub [1, 0] rfl (J45 x34 (b46.w 0 999 (by decide)))
      · have b56 : Bd x51 0 6 := (Bd.ne_lo c54 b53 (Bd.lit (-1) (-1) (by decide))).w _ _ (by decide)
        refine J_iconst E 1 dX8_readLeave_41 (by decide) ?_
        refine J_goto E 46 dX8_readLeave_42 (by decide) ?_
        exact J.sub [1, 0] rfl (J46 x34 (b46.w 0 999 (by decide)) 1 ((Bd.lit 1 1 (by decide)).w 0 1 (by decide)) (Or.inr b46))

abbrev rm_X8_readYears : Room := { frames := 5, cells := 0, slots := 0, locals := 113 }
set_option maxHeartbeats 4000000 in
set_option maxRecDepth 100000 in
theorem ct_X8_readYears (l : Launch) (D : va_G) (dA : Nat → ClassId) (G : Gm) (v : Mv) (w : Mw) (hOk : Ok G v w) (h0 : Nat) (S0 : S_X8 G h0) : CtV l yX8_readYears cX8_readYears 3 none rm_X8_readYears D dA G [.ref h0] v w (fun v1 w1 => Ok G v1 w1 ∧ Kp G v v1 ∧ Pg h0 v v1 ∧ Fr G [8, 116, 1084] v v1) := by
  refine CtV.of RX8 [(0, .ref h0)] (Nat.le_of_ble_eq_true rfl) rfl (by decide) rfl ?_
  intro p e s m args below meth c E hr
  have J10 : ∀ n : Nat, ∀ (v1 : Mv) (w2 : Mw), Ok G v1 w2 → Kp G v v1 → Fr G [8, 116, 1084] v v1 → Pg h0 v v1 → ∀ x7 : Int32, Bd x7 0 999 → ∀ x9 : Int32, Bd x9 0 1023 → Mu x9 1023 n → J p l e rm_X8_readYears s m args below meth c 0 0 (MQ below (QcV D dA G (fun v1 w1 => Ok G v1 w1 ∧ Kp G v v1 ∧ Pg h0 v v1 ∧ Fr G [8, 116, 1084] v v1)) args s 0 0 (dm G)) D dA G (dm G) s.heap 3 v1 w2 [(0, .ref h0), (1, .int x7), (2, .int x9)] 10 [] := by
    intro n
    induction n with
    | zero => intro v1 w2 o3 k4 f5 g6 x7 b8 x9 b10 hm; exact hm.zero b10 (by decide)
    | succ n ih10 =>
      intro v1 w2 o3 k4 f5 g6 x7 b8 x9 b10 hmu10
      refine J_iload_n E dX8_readYears_10 2 rfl ?_
      refine J_iload_n E dX8_readYears_11 1 rfl ?_
      refine J_icmp_ge E 56 dX8_readYears_12 (by decide) (fun c11 => ?_) (fun c11 => ?_)
      · exact J_vret E hr dX8_readYears_56 ⟨o3, k4, ⟨g6, f5⟩⟩
      · have b12 : Bd x9 0 998 := Bd.lt_l (nle c11) b10 b8 998 (by decide)
        have b13 : Bd x7 1 999 := Bd.lt_r (nle c11) b10 b8 1 (by decide)
        refine J_aload_n E dX8_readYears_15 0 rfl ?_
        refine J_getI E in_X8 rfl (S_X8.h S0) 10 (by decide) wd945 rfl dX8_readYears_16 (fun x14 e15 => ?_)
        have b16 : Bd x14 0 1 := Ok.fd o3 e15 (S_X8.h S0) rfl
        refine J_if_ne E 56 dX8_readYears_19 (by decide) (fun c17 => ?_) (fun c17 => ?_)
        · have b18 : Bd x14 1 1 := (Bd.ne_lo c17 b16 (Bd.lit 0 0 (by decide))).w _ _ (by decide)
          exact J_vret E hr dX8_readYears_56 ⟨o3, k4, ⟨g6, f5⟩⟩
        · have b19 : Bd x14 0 0 := Bd.eq_l c17 b16 (Bd.lit 0 0 (by decide)) 0 0 (by decide)
          refine J_aload_n E dX8_readYears_22 0 rfl ?_
          refine J_getR E in_X8 rfl (S_X8.h S0) 1 (by decide) wd936 rfl dX8_readYears_23 ?_
          refine J_sipush E 772 dX8_readYears_26 (by decide) ?_
          refine J_iald1 E (S_X8.f1 S0) (Bd.in (Bd.lit 772 772 (by decide)) (by decide)) dX8_readYears_29 (fun x20 e21 => ?_)
          have e22 : x20 = v1 (rf G h0 1) 772 := by rw [e21, Bd.ix (Bd.lit 772 772 (by decide)) 772 rfl]
          refine J_sipush E 999 dX8_readYears_30 (by decide) ?_
          refine J_icmp_ge E 56 dX8_readYears_33 (by decide) (fun c23 => ?_) (fun c23 => ?_)
          · have b24 : Bd x20 999 I1 := Bd.le_r c23 (Bd.lit 999 999 (by decide)) (Bd.any x20) 999 (by decide)
            exact J_vret E hr dX8_readYears_56 ⟨o3, k4, ⟨g6, f5⟩⟩
          · have b25 : Bd x20 I0 998 := Bd.lt_l (nle c23) (Bd.any x20) (Bd.lit 999 999 (by decide)) 998 (by decide)
            refine J_aload_n E dX8_readYears_36 0 rfl ?_
            refine J_sipush E 738 dX8_readYears_37 (by decide) ?_
            refine J_aload_n E dX8_readYears_40 0 rfl ?_
            refine J_getR E in_X8 rfl (S_X8.h S0) 1 (by decide) wd936 rfl dX8_readYears_41 ?_
            refine J_sipush E 772 dX8_readYears_44 (by decide) ?_
            refine J_callVV E cal_X8_passOn wd1090 rfl (S_X8.h S0) [.int 738, .ref (rf G h0 1), .int 772] [] (ct_X8_passOn_738_A_772 l D dA G v1 w2 (o3) h0 S0) rfl rfl (Nat.le_of_ble_eq_true rfl) ⟨rfl, rfl⟩ ⟨Nat.le_of_ble_eq_true rfl, Nat.le_of_ble_eq_true rfl⟩ dX8_readYears_47 (fun v26 w27 p28 => ?_)
            have o30 := p28.1
            have k31 : Kp G v v26 := (k4).tr p28.2.1
            have f32 : Fr G [8, 116, 1084] v v26 := Fr.tr f5 (p28.2.2) (by decide)
            have g33 : Pg h0 v v26 := Pg.same g6 (Fr.at (p28.2.2) (S_X8.h S0) rfl 6) (Fr.at (p28.2.2) (S_X8.h S0) rfl 8)
            refine J_iinc E 2 1 (fun z => [(2, .int z), (0, .ref h0), (1, .int x7)]) dX8_readYears_50 rfl (by decide) (by decide) (fun _ => rfl) (fun x34 e35 => ?_)
            have b36 : Bd x34 1 999 := (Bd.add e35 b12 (Bd.lit 1 1 (by decide)) (by decide)).w _ _ (by decide)
            refine J_goto E 10 dX8_readYears_53 (by decide) ?_
            exact J.sub [1, 2, 0] rfl (ih10 v26 w27 (o30) (k31) f32 g33 x7 (b13.w 0 999 (by decide)) x34 (b36.w 0 1023 (by decide)) (Mu.step hmu10 e35 b12 (Bd.lit 1 1 (by decide)) (by decide)))
  refine J_aload_n E dX8_readYears_0 0 rfl ?_
  refine J_iconst E 1 dX8_readYears_1 (by decide) ?_
  refine J_bipush E 99 dX8_readYears_2 (by decide) ?_
  refine J_callVI E cal_X8_number wd1063 rfl (S_X8.h S0) [.int 1, .int 99] [] (ct_X8_number l D dA G v w (hOk) h0 S0 1 99) rfl rfl (Nat.le_of_ble_eq_true rfl) ⟨rfl, rfl⟩ ⟨Nat.le_of_ble_eq_true rfl, Nat.le_of_ble_eq_true rfl⟩ dX8_readYears_4 (fun x40 v37 w38 p39 => ?_)
  have o41 := p39.1
  have k42 : Kp G v v37 := (Kp.rf).tr p39.2.1
  have f43 : Fr G [8, 116, 1084] v v37 := Fr.tr Fr.rf (p39.2.2.2.2) (by decide)
  have g44 : Pg h0 v v37 := Pg.rf.tr p39.2.2.2.1
  have b45 : Bd x40 0 999 := p39.2.2.1
  refine J_istore_n E [(1, .int x40), (0, .ref h0)] dX8_readYears_7 rfl (by decide) rfl ?_
  refine J_iconst E 0 dX8_readYears_8 (by decide) ?_
  refine J_istore_n E [(2, .int 0), (1, .int x40), (0, .ref h0)] dX8_readYears_9 rfl (by decide) rfl ?_
  exact J.sub [2, 1, 0] rfl (J10 1024 v37 w38 (o41) (k42) f43 g44 x40 b45 0 ((Bd.lit 0 0 (by decide)).w 0 1023 (by decide)) (Mu.start _ (Bd.lit 0 0 (by decide)) (by decide)))

abbrev rm_X8_item : Room := { frames := 6, cells := 0, slots := 0, locals := 136 }
set_option maxHeartbeats 4000000 in
set_option maxRecDepth 100000 in
theorem ct_X8_item (l : Launch) (D : va_G) (dA : Nat → ClassId) (G : Gm) (v : Mv) (w : Mw) (hOk : Ok G v w) (h0 : Nat) (S0 : S_X8 G h0) (x_0 : Int32) (hp1 : ¬ x_0 = 1 ∨ Bd (v (rf G h0 1) 738) 0 6) (hp2 : ¬ x_0 = 2 ∨ Bd (v (rf G h0 1) 739) 0 6) : CtV l yX8_item cX8_item 2 none rm_X8_item D dA G [.ref h0, .int x_0] v w (fun v1 w1 => Ok G v1 w1 ∧ Kp G v v1 ∧ Pg h0 v v1 ∧ Fr G [8, 116, 1084] v v1) := by
  refine CtV.of RX8 [(0, .ref h0), (1, .int x_0)] (Nat.le_of_ble_eq_true rfl) rfl (by decide) rfl ?_
  intro p e s m args below meth c E hr
  refine J_iload_n E dX8_item_0 1 rfl ?_
  by_cases h1 : x_0.toInt = 0
  · refine J_tabIn E 0 36 dX8_item_1 h1 (by decide) (by decide) rfl (by decide) ?_
    have b2 : Bd x_0 0 0 := ⟨by omega, by omega⟩
    refine J_goto E 71 dX8_item_36 (by decide) ?_
    exact J_vret E hr dX8_item_71 ⟨hOk, Kp.rf, ⟨Pg.rf, Fr.rf⟩⟩
  by_cases h3 : x_0.toInt = 1
  · refine J_tabIn E 1 39 dX8_item_1 h3 (by decide) (by decide) rfl (by decide) ?_
    have b4 : Bd x_0 1 1 := ⟨by omega, by omega⟩
    obtain ⟨x5, e6⟩ : ∃ z : Int32, z = v (rf G h0 1) 738 := ⟨_, rfl⟩
    have b7 : Bd x5 0 7 := Ok.fa hOk e6 (S_X8.f1 S0) (by decide) rfl
    have b8 : Bd x5 0 6 := Bd.e (hp1.resolve_left (fun q9 => q9 (Int32.toInt_inj.mp (by have q8 := b4; unfold Bd at q8; rw [show x_0.toInt = 1 by omega]; decide)))) e6
    refine J_aload_n E dX8_item_39 0 rfl ?_
    refine J_callVV E cal_X8_readThing wd1059 rfl (S_X8.h S0) [] [] (ct_X8_readThing l D dA G v w (hOk) h0 S0 x5 (e6) b8) rfl rfl (Nat.le_of_ble_eq_true rfl) ⟨rfl, rfl⟩ ⟨Nat.le_of_ble_eq_true rfl, Nat.le_of_ble_eq_true rfl⟩ dX8_item_40 (fun v9 w10 p11 => ?_)
    have o13 := p11.1
    have k14 : Kp G v v9 := (Kp.rf).tr p11.2.1
    have f15 : Fr G [8, 116, 1084] v v9 := Fr.tr Fr.rf (p11.2.2.2) (by decide)
    have g16 : Pg h0 v v9 := Pg.rf.tr p11.2.2.1
    refine J_goto E 71 dX8_item_43 (by decide) ?_
    exact J_vret E hr dX8_item_71 ⟨o13, k14, ⟨g16, f15⟩⟩
  by_cases h17 : x_0.toInt = 2
  · refine J_tabIn E 2 46 dX8_item_1 h17 (by decide) (by decide) rfl (by decide) ?_
    have b18 : Bd x_0 2 2 := ⟨by omega, by omega⟩
    obtain ⟨x19, e20⟩ : ∃ z : Int32, z = v (rf G h0 1) 739 := ⟨_, rfl⟩
    have b21 : Bd x19 0 7 := Ok.fa hOk e20 (S_X8.f1 S0) (by decide) rfl
    have b22 : Bd x19 0 6 := Bd.e (hp2.resolve_left (fun q9 => q9 (Int32.toInt_inj.mp (by have q8 := b18; unfold Bd at q8; rw [show x_0.toInt = 2 by omega]; decide)))) e20
    refine J_aload_n E dX8_item_46 0 rfl ?_
    refine J_callVV E cal_X8_readOne wd1067 rfl (S_X8.h S0) [] [] (ct_X8_readOne l D dA G v w (hOk) h0 S0 x19 (e20) b22) rfl rfl (Nat.le_of_ble_eq_true rfl) ⟨rfl, rfl⟩ ⟨Nat.le_of_ble_eq_true rfl, Nat.le_of_ble_eq_true rfl⟩ dX8_item_47 (fun v23 w24 p25 => ?_)
    have o27 := p25.1
    have k28 : Kp G v v23 := (Kp.rf).tr p25.2.1
    have f29 : Fr G [8, 116, 1084] v v23 := Fr.tr Fr.rf (p25.2.2.2) (by decide)
    have g30 : Pg h0 v v23 := Pg.rf.tr p25.2.2.1
    refine J_goto E 71 dX8_item_50 (by decide) ?_
    exact J_vret E hr dX8_item_71 ⟨o27, k28, ⟨g30, f29⟩⟩
  by_cases h31 : x_0.toInt = 3
  · refine J_tabIn E 3 53 dX8_item_1 h31 (by decide) (by decide) rfl (by decide) ?_
    have b32 : Bd x_0 3 3 := ⟨by omega, by omega⟩
    refine J_aload_n E dX8_item_53 0 rfl ?_
    refine J_callVV E cal_X8_readOwn wd1071 rfl (S_X8.h S0) [] [] (ct_X8_readOwn l D dA G v w (hOk) h0 S0) rfl rfl (Nat.le_of_ble_eq_true rfl) ⟨rfl, rfl⟩ ⟨Nat.le_of_ble_eq_true rfl, Nat.le_of_ble_eq_true rfl⟩ dX8_item_54 (fun v33 w34 p35 => ?_)
    have o37 := p35.1
    have k38 : Kp G v v33 := (Kp.rf).tr p35.2.1
    have f39 : Fr G [8, 116, 1084] v v33 := Fr.tr Fr.rf (p35.2.2.2) (by decide)
    have g40 : Pg h0 v v33 := Pg.rf.tr p35.2.2.1
    refine J_goto E 71 dX8_item_57 (by decide) ?_
    exact J_vret E hr dX8_item_71 ⟨o37, k38, ⟨g40, f39⟩⟩
  by_cases h41 : x_0.toInt = 4
  · refine J_tabIn E 4 60 dX8_item_1 h41 (by decide) (by decide) rfl (by decide) ?_
    have b42 : Bd x_0 4 4 := ⟨by omega, by omega⟩
    refine J_aload_n E dX8_item_60 0 rfl ?_
    refine J_callVV E cal_X8_readLeave wd1082 rfl (S_X8.h S0) [] [] (ct_X8_readLeave l D dA G v w (hOk) h0 S0) rfl rfl (Nat.le_of_ble_eq_true rfl) ⟨rfl, rfl⟩ ⟨Nat.le_of_ble_eq_true rfl, Nat.le_of_ble_eq_true rfl⟩ dX8_item_61 (fun v43 w44 p45 => ?_)
    have o47 := p45.1
    have k48 : Kp G v v43 := (Kp.rf).tr p45.2.1
    have f49 : Fr G [8, 116, 1084] v v43 := Fr.tr Fr.rf (p45.2.2.2) (by decide)
    have g50 : Pg h0 v v43 := Pg.rf.tr p45.2.2.1
    refine J_goto E 71 dX8_item_64 (by decide) ?_
    exact J_vret E hr dX8_item_71 ⟨o47, k48, ⟨g50, f49⟩⟩
  refine J_tabOut (x := x_0) E 67 dX8_item_1 (by have := (Bd.any x_0); simp only [Bd, I0, I1] at this; omega) (by decide) ?_
  refine J_aload_n E dX8_item_67 0 rfl ?_
  refine J_callVV E cal_X8_readYears wd1086 rfl (S_X8.h S0) [] [] (ct_X8_readYears l D dA G v w (hOk) h0 S0) rfl rfl (Nat.le_of_ble_eq_true rfl) ⟨rfl, rfl⟩ ⟨Nat.le_of_ble_eq_true rfl, Nat.le_of_ble_eq_true rfl⟩ dX8_item_68 (fun v51 w52 p53 => ?_)
  have o55 := p53.1
  have k56 : Kp G v v51 := (Kp.rf).tr p53.2.1
  have f57 : Fr G [8, 116, 1084] v v51 := Fr.tr Fr.rf (p53.2.2.2) (by decide)
  have g58 : Pg h0 v v51 := Pg.rf.tr p53.2.2.1
  exact J_vret E hr dX8_item_71 ⟨o55, k56, ⟨g58, f57⟩⟩

abbrev rm_X8_may : Room := { frames := 0, cells := 0, slots := 0, locals := 0 }
set_option maxHeartbeats 4000000 in
set_option maxRecDepth 100000 in
theorem ct_X8_may (l : Launch) (D : va_G) (dA : Nat → ClassId) (G : Gm) (v : Mv) (w : Mw) (hOk : Ok G v w) (h0 : Nat) (S0 : S_X8 G h0) (x_0 : Int32) : CtI l yX8_may cX8_may 2 (some .boolean) rm_X8_may D dA G [.ref h0, .int x_0] v w (fun r v1 w1 => v1 = v ∧ w1 = w ∧ Bd r 0 1 ∧ (r = 0 ∨ ((¬ x_0 = 1 ∨ Bd (v (rf G h0 1) 738) 0 6) ∧ (¬ x_0 = 2 ∨ Bd (v (rf G h0 1) 739) 0 6)))) := by
  refine CtI.of RX8 [(0, .ref h0), (1, .int x_0)] (Nat.le_of_ble_eq_true rfl) rfl (by decide) rfl ?_
  intro p e s m args below meth c E hr
  have J67 : (¬ x_0 = 1 ∨ Bd (v (rf G h0 1) 738) 0 6) → (¬ x_0 = 2 ∨ Bd (v (rf G h0 1) 739) 0 6) → J p l e rm_X8_may s m args below meth c 0 0 (MQ below (QcI D dA G (fun r v1 w1 => v1 = v ∧ w1 = w ∧ Bd r 0 1 ∧ (r = 0 ∨ ((¬ x_0 = 1 ∨ Bd (v (rf G h0 1) 738) 0 6) ∧ (¬ x_0 = 2 ∨ Bd (v (rf G h0 1) 739) 0 6))))) args s 0 0 (dm G)) D dA G (dm G) s.heap 2 v w [] 67 [] := by
    intro h1 h2
    refine J_iconst E 1 dX8_may_67 (by decide) ?_
    refine J_goto E 72 dX8_may_68 (by decide) ?_
    exact J_zret E hr (Bd.z (Bd.lit 1 1 (by decide)) (by decide)) dX8_may_72 ⟨rfl, rfl, ((Bd.lit 1 1 (by decide)).w 0 1 (by decide)), (Or.inr ⟨h1, h2⟩)⟩
  have J49 : Bd x_0 I0 5 → (¬ x_0 = 1 ∨ Bd (v (rf G h0 1) 738) 0 6) → J p l e rm_X8_may s m args below meth c 0 0 (MQ below (QcI D dA G (fun r v1 w1 => v1 = v ∧ w1 = w ∧ Bd r 0 1 ∧ (r = 0 ∨ ((¬ x_0 = 1 ∨ Bd (v (rf G h0 1) 738) 0 6) ∧ (¬ x_0 = 2 ∨ Bd (v (rf G h0 1) 739) 0 6))))) args s 0 0 (dm G)) D dA G (dm G) s.heap 2 v w [(0, .ref h0), (1, .int x_0)] 49 [] := by
    intro b3 h4
    refine J_iload_n E dX8_may_49 1 rfl ?_
    refine J_iconst E 2 dX8_may_50 (by decide) ?_
    refine J_icmp_ne E 67 dX8_may_51 (by decide) (fun c5 => ?_) (fun c5 => ?_)
    · exact J.sub [] rfl (J67 h4 (Or.inl c5))
    · have b6 : Bd x_0 2 2 := Bd.eq_l c5 b3 (Bd.lit 2 2 (by decide)) 2 2 (by decide)
      refine J_aload_n E dX8_may_54 0 rfl ?_
      refine J_getR E in_X8 rfl (S_X8.h S0) 1 (by decide) wd936 rfl dX8_may_55 ?_
      refine J_sipush E 739 dX8_may_58 (by decide) ?_
      refine J_iald1 E (S_X8.f1 S0) (Bd.in (Bd.lit 739 739 (by decide)) (by decide)) dX8_may_61 (fun x7 e8 => ?_)
      have b9 : Bd x7 0 7 := Bd.e (Ok.ld hOk (S_X8.f1 S0) (Bd.lit 739 739 (by decide)) 739 1 0 7 (by decide) (by decide +kernel)) e8
      have e10 : x7 = v (rf G h0 1) 739 := by rw [e8, Bd.ix (Bd.lit 739 739 (by decide)) 739 rfl]
      refine J_bipush E 7 dX8_may_62 (by decide) ?_
      refine J_icmp_ge E 71 dX8_may_64 (by decide) (fun c11 => ?_) (fun c11 => ?_)
      · have b12 : Bd x7 7 7 := Bd.le_r c11 (Bd.lit 7 7 (by decide)) b9 7 (by decide)
        refine J_iconst E 0 dX8_may_71 (by decide) ?_
        exact J_zret E hr (Bd.z (Bd.lit 0 0 (by decide)) (by decide)) dX8_may_72 ⟨rfl, rfl, ((Bd.lit 0 0 (by decide)).w 0 1 (by decide)), (Or.inl rfl)⟩
      · have b13 : Bd x7 0 6 := Bd.lt_l (nle c11) b9 (Bd.lit 7 7 (by decide)) 6 (by decide)
        exact J.sub [] rfl (J67 h4 (Or.inr (Bd.e b13 (e10).symm)))
  have J26 : Bd x_0 I0 5 → ∀ x15 : Int32, Bd x15 0 1 → ∀ x17 : Int32, Bd x17 0 1 → J p l e rm_X8_may s m args below meth c 0 0 (MQ below (QcI D dA G (fun r v1 w1 => v1 = v ∧ w1 = w ∧ Bd r 0 1 ∧ (r = 0 ∨ ((¬ x_0 = 1 ∨ Bd (v (rf G h0 1) 738) 0 6) ∧ (¬ x_0 = 2 ∨ Bd (v (rf G h0 1) 739) 0 6))))) args s 0 0 (dm G)) D dA G (dm G) s.heap 2 v w [(0, .ref h0), (1, .int x_0)] 26 [.int x15, .int x17] := by
    intro b14 x15 b16 x17 b18
    refine J_icmp_eq E 31 dX8_may_26 (by decide) (fun c19 => ?_) (fun c19 => ?_)
    · refine J_iload_n E dX8_may_31 1 rfl ?_
      refine J_iconst E 1 dX8_may_32 (by decide) ?_
      refine J_icmp_ne E 49 dX8_may_33 (by decide) (fun c20 => ?_) (fun c20 => ?_)
      · exact J.sub [0, 1] rfl (J49 b14 (Or.inl c20))
      · have b21 : Bd x_0 1 1 := Bd.eq_l c20 b14 (Bd.lit 1 1 (by decide)) 1 1 (by decide)
        refine J_aload_n E dX8_may_36 0 rfl ?_
        refine J_getR E in_X8 rfl (S_X8.h S0) 1 (by decide) wd936 rfl dX8_may_37 ?_
        refine J_sipush E 738 dX8_may_40 (by decide) ?_
        refine J_iald1 E (S_X8.f1 S0) (Bd.in (Bd.lit 738 738 (by decide)) (by decide)) dX8_may_43 (fun x22 e23 => ?_)
        have b24 : Bd x22 0 7 := Bd.e (Ok.ld hOk (S_X8.f1 S0) (Bd.lit 738 738 (by decide)) 738 1 0 7 (by decide) (by decide +kernel)) e23
        have e25 : x22 = v (rf G h0 1) 738 := by rw [e23, Bd.ix (Bd.lit 738 738 (by decide)) 738 rfl]
        refine J_bipush E 7 dX8_may_44 (by decide) ?_
        refine J_icmp_ge E 71 dX8_may_46 (by decide) (fun c26 => ?_) (fun c26 => ?_)
        · have b27 : Bd x22 7 7 := Bd.le_r c26 (Bd.lit 7 7 (by decide)) b24 7 (by decide)
          refine J_iconst E 0 dX8_may_71 (by decide) ?_
          exact J_zret E hr (Bd.z (Bd.lit 0 0 (by decide)) (by decide)) dX8_may_72 ⟨rfl, rfl, ((Bd.lit 0 0 (by decide)).w 0 1 (by decide)), (Or.inl rfl)⟩
        · have b28 : Bd x22 0 6 := Bd.lt_l (nle c26) b24 (Bd.lit 7 7 (by decide)) 6 (by decide)
          exact J.sub [0, 1] rfl (J49 (b21.w I0 5 (by decide)) (Or.inr (Bd.e b28 (e25).symm)))
    · refine J_iconst E 0 dX8_may_29 (by decide) ?_
      exact J_zret E hr (Bd.z (Bd.lit 0 0 (by decide)) (by decide)) dX8_may_30 ⟨rfl, rfl, ((Bd.lit 0 0 (by decide)).w 0 1 (by decide)), (Or.inl rfl)⟩
  have J14 : Bd x_0 I0 5 → ∀ x30 : Int32, Bd x30 0 1 → J p l e rm_X8_may s m args below meth c 0 0 (MQ below (QcI D dA G (fun r v1 w1 => v1 = v ∧ w1 = w ∧ Bd r 0 1 ∧ (r = 0 ∨ ((¬ x_0 = 1 ∨ Bd (v (rf G h0 1) 738) 0 6) ∧ (¬ x_0 = 2 ∨ Bd (v (rf G h0 1) 739) 0 6))))) args s 0 0 (dm G)) D dA G (dm G) s.heap 2 v w [(0, .ref h0), (1, .int x_0)] 14 [.int x30] := by
    intro b29 x30 b31
    refine J_aload_n E dX8_may_14 0 rfl ?_
    refine J_getI E in_X8 rfl (S_X8.h S0) 11 (by decide) wd946 rfl dX8_may_15 (fun x32 e33 => ?_)
    refine J_if_ne E 25 dX8_may_18 (by decide) (fun c34 => ?_) (fun c34 => ?_)
    · refine J_iconst E 0 dX8_may_25 (by decide) ?_
      exact J.sub [0, 1] rfl (J26 b29 0 ((Bd.lit 0 0 (by decide)).w 0 1 (by decide)) x30 b31)
    · have b35 : Bd x32 0 0 := Bd.eq_l c34 (Bd.any x32) (Bd.lit 0 0 (by decide)) 0 0 (by decide)
      refine J_iconst E 1 dX8_may_21 (by decide) ?_
      refine J_goto E 26 dX8_may_22 (by decide) ?_
      exact J.sub [0, 1] rfl (J26 b29 1 ((Bd.lit 1 1 (by decide)).w 0 1 (by decide)) x30 b31)
  refine J_iload_n E dX8_may_0 1 rfl ?_
  refine J_iconst E 5 dX8_may_1 (by decide) ?_
  refine J_icmp_gt E 29 dX8_may_2 (by decide) (fun c36 => ?_) (fun c36 => ?_)
  · have b37 : Bd x_0 6 I1 := Bd.lt_r c36 (Bd.lit 5 5 (by decide)) (Bd.any x_0) 6 (by decide)
    refine J_iconst E 0 dX8_may_29 (by decide) ?_
    exact J_zret E hr (Bd.z (Bd.lit 0 0 (by decide)) (by decide)) dX8_may_30 ⟨rfl, rfl, ((Bd.lit 0 0 (by decide)).w 0 1 (by decide)), (Or.inl rfl)⟩
  · have b38 : Bd x_0 I0 5 := Bd.le_l (nlt c36) (Bd.any x_0) (Bd.lit 5 5 (by decide)) 5 (by decide)
    refine J_iload_n E dX8_may_5 1 rfl ?_
    refine J_if_ne E 13 dX8_may_6 (by decide) (fun c39 => ?_) (fun c39 => ?_)
    · refine J_iconst E 0 dX8_may_13 (by decide) ?_
      exact J.sub [0, 1] rfl (J14 b38 0 ((Bd.lit 0 0 (by decide)).w 0 1 (by decide)))
    · have b40 : Bd x_0 0 0 := Bd.eq_l c39 b38 (Bd.lit 0 0 (by decide)) 0 0 (by decide)
      refine J_iconst E 1 dX8_may_9 (by decide) ?_
      refine J_goto E 14 dX8_may_10 (by decide) ?_
      exact J.sub [0, 1] rfl (J14 (b40.w I0 5 (by decide)) 1 ((Bd.lit 1 1 (by decide)).w 0 1 (by decide)))

abbrev rm_X8_read : Room := { frames := 7, cells := 0, slots := 0, locals := 157 }
set_option maxHeartbeats 4000000 in
set_option maxRecDepth 100000 in
theorem ct_X8_read (l : Launch) (D : va_G) (dA : Nat → ClassId) (G : Gm) (v : Mv) (w : Mw) (hOk : Ok G v w) (h0 : Nat) (S0 : S_X8 G h0) : CtI l yX8_read cX8_read 2 (some .int) rm_X8_read D dA G [.ref h0] v w (fun r v1 w1 => Ok G v1 w1 ∧ Kp G v v1 ∧ True ∧ Fr G [8, 116, 1084] v v1) := by
  refine CtI.of RX8 [(0, .ref h0)] (Nat.le_of_ble_eq_true rfl) rfl (by decide) rfl ?_
  intro p e s m args below meth c E hr
  have J106 : ∀ (v1 : Mv) (w2 : Mw), Ok G v1 w2 → Kp G v v1 → Fr G [8, 116, 1084] v v1 → J p l e rm_X8_read s m args below meth c 0 0 (MQ below (QcI D dA G (fun r v1 w1 => Ok G v1 w1 ∧ Kp G v v1 ∧ True ∧ Fr G [8, 116, 1084] v v1)) args s 0 0 (dm G)) D dA G (dm G) s.heap 2 v1 w2 [(0, .ref h0)] 106 [] := by
    intro v1 w2 o3 k4 f5
    refine J_aload_n E dX8_read_106 0 rfl ?_
    refine J_getI E in_X8 rfl (S_X8.h S0) 10 (by decide) wd945 rfl dX8_read_107 (fun x6 e7 => ?_)
    have b8 : Bd x6 0 1 := Ok.fd o3 e7 (S_X8.h S0) rfl
    refine J_if_eq E 121 dX8_read_110 (by decide) (fun c9 => ?_) (fun c9 => ?_)
    · have b10 : Bd x6 0 0 := Bd.eq_l c9 b8 (Bd.lit 0 0 (by decide)) 0 0 (by decide)
      refine J_aload_n E dX8_read_121 0 rfl ?_
      refine J_sipush E 738 dX8_read_122 (by decide) ?_
      refine J_iconst E 0 dX8_read_125 (by decide) ?_
      refine J_callVV E cal_X8_copyRow wd1112 rfl (S_X8.h S0) [.int 738, .int 0] [] (ct_X8_copyRow l D dA G v1 w2 (o3) h0 S0 738 ((Bd.lit 738 738 (by decide)).w 0 738 (by decide)) 0 ((Bd.lit 0 0 (by decide)).w 0 738 (by decide)) Row.lit738 Row.lit0) rfl rfl (Nat.le_of_ble_eq_true rfl) ⟨rfl, rfl⟩ ⟨Nat.le_of_ble_eq_true rfl, Nat.le_of_ble_eq_true rfl⟩ dX8_read_126 (fun v11 w12 p13 => ?_)
      have o15 := p13.1
      have k16 : Kp G v v11 := (k4).tr p13.2.1
      have f17 : Fr G [8, 116, 1084] v v11 := Fr.tr f5 (p13.2.2) (by decide)
      refine J_aload_n E dX8_read_129 0 rfl ?_
      refine J_getR E in_X8 rfl (S_X8.h S0) 1 (by decide) wd936 rfl dX8_read_130 ?_
      refine J_iconst E 5 dX8_read_133 (by decide) ?_
      refine J_iconst E 0 dX8_read_134 (by decide) ?_
      refine J_iast1 E (S_X8.f1 S0) (Bd.in (Bd.lit 5 5 (by decide)) (by decide)) dX8_read_135 (fun v18 e19 => ?_)
      have o20 : Ok G v18 w12 := by rw [e19]; exact Ok.sv o15 (S_X8.f1 S0) (Bd.lit 5 5 (by decide)) (Bd.lit 0 0 (by decide)) 5 1 (by decide) (by decide +kernel)
      have k21 : Kp G v v18 := by rw [e19]; exact Kp.sv k16 (S_X8.f1 S0) (Bd.lit 5 5 (by decide)) 5 1 0 0 (by decide) (by decide +kernel)
      have f22 : Fr G [8, 116, 1084] v v18 := Fr.st f17 e19 (S_X8.f1 S0) rfl
      have e23 : x6 = v18 h0 10 := by rw [e19, stv_a (tg_ne (S_X8.h S0) ((S_X8.f1 S0)) rfl)]; exact ((e7).trans (Fr.at (p13.2.2) (S_X8.h S0) rfl 10).symm)
      have e24 : (0 : Int32) = v18 (rf G h0 1) 5 := by rw [e19, Bd.ix (Bd.lit 5 5 (by decide)) 5 rfl, stv_s]
      refine J_aload_n E dX8_read_136 0 rfl ?_
      refine J_getI E in_X8 rfl (S_X8.h S0) 11 (by decide) wd946 rfl dX8_read_137 (fun x25 e26 => ?_)
      exact J_iret E hr dX8_read_140 ⟨o20, k21, trivial, f22⟩
    · have b27 : Bd x6 1 1 := (Bd.ne_lo c9 b8 (Bd.lit 0 0 (by decide))).w _ _ (by decide)
      refine J_bipush E (-10) dX8_read_113 (by decide) ?_
      refine J_aload_n E dX8_read_115 0 rfl ?_
      refine J_getI E in_X8 rfl (S_X8.h S0) 7 (by decide) wd942 rfl dX8_read_116 (fun x28 e29 => ?_)
      have b30 : Bd x28 0 150 := Ok.fd o3 e29 (S_X8.h S0) rfl
      refine J_isub E dX8_read_119 (fun x31 e32 => ?_)
      have b33 : Bd x31 (-160) (-10) := (Bd.sub e32 (Bd.lit (-10) (-10) (by decide)) b30 (by decide)).w _ _ (by decide)
      exact J_iret E hr dX8_read_120 ⟨o3, k4, trivial, f5⟩
  have J26 : ∀ n : Nat, ∀ (v34 : Mv) (w35 : Mw), Ok G v34 w35 → Kp G v v34 → Fr G [8, 116, 1084] v v34 → ∀ x40 : Int32, x40 = v34 h0 6 → Bd x40 0 150 → (¬ v34 h0 10 = 0 ∨ Mu x40 150 n) → J p l e rm_X8_read s m args below meth c 0 0 (MQ below (QcI D dA G (fun r v1 w1 => Ok G v1 w1 ∧ Kp G v v1 ∧ True ∧ Fr G [8, 116, 1084] v v1)) args s 0 0 (dm G)) D dA G (dm G) s.heap 2 v34 w35 [(0, .ref h0)] 26 [] := by
    intro n
    induction n with
    | zero =>
      intro v34 w35 o36 k37 f38 x40 e41 b39 hm
      have hz : ¬ v34 h0 10 = 0 := hm.resolve_right (fun q => q.zero b39 (by decide))
      refine J_aload_n E dX8_read_26 0 rfl ?_
      refine J_getI E in_X8 rfl (S_X8.h S0) 10 (by decide) wd945 rfl dX8_read_27 (fun y1 ey => ?_)
      refine J_if_ne E 106 dX8_read_30 (by decide) (fun cy => ?_) (fun cy => ?_)
      · exact J.sub [0] rfl (J106 v34 w35 (o36) (k37) f38)
      · exact absurd (ey.symm.trans cy) hz
    | succ n ih26 =>
      intro v34 w35 o36 k37 f38 x40 e41 b39 hmu26
      have J103 : ∀ (v42 : Mv) (w43 : Mw), Ok G v42 w43 → Kp G v v42 → Fr G [8, 116, 1084] v v42 → (¬ v42 h0 10 = 0 ∨ x40.toInt < (v42 h0 6).toInt) → Mu x40 150 (n + 1) → J p l e rm_X8_read s m args below meth c 0 0 (MQ below (QcI D dA G (fun r v1 w1 => Ok G v1 w1 ∧ Kp G v v1 ∧ True ∧ Fr G [8, 116, 1084] v v1)) args s 0 0 (dm G)) D dA G (dm G) s.heap 2 v42 w43 [(0, .ref h0)] 103 [] := by
        intro v42 w43 o44 k45 f46 hq hM
        refine J_goto E 26 dX8_read_103 (by decide) ?_
        obtain ⟨x47, e48⟩ : ∃ z : Int32, z = v42 h0 6 := ⟨_, rfl⟩
        have b49 : Bd x47 0 150 := Ok.fd o44 e48 (S_X8.h S0) rfl
        exact J.sub [0] rfl (ih26 v42 w43 (o44) (k45) f46 x47 (e48) b49 (hq.imp id (fun q => by rw [← e48] at q; unfold Mu at *; omega)))
      have J90 : ∀ (v50 : Mv) (w51 : Mw), Ok G v50 w51 → Kp G v v50 → Fr G [8, 116, 1084] v v50 → ∀ x55 : Int32, Bd x55 0 1 → (x40.toInt ≤ (v50 h0 6).toInt ∧ (v50 h0 8 = 8 ∨ x40.toInt < (v50 h0 6).toInt)) → (x55 = 0 ∨ v50 h0 8 = 7) → Mu x40 150 (n + 1) → J p l e rm_X8_read s m args below meth c 0 0 (MQ below (QcI D dA G (fun r v1 w1 => Ok G v1 w1 ∧ Kp G v v1 ∧ True ∧ Fr G [8, 116, 1084] v v1)) args s 0 0 (dm G)) D dA G (dm G) s.heap 2 v50 w51 [(0, .ref h0)] 90 [.int x55, .ref h0] := by
        intro v50 w51 o52 k53 f54 x55 b56 hP hA hM
        refine J_callVV E cal_X8_due wd1051 rfl (S_X8.h S0) [.int x55] [] (ct_X8_due l D dA G v50 w51 (o52) h0 S0 x55 b56) rfl rfl (Nat.le_of_ble_eq_true rfl) ⟨rfl, rfl⟩ ⟨Nat.le_of_ble_eq_true rfl, Nat.le_of_ble_eq_true rfl⟩ dX8_read_90 (fun v57 w58 p59 => ?_)
        have o61 := p59.1
        have k62 : Kp G v v57 := (k53).tr p59.2.1
        have f63 : Fr G [8, 116, 1084] v v57 := Fr.tr f54 (p59.2.2.2.2) (by decide)
        refine J_aload_n E dX8_read_93 0 rfl ?_
        refine J_dup E dX8_read_94 rfl ?_
        refine J_getI E in_X8 rfl (S_X8.h S0) 11 (by decide) wd946 rfl dX8_read_95 (fun x64 e65 => ?_)
        refine J_iconst E 1 dX8_read_98 (by decide) ?_
        refine J_iadd E dX8_read_99 (fun x66 e67 => ?_)
        refine J_pI E in_X8 rfl (S_X8.h S0) 11 (by decide) wd946 tyX8 tyX8_ok nmX8 rfl rfl .int (by decide +kernel) rfl rfl dX8_read_100 (fun v68 e69 => ?_)
        have o70 : Ok G v68 w58 := Ok.pf o61 e69 (S_X8.h S0) rfl (Bd.any x66)
        have k71 : Kp G v v68 := Kp.pf k62 e69 (S_X8.h S0) rfl
        have f72 : Fr G [8, 116, 1084] v v68 := Fr.st f63 e69 (S_X8.h S0) rfl
        have e73 : x66 = v68 h0 11 := by rw [e69, stv_s]
        have hq : ¬ v68 h0 10 = 0 ∨ x40.toInt < (v68 h0 6).toInt := by
          rw [e69, stv_k (by decide), stv_k (by decide)]
          refine (p59.2.2.1).imp id (fun q => ?_)
          have h7 : v50 h0 8 = 7 := hA.resolve_left q.1
          have hlt := hP.2.resolve_left (fun q2 => absurd (h7.symm.trans q2) (by decide))
          exact Int.lt_of_lt_of_le hlt q.2.2.1
        exact J.sub [0] rfl (J103 v68 w58 (o70) (k71) f72 hq hM)
      have J49 : Mu x40 150 (n + 1) → J p l e rm_X8_read s m args below meth c 0 0 (MQ below (QcI D dA G (fun r v1 w1 => Ok G v1 w1 ∧ Kp G v v1 ∧ True ∧ Fr G [8, 116, 1084] v v1)) args s 0 0 (dm G)) D dA G (dm G) s.heap 2 v34 w35 [(0, .ref h0)] 49 [] := by
        intro hM
        refine J_aload_n E dX8_read_49 0 rfl ?_
        refine J_getI E in_X8 rfl (S_X8.h S0) 8 (by decide) wd943 rfl dX8_read_50 (fun x74 e75 => ?_)
        refine J_istore_n E [(1, .int x74), (0, .ref h0)] dX8_read_53 rfl (by decide) rfl ?_
        refine J_aload_n E dX8_read_54 1 rfl ?_
        refine J_aload_n E dX8_read_55 1 rfl ?_
        refine J_iload_n E dX8_read_56 0 rfl ?_
        refine J_callVI E cal_X8_may wd1047 rfl (S_X8.h S0) [.int x74] [.ref h0] (ct_X8_may l D dA G v34 w35 (o36) h0 S0 x74) rfl rfl (Nat.le_of_ble_eq_true rfl) ⟨rfl, rfl⟩ ⟨Nat.le_of_ble_eq_true rfl, Nat.le_of_ble_eq_true rfl⟩ dX8_read_57 (fun x79 v76 w77 p78 => ?_)
        rw [p78.1, p78.2.1]
        have b80 : Bd x79 0 1 := p78.2.2.1
        refine J_callVV E cal_X8_due wd1051 rfl (S_X8.h S0) [.int x79] [] (ct_X8_due l D dA G v34 w35 (o36) h0 S0 x79 b80) rfl rfl (Nat.le_of_ble_eq_true rfl) ⟨rfl, rfl⟩ ⟨Nat.le_of_ble_eq_true rfl, Nat.le_of_ble_eq_true rfl⟩ dX8_read_60 (fun v81 w82 p83 => ?_)
        have o85 := p83.1
        have k86 : Kp G v v81 := (k37).tr p83.2.1
        have f87 : Fr G [8, 116, 1084] v v81 := Fr.tr f38 (p83.2.2.2.2) (by decide)
        refine J_aload_n E dX8_read_63 1 rfl ?_
        refine J_getI E in_X8 rfl (S_X8.h S0) 10 (by decide) wd945 rfl dX8_read_64 (fun x88 e89 => ?_)
        have b90 : Bd x88 0 1 := Ok.fd o85 e89 (S_X8.h S0) rfl
        refine J_if_ne E 103 dX8_read_67 (by decide) (fun c91 => ?_) (fun c91 => ?_)
        · have b92 : Bd x88 1 1 := (Bd.ne_lo c91 b90 (Bd.lit 0 0 (by decide))).w _ _ (by decide)
          exact J.sub [1] rfl (J103 v81 w82 (o85) (k86) f87 (Or.inl (by rw [← e89]; exact c91)) hM)
        · have b93 : Bd x88 0 0 := Bd.eq_l c91 b90 (Bd.lit 0 0 (by decide)) 0 0 (by decide)
          have g94 := (p83.2.2.1).resolve_left (fun h9 => h9 (by rw [← e89]; exact c91))
          refine J_aload_n E dX8_read_70 1 rfl ?_
          refine J_iload_n E dX8_read_71 0 rfl ?_
          refine J_callVV E cal_X8_item wd1055 rfl (S_X8.h S0) [.int x74] [] (ct_X8_item l D dA G v81 w82 (o85) h0 S0 x74 (by rw [Fr.at (p83.2.2.2.2) (S_X8.f1 S0) rfl 738]; exact ((p78.2.2.2).resolve_left g94.1).1) (by rw [Fr.at (p83.2.2.2.2) (S_X8.f1 S0) rfl 739]; exact ((p78.2.2.2).resolve_left g94.1).2)) rfl rfl (Nat.le_of_ble_eq_true rfl) ⟨rfl, rfl⟩ ⟨Nat.le_of_ble_eq_true rfl, Nat.le_of_ble_eq_true rfl⟩ dX8_read_72 (fun v95 w96 p97 => ?_)
          have o99 := p97.1
          have k100 : Kp G v v95 := (k86).tr p97.2.1
          have f101 : Fr G [8, 116, 1084] v v95 := Fr.tr f87 (p97.2.2.2) (by decide)
          have hP : x40.toInt ≤ (v95 h0 6).toInt ∧ (v95 h0 8 = 8 ∨ x40.toInt < (v95 h0 6).toInt) := by rw [e41]; exact Ps.tr g94.2.2 p97.2.2.1
          refine J_aload_n E dX8_read_75 1 rfl ?_
          refine J_aload_n E dX8_read_76 1 rfl ?_
          refine J_getI E in_X8 rfl (S_X8.h S0) 8 (by decide) wd943 rfl dX8_read_77 (fun x102 e103 => ?_)
          refine J_bipush E 7 dX8_read_80 (by decide) ?_
          refine J_icmp_ne E 89 dX8_read_82 (by decide) (fun c104 => ?_) (fun c104 => ?_)
          · refine J_iconst E 0 dX8_read_89 (by decide) ?_
            exact J.sub [1] rfl (J90 v95 w96 (o99) (k100) f101 0 ((Bd.lit 0 0 (by decide)).w 0 1 (by decide)) hP (Or.inl rfl) hM)
          · have b105 : Bd x102 7 7 := Bd.eq_l c104 (Bd.any x102) (Bd.lit 7 7 (by decide)) 7 7 (by decide)
            refine J_iconst E 1 dX8_read_85 (by decide) ?_
            refine J_goto E 90 dX8_read_86 (by decide) ?_
            exact J.sub [1] rfl (J90 v95 w96 (o99) (k100) f101 1 ((Bd.lit 1 1 (by decide)).w 0 1 (by decide)) hP (Or.inr (e103.symm.trans c104)) hM)
      refine J_aload_n E dX8_read_26 0 rfl ?_
      refine J_getI E in_X8 rfl (S_X8.h S0) 10 (by decide) wd945 rfl dX8_read_27 (fun x106 e107 => ?_)
      have b108 : Bd x106 0 1 := Ok.fd o36 e107 (S_X8.h S0) rfl
      refine J_if_ne E 106 dX8_read_30 (by decide) (fun c109 => ?_) (fun c109 => ?_)
      · have b110 : Bd x106 1 1 := (Bd.ne_lo c109 b108 (Bd.lit 0 0 (by decide))).w _ _ (by decide)
        exact J.sub [0] rfl (J106 v34 w35 (o36) (k37) f38)
      · have b111 : Bd x106 0 0 := Bd.eq_l c109 b108 (Bd.lit 0 0 (by decide)) 0 0 (by decide)
        refine J_aload_n E dX8_read_33 0 rfl ?_
        refine J_getI E in_X8 rfl (S_X8.h S0) 8 (by decide) wd943 rfl dX8_read_34 (fun x112 e113 => ?_)
        refine J_bipush E 8 dX8_read_37 (by decide) ?_
        refine J_icmp_ne E 49 dX8_read_39 (by decide) (fun c114 => ?_) (fun c114 => ?_)
        · exact J.sub [0] rfl (J49 (hmu26.resolve_left (fun q => q (e107.symm.trans c109))))
        · have b115 : Bd x112 8 8 := Bd.eq_l c114 (Bd.any x112) (Bd.lit 8 8 (by decide)) 8 8 (by decide)
          refine J_aload_n E dX8_read_42 0 rfl ?_
          refine J_getI E in_X8 rfl (S_X8.h S0) 11 (by decide) wd946 rfl dX8_read_43 (fun x116 e117 => ?_)
          refine J_if_ne E 106 dX8_read_46 (by decide) (fun c118 => ?_) (fun c118 => ?_)
          · exact J.sub [0] rfl (J106 v34 w35 (o36) (k37) f38)
          · have b119 : Bd x116 0 0 := Bd.eq_l c118 (Bd.any x116) (Bd.lit 0 0 (by decide)) 0 0 (by decide)
            exact J.sub [0] rfl (J49 (hmu26.resolve_left (fun q => q (e107.symm.trans c109))))
  refine J_aload_n E dX8_read_0 0 rfl ?_
  refine J_iconst E 0 dX8_read_1 (by decide) ?_
  refine J_pI E in_X8 rfl (S_X8.h S0) 6 (by decide) wd941 tyX8 tyX8_ok nmX8 rfl rfl .int (by decide +kernel) rfl rfl dX8_read_2 (fun v120 e121 => ?_)
  have o122 : Ok G v120 w := Ok.pf hOk e121 (S_X8.h S0) rfl ((Bd.lit 0 0 (by decide)).w 0 150 (by decide))
  have k123 : Kp G v v120 := Kp.pf Kp.rf e121 (S_X8.h S0) rfl
  have f124 : Fr G [8, 116, 1084] v v120 := Fr.st Fr.rf e121 (S_X8.h S0) rfl
  have e125 : (0 : Int32) = v120 h0 6 := by rw [e121, stv_s]
  refine J_aload_n E dX8_read_5 0 rfl ?_
  refine J_iconst E 0 dX8_read_6 (by decide) ?_
  refine J_pI E in_X8 rfl (S_X8.h S0) 10 (by decide) wd945 tyX8 tyX8_ok nmX8 rfl rfl .boolean (by decide +kernel) (Bd.z (Bd.lit 0 0 (by decide)) (by decide)) (Bd.zf (Bd.lit 0 0 (by decide)) (by decide)) dX8_read_7 (fun v126 e127 => ?_)
  have o128 : Ok G v126 w := Ok.pf o122 e127 (S_X8.h S0) rfl ((Bd.lit 0 0 (by decide)).w 0 1 (by decide))
  have k129 : Kp G v v126 := Kp.pf k123 e127 (S_X8.h S0) rfl
  have e130 : 0 = v126 h0 6 := by rw [e127, stv_k (by decide)]; exact e125
  have f131 : Fr G [8, 116, 1084] v v126 := Fr.st f124 e127 (S_X8.h S0) rfl
  have e132 : (0 : Int32) = v126 h0 10 := by rw [e127, stv_s]
  refine J_aload_n E dX8_read_10 0 rfl ?_
  refine J_iconst E 0 dX8_read_11 (by decide) ?_
  refine J_pI E in_X8 rfl (S_X8.h S0) 11 (by decide) wd946 tyX8 tyX8_ok nmX8 rfl rfl .int (by decide +kernel) rfl rfl dX8_read_12 (fun v133 e134 => ?_)
  have o135 : Ok G v133 w := Ok.pf o128 e134 (S_X8.h S0) rfl ((Bd.lit 0 0 (by decide)).w I0 I1 (by decide))
  have k136 : Kp G v v133 := Kp.pf k129 e134 (S_X8.h S0) rfl
  have e137 : 0 = v133 h0 6 := by rw [e134, stv_k (by decide)]; exact e130
  have e138 : 0 = v133 h0 10 := by rw [e134, stv_k (by decide)]; exact e132
  have f139 : Fr G [8, 116, 1084] v v133 := Fr.st f131 e134 (S_X8.h S0) rfl
  have e140 : (0 : Int32) = v133 h0 11 := by rw [e134, stv_s]
  refine J_aload_n E dX8_read_15 0 rfl ?_
  refine J_sipush E 738 dX8_read_16 (by decide) ?_
  refine J_callVV E cal_X8_begin wd931 rfl (S_X8.h S0) [.int 738] [] (ct_X8_begin_738 l D dA G v133 w (o135) h0 S0) rfl rfl (Nat.le_of_ble_eq_true rfl) ⟨rfl, rfl⟩ ⟨Nat.le_of_ble_eq_true rfl, Nat.le_of_ble_eq_true rfl⟩ dX8_read_19 (fun v141 w142 p143 => ?_)
  have o145 := p143.1
  have k146 : Kp G v v141 := (k136).tr p143.2.1
  have f147 : Fr G [8, 116, 1084] v v141 := Fr.tr f139 (p143.2.2) (by decide)
  refine J_aload_n E dX8_read_22 0 rfl ?_
  refine J_callVV E cal_X8_step wd1031 rfl (S_X8.h S0) [] [] (ct_X8_step l D dA G v141 w142 (o145) h0 S0) rfl rfl (Nat.le_of_ble_eq_true rfl) ⟨rfl, rfl⟩ ⟨Nat.le_of_ble_eq_true rfl, Nat.le_of_ble_eq_true rfl⟩ dX8_read_23 (fun v148 w149 p150 => ?_)
  have o152 := p150.1
  have k153 : Kp G v v148 := (k146).tr p150.2.1
  have f154 : Fr G [8, 116, 1084] v v148 := Fr.tr f147 (p150.2.2.2.2.2) (by decide)
  obtain ⟨x155, e156⟩ : ∃ z : Int32, z = v148 h0 6 := ⟨_, rfl⟩
  have b157 : Bd x155 0 150 := Ok.fd o152 e156 (S_X8.h S0) rfl
  exact J.sub [0] rfl (J26 151 v148 w149 (o152) (k153) f154 x155 (e156) b157 (Or.inr (Mu.start _ b157 (by decide))))


abbrev rm_X8_know : Room := { frames := 0, cells := 0, slots := 0, locals := 0 }
set_option maxHeartbeats 4000000 in
set_option maxRecDepth 100000 in
theorem ct_X8_know (l : Launch) (D : va_G) (dA : Nat → ClassId) (G : Gm) (v : Mv) (w : Mw) (hOk : Ok G v w) (h0 : Nat) (S0 : S_X8 G h0) : CtV l yX8_know cX8_know 2 none rm_X8_know D dA G [.ref h0] v w (fun v1 w1 => Ok G v1 w1 ∧ Kp G v v1 ∧ Fr G [1084] v v1) := by
  refine CtV.of RX8 [(0, .ref h0)] (Nat.le_of_ble_eq_true rfl) rfl (by decide) rfl ?_
  intro p e s m args below meth c E hr
  have J56 : ∀ n : Nat, ∀ (v1 : Mv) (w2 : Mw), Ok G v1 w2 → Kp G v v1 → Fr G [1084] v v1 → ∀ x6 : Int32, Bd x6 0 16 → ∀ x9 : Int32, x9 = v1 (rf G h0 1) 5 → Bd x9 0 7 → Mu x6 16 n → J p l e rm_X8_know s m args below meth c 0 0 (MQ below (QcV D dA G (fun v1 w1 => Ok G v1 w1 ∧ Kp G v v1 ∧ Fr G [1084] v v1)) args s 0 0 (dm G)) D dA G (dm G) s.heap 2 v1 w2 [(0, .ref h0), (1, .int x6)] 56 [] := by
    intro n
    induction n with
    | zero => intro v1 w2 o3 k4 f5 x6 b7 x9 e10 b8 hm; exact hm.zero b7 (by decide)
    | succ n ih56 =>
      intro v1 w2 o3 k4 f5 x6 b7 x9 e10 b8 hmu56
      refine J_iload_n E dX8_know_56 1 rfl ?_
      refine J_bipush E 16 dX8_know_57 (by decide) ?_
      refine J_icmp_ge E 96 dX8_know_59 (by decide) (fun c11 => ?_) (fun c11 => ?_)
      · have b12 : Bd x6 16 16 := Bd.le_r c11 (Bd.lit 16 16 (by decide)) b7 16 (by decide)
        refine J_aload_n E dX8_know_96 0 rfl ?_
        refine J_getR E in_X8 rfl (S_X8.h S0) 1 (by decide) wd936 rfl dX8_know_97 ?_
        refine J_iconst E 5 dX8_know_100 (by decide) ?_
        refine J_dup2 E dX8_know_101 rfl rfl ?_
        refine J_iald1 E (S_X8.f1 S0) (Bd.in (Bd.lit 5 5 (by decide)) (by decide)) dX8_know_102 (fun x13 e14 => ?_)
        have b15 : Bd x13 0 8 := Bd.e (Ok.ld o3 (S_X8.f1 S0) (Bd.lit 5 5 (by decide)) 5 1 0 8 (by decide) (by decide +kernel)) e14
        have e14q : x13 = x9 := by rw [e14, Bd.ix (Bd.lit 5 5 (by decide)) 5 rfl]; exact (e10).symm
        rw [e14q]
        refine J_iconst E 1 dX8_know_103 (by decide) ?_
        refine J_iadd E dX8_know_104 (fun x16 e17 => ?_)
        have b18 : Bd x16 1 8 := (Bd.add e17 b8 (Bd.lit 1 1 (by decide)) (by decide)).w _ _ (by decide)
        refine J_iast1 E (S_X8.f1 S0) (Bd.in (Bd.lit 5 5 (by decide)) (by decide)) dX8_know_105 (fun v19 e20 => ?_)
        have o21 : Ok G v19 w2 := by rw [e20]; exact Ok.sv o3 (S_X8.f1 S0) (Bd.lit 5 5 (by decide)) b18 5 1 (by decide) (by decide +kernel)
        have k22 : Kp G v v19 := by rw [e20]; exact Kp.sv k4 (S_X8.f1 S0) (Bd.lit 5 5 (by decide)) 5 1 1 8 (by decide) (by decide +kernel)
        have f23 : Fr G [1084] v v19 := Fr.st f5 e20 (S_X8.f1 S0) rfl
        have e24 : (x16 : Int32) = v19 (rf G h0 1) 5 := by rw [e20, Bd.ix (Bd.lit 5 5 (by decide)) 5 rfl, stv_s]
        exact J_vret E hr dX8_know_106 ⟨o21, k22, f23⟩
      · have b25 : Bd x6 0 15 := Bd.lt_l (nle c11) b7 (Bd.lit 16 16 (by decide)) 15 (by decide)
        refine J_aload_n E dX8_know_62 0 rfl ?_
        refine J_getR E in_X8 rfl (S_X8.h S0) 1 (by decide) wd936 rfl dX8_know_63 ?_
        refine J_bipush E 118 dX8_know_66 (by decide) ?_
        refine J_bipush E 16 dX8_know_68 (by decide) ?_
        refine J_aload_n E dX8_know_70 0 rfl ?_
        refine J_getR E in_X8 rfl (S_X8.h S0) 1 (by decide) wd936 rfl dX8_know_71 ?_
        refine J_iconst E 5 dX8_know_74 (by decide) ?_
        refine J_iald1 E (S_X8.f1 S0) (Bd.in (Bd.lit 5 5 (by decide)) (by decide)) dX8_know_75 (fun x26 e27 => ?_)
        have b28 : Bd x26 0 8 := Bd.e (Ok.ld o3 (S_X8.f1 S0) (Bd.lit 5 5 (by decide)) 5 1 0 8 (by decide) (by decide +kernel)) e27
        have e27q : x26 = x9 := by rw [e27, Bd.ix (Bd.lit 5 5 (by decide)) 5 rfl]; exact (e10).symm
        rw [e27q]
        refine J_imul E dX8_know_76 (fun x29 e30 => ?_)
        have b31 : Bd x29 0 112 := Bd.mul e30 (Bd.lit 16 16 (by decide)) b8 (by decide)
        refine J_iadd E dX8_know_77 (fun x32 e33 => ?_)
        have b34 : Bd x32 118 230 := (Bd.add e33 (Bd.lit 118 118 (by decide)) b31 (by decide)).w _ _ (by decide)
        refine J_iload_n E dX8_know_78 1 rfl ?_
        refine J_iadd E dX8_know_79 (fun x35 e36 => ?_)
        have b37 : Bd x35 118 245 := (Bd.add e36 b34 b25 (by decide)).w _ _ (by decide)
        refine J_aload_n E dX8_know_80 0 rfl ?_
        refine J_getR E in_X8 rfl (S_X8.h S0) 1 (by decide) wd936 rfl dX8_know_81 ?_
        refine J_bipush E 34 dX8_know_84 (by decide) ?_
        refine J_iload_n E dX8_know_86 1 rfl ?_
        refine J_iadd E dX8_know_87 (fun x38 e39 => ?_)
        have b40 : Bd x38 34 49 := (Bd.add e39 (Bd.lit 34 34 (by decide)) b25 (by decide)).w _ _ (by decide)
        refine J_iald1 E (S_X8.f1 S0) (Bd.in b40 (by decide)) dX8_know_88 (fun x41 e42 => ?_)
        refine J_iast1 E (S_X8.f1 S0) (Bd.in b37 (by decide)) dX8_know_89 (fun v43 e44 => ?_)
        have o45 : Ok G v43 w2 := by rw [e44]; exact Ok.cp o3 (S_X8.f1 S0) (S_X8.f1 S0) e42 (Bd.in b40 (by decide)) (by rw [ix_u e30 e33 e36 b8 b25, ix_add e39 (Bd.lit 34 34 (by decide)) b25 (by decide)]; exact tb_k2 _ (ix_le b8 8 (by decide)) _ (ix_le b25 16 (by decide)))
        have k46 : Kp G v v43 := by rw [e44]; exact Kp.cp k4 (S_X8.f1 S0) gall_nk
        have f47 : Fr G [1084] v v43 := Fr.st f5 e44 (S_X8.f1 S0) rfl
        have e48 : x9 = v43 (rf G h0 1) 5 := by rw [e44, stv_k (Bd.nix b37 5 (by decide))]; exact e10
        refine J_iinc E 1 1 (fun z => [(1, .int z), (0, .ref h0)]) dX8_know_90 rfl (by decide) (by decide) (fun _ => rfl) (fun x49 e50 => ?_)
        have b51 : Bd x49 1 16 := (Bd.add e50 b25 (Bd.lit 1 1 (by decide)) (by decide)).w _ _ (by decide)
        refine J_goto E 56 dX8_know_93 (by decide) ?_
        exact J.sub [1, 0] rfl (ih56 v43 w2 (o45) (k46) f47 x49 (b51.w 0 16 (by decide)) x9 (e48) b8 (Mu.step hmu56 e50 b25 (Bd.lit 1 1 (by decide)) (by decide)))
  have J54 : ∀ (v52 : Mv) (w53 : Mw), Ok G v52 w53 → Kp G v v52 → Fr G [1084] v v52 → ∀ x58 : Int32, x58 = v52 (rf G h0 1) 5 → Bd x58 0 7 → J p l e rm_X8_know s m args below meth c 0 0 (MQ below (QcV D dA G (fun v1 w1 => Ok G v1 w1 ∧ Kp G v v1 ∧ Fr G [1084] v v1)) args s 0 0 (dm G)) D dA G (dm G) s.heap 2 v52 w53 [(0, .ref h0)] 54 [] := by
    intro v52 w53 o54 k55 f56 x58 e59 b57
    refine J_iconst E 0 dX8_know_54 (by decide) ?_
    refine J_istore_n E [(1, .int 0), (0, .ref h0)] dX8_know_55 rfl (by decide) rfl ?_
    exact J.sub [1, 0] rfl (J56 17 v52 w53 (o54) (k55) f56 0 ((Bd.lit 0 0 (by decide)).w 0 16 (by decide)) x58 (e59) b57 (Mu.start _ (Bd.lit 0 0 (by decide)) (by decide)))
  have J13 : ∀ n : Nat, ∀ (v60 : Mv) (w61 : Mw), Ok G v60 w61 → Kp G v v60 → Fr G [1084] v v60 → ∀ x65 : Int32, Bd x65 0 112 → ∀ x68 : Int32, x68 = v60 (rf G h0 1) 5 → Bd x68 8 8 → Mu x65 112 n → J p l e rm_X8_know s m args below meth c 0 0 (MQ below (QcV D dA G (fun v1 w1 => Ok G v1 w1 ∧ Kp G v v1 ∧ Fr G [1084] v v1)) args s 0 0 (dm G)) D dA G (dm G) s.heap 2 v60 w61 [(0, .ref h0), (1, .int x65)] 13 [] := by
    intro n
    induction n with
    | zero => intro v60 w61 o62 k63 f64 x65 b66 x68 e69 b67 hm; exact hm.zero b66 (by decide)
    | succ n ih13 =>
      intro v60 w61 o62 k63 f64 x65 b66 x68 e69 b67 hmu13
      refine J_iload_n E dX8_know_13 1 rfl ?_
      refine J_bipush E 112 dX8_know_14 (by decide) ?_
      refine J_icmp_ge E 44 dX8_know_16 (by decide) (fun c70 => ?_) (fun c70 => ?_)
      · have b71 : Bd x65 112 112 := Bd.le_r c70 (Bd.lit 112 112 (by decide)) b66 112 (by decide)
        refine J_aload_n E dX8_know_44 0 rfl ?_
        refine J_getR E in_X8 rfl (S_X8.h S0) 1 (by decide) wd936 rfl dX8_know_45 ?_
        refine J_iconst E 5 dX8_know_48 (by decide) ?_
        refine J_dup2 E dX8_know_49 rfl rfl ?_
        refine J_iald1 E (S_X8.f1 S0) (Bd.in (Bd.lit 5 5 (by decide)) (by decide)) dX8_know_50 (fun x72 e73 => ?_)
        have b74 : Bd x72 0 8 := Bd.e (Ok.ld o62 (S_X8.f1 S0) (Bd.lit 5 5 (by decide)) 5 1 0 8 (by decide) (by decide +kernel)) e73
        have e73q : x72 = x68 := by rw [e73, Bd.ix (Bd.lit 5 5 (by decide)) 5 rfl]; exact (e69).symm
        rw [e73q]
        refine J_iconst E 1 dX8_know_51 (by decide) ?_
        refine J_isub E dX8_know_52 (fun x75 e76 => ?_)
        have b77 : Bd x75 7 7 := (Bd.sub e76 b67 (Bd.lit 1 1 (by decide)) (by decide)).w _ _ (by decide)
        refine J_iast1 E (S_X8.f1 S0) (Bd.in (Bd.lit 5 5 (by decide)) (by decide)) dX8_know_53 (fun v78 e79 => ?_)
        have o80 : Ok G v78 w61 := by rw [e79]; exact Ok.sv o62 (S_X8.f1 S0) (Bd.lit 5 5 (by decide)) b77 5 1 (by decide) (by decide +kernel)
        have k81 : Kp G v v78 := by rw [e79]; exact Kp.sv k63 (S_X8.f1 S0) (Bd.lit 5 5 (by decide)) 5 1 7 7 (by decide) (by decide +kernel)
        have f82 : Fr G [1084] v v78 := Fr.st f64 e79 (S_X8.f1 S0) rfl
        have e83 : (x75 : Int32) = v78 (rf G h0 1) 5 := by rw [e79, Bd.ix (Bd.lit 5 5 (by decide)) 5 rfl, stv_s]
        exact J.sub [0] rfl (J54 v78 w61 (o80) (k81) f82 x75 (e83) (b77.w 0 7 (by decide)))
      · have b84 : Bd x65 0 111 := Bd.lt_l (nle c70) b66 (Bd.lit 112 112 (by decide)) 111 (by decide)
        refine J_aload_n E dX8_know_19 0 rfl ?_
        refine J_getR E in_X8 rfl (S_X8.h S0) 1 (by decide) wd936 rfl dX8_know_20 ?_
        refine J_bipush E 118 dX8_know_23 (by decide) ?_
        refine J_iload_n E dX8_know_25 1 rfl ?_
        refine J_iadd E dX8_know_26 (fun x85 e86 => ?_)
        have b87 : Bd x85 118 229 := (Bd.add e86 (Bd.lit 118 118 (by decide)) b84 (by decide)).w _ _ (by decide)
        refine J_aload_n E dX8_know_27 0 rfl ?_
        refine J_getR E in_X8 rfl (S_X8.h S0) 1 (by decide) wd936 rfl dX8_know_28 ?_
        refine J_sipush E 134 dX8_know_31 (by decide) ?_
        refine J_iload_n E dX8_know_34 1 rfl ?_
        refine J_iadd E dX8_know_35 (fun x88 e89 => ?_)
        have b90 : Bd x88 134 245 := (Bd.add e89 (Bd.lit 134 134 (by decide)) b84 (by decide)).w _ _ (by decide)
        refine J_iald1 E (S_X8.f1 S0) (Bd.in b90 (by decide)) dX8_know_36 (fun x91 e92 => ?_)
        refine J_iast1 E (S_X8.f1 S0) (Bd.in b87 (by decide)) dX8_know_37 (fun v93 e94 => ?_)
        have o95 : Ok G v93 w61 := by rw [e94]; exact Ok.cp o62 (S_X8.f1 S0) (S_X8.f1 S0) e92 (Bd.in b90 (by decide)) (by rw [ix_add e86 (Bd.lit 118 118 (by decide)) b84 (by decide), ix_add e89 (Bd.lit 134 134 (by decide)) b84 (by decide)]; exact tb_k1 _ (ix_le b84 112 (by decide)))
        have k96 : Kp G v v93 := by rw [e94]; exact Kp.cp k63 (S_X8.f1 S0) gall_nk
        have f97 : Fr G [1084] v v93 := Fr.st f64 e94 (S_X8.f1 S0) rfl
        have e98 : x68 = v93 (rf G h0 1) 5 := by rw [e94, stv_k (Bd.nix b87 5 (by decide))]; exact e69
        refine J_iinc E 1 1 (fun z => [(1, .int z), (0, .ref h0)]) dX8_know_38 rfl (by decide) (by decide) (fun _ => rfl) (fun x99 e100 => ?_)
        have b101 : Bd x99 1 112 := (Bd.add e100 b84 (Bd.lit 1 1 (by decide)) (by decide)).w _ _ (by decide)
        refine J_goto E 13 dX8_know_41 (by decide) ?_
        exact J.sub [1, 0] rfl (ih13 v93 w61 (o95) (k96) f97 x99 (b101.w 0 112 (by decide)) x68 (e98) b67 (Mu.step hmu13 e100 b84 (Bd.lit 1 1 (by decide)) (by decide)))
  refine J_aload_n E dX8_know_0 0 rfl ?_
  refine J_getR E in_X8 rfl (S_X8.h S0) 1 (by decide) wd936 rfl dX8_know_1 ?_
  refine J_iconst E 5 dX8_know_4 (by decide) ?_
  refine J_iald1 E (S_X8.f1 S0) (Bd.in (Bd.lit 5 5 (by decide)) (by decide)) dX8_know_5 (fun x102 e103 => ?_)
  have b104 : Bd x102 0 8 := Bd.e (Ok.ld hOk (S_X8.f1 S0) (Bd.lit 5 5 (by decide)) 5 1 0 8 (by decide) (by decide +kernel)) e103
  have e105 : x102 = v (rf G h0 1) 5 := by rw [e103, Bd.ix (Bd.lit 5 5 (by decide)) 5 rfl]
  refine J_bipush E 8 dX8_know_6 (by decide) ?_
  refine J_icmp_ne E 54 dX8_know_8 (by decide) (fun c106 => ?_) (fun c106 => ?_)
  · have b107 : Bd x102 0 7 := (Bd.ne_hi c106 b104 (Bd.lit 8 8 (by decide))).w _ _ (by decide)
    exact J.sub [0] rfl (J54 v w (hOk) (Kp.rf) Fr.rf x102 (e105) b107)
  · have b108 : Bd x102 8 8 := Bd.eq_l c106 b104 (Bd.lit 8 8 (by decide)) 8 8 (by decide)
    refine J_iconst E 0 dX8_know_11 (by decide) ?_
    refine J_istore_n E [(1, .int 0), (0, .ref h0)] dX8_know_12 rfl (by decide) rfl ?_
    exact J.sub [1, 0] rfl (J13 113 v w (hOk) (Kp.rf) Fr.rf 0 ((Bd.lit 0 0 (by decide)).w 0 112 (by decide)) x102 (e105) b108 (Mu.start _ (Bd.lit 0 0 (by decide)) (by decide)))

abbrev rm_X8_isLost : Room := { frames := 1, cells := 0, slots := 0, locals := 21 }
set_option maxHeartbeats 4000000 in
set_option maxRecDepth 100000 in
theorem ct_X8_isLost (l : Launch) (D : va_G) (dA : Nat → ClassId) (G : Gm) (v : Mv) (w : Mw) (hOk : Ok G v w) (h0 : Nat) (S0 : S_X8 G h0) (x_0 : Int32) (bx_0 : Bd x_0 0 6) : CtI l yX8_isLost cX8_isLost 2 (some .boolean) rm_X8_isLost D dA G [.ref h0, .int x_0] v w (fun r v1 w1 => v1 = v ∧ w1 = w ∧ Bd r 0 1 ∧ True) := by
  refine CtI.of RX8 [(0, .ref h0), (1, .int x_0)] (Nat.le_of_ble_eq_true rfl) rfl (by decide) rfl ?_
  intro p e s m args below meth c E hr
  refine J_aload_n E dX8_isLost_0 0 rfl ?_
  refine J_getR E in_X8 rfl (S_X8.h S0) 1 (by decide) wd936 rfl dX8_isLost_1 ?_
  refine J_bipush E 35 dX8_isLost_4 (by decide) ?_
  refine J_iald1 E (S_X8.f1 S0) (Bd.in (Bd.lit 35 35 (by decide)) (by decide)) dX8_isLost_6 (fun x1 e2 => ?_)
  have e3 : x1 = v (rf G h0 1) 35 := by rw [e2, Bd.ix (Bd.lit 35 35 (by decide)) 35 rfl]
  refine J_iload_n E dX8_isLost_7 1 rfl ?_
  refine J_callSI E cal_X8_has wd1075 [.int x1, .int x_0] [] (ct_X8_has l D dA G v w (hOk) x1 x_0 (bx_0.w 0 9 (by decide))) rfl rfl (Nat.le_of_ble_eq_true rfl) ⟨rfl, rfl⟩ ⟨Nat.le_of_ble_eq_true rfl, Nat.le_of_ble_eq_true rfl⟩ dX8_isLost_8 (fun x7 v4 w5 p6 => ?_)
  rw [p6.1, p6.2.1]
  have b8 : Bd x7 0 1 := p6.2.2.1
  exact J_zret E hr (Bd.z b8 (by decide)) dX8_isLost_11 ⟨rfl, rfl, b8, trivial⟩

abbrev rm_X8_owns : Room := { frames := 3, cells := 0, slots := 0, locals := 72 }
set_option maxHeartbeats 4000000 in
set_option maxRecDepth 100000 in
theorem ct_X8_owns (l : Launch) (D : va_G) (dA : Nat → ClassId) (G : Gm) (v : Mv) (w : Mw) (hOk : Ok G v w) (h0 : Nat) (S0 : S_X8 G h0) (x_0 : Int32) (x_1 : Int32) : CtI l yX8_owns cX8_owns 3 (some .int) rm_X8_owns D dA G [.ref h0, .int x_0, .int x_1] v w (fun r v1 w1 => Ok G v1 w1 ∧ Kp G v v1 ∧ True ∧ Fr G [103, 1084] v v1) := by
  refine CtI.of RX8 [(0, .ref h0), (1, .int x_0), (2, .int x_1)] (Nat.le_of_ble_eq_true rfl) rfl (by decide) rfl ?_
  intro p e s m args below meth c E hr
  have J58 :  J p l e rm_X8_owns s m args below meth c 0 0 (MQ below (QcI D dA G (fun r v1 w1 => Ok G v1 w1 ∧ Kp G v v1 ∧ True ∧ Fr G [103, 1084] v v1)) args s 0 0 (dm G)) D dA G (dm G) s.heap 3 v w [(0, .ref h0)] 58 [] := by
    refine J_aload_n E dX8_owns_58 0 rfl ?_
    refine J_callVI E cal_X8_no wd1132 rfl (S_X8.h S0) [] [] (ct_X8_no l D dA G v w (hOk) h0 S0) rfl rfl (Nat.le_of_ble_eq_true rfl) ⟨rfl, rfl⟩ ⟨Nat.le_of_ble_eq_true rfl, Nat.le_of_ble_eq_true rfl⟩ dX8_owns_59 (fun x4 v1 w2 p3 => ?_)
    have o5 := p3.1
    have k6 : Kp G v v1 := (Kp.rf).tr p3.2.1
    have f7 : Fr G [103, 1084] v v1 := Fr.tr Fr.rf (p3.2.2.2) (by decide)
    have b8 : Bd x4 (-3) (-3) := p3.2.2.1
    exact J_iret E hr dX8_owns_62 ⟨o5, k6, trivial, f7⟩
  have J16 :  J p l e rm_X8_owns s m args below meth c 0 0 (MQ below (QcI D dA G (fun r v1 w1 => Ok G v1 w1 ∧ Kp G v v1 ∧ True ∧ Fr G [103, 1084] v v1)) args s 0 0 (dm G)) D dA G (dm G) s.heap 3 v w [(0, .ref h0)] 16 [] := by
    refine J_aload_n E dX8_owns_16 0 rfl ?_
    refine J_callVI E cal_X8_bad wd999 rfl (S_X8.h S0) [] [] (ct_X8_bad l D dA G v w (hOk) h0 S0) rfl rfl (Nat.le_of_ble_eq_true rfl) ⟨rfl, rfl⟩ ⟨Nat.le_of_ble_eq_true rfl, Nat.le_of_ble_eq_true rfl⟩ dX8_owns_17 (fun x12 v9 w10 p11 => ?_)
    have o13 := p11.1
    have k14 : Kp G v v9 := (Kp.rf).tr p11.2.1
    have f15 : Fr G [103, 1084] v v9 := Fr.tr Fr.rf (p11.2.2.2) (by decide)
    have b16 : Bd x12 (-2) (-2) := p11.2.2.1
    exact J_iret E hr dX8_owns_20 ⟨o13, k14, trivial, f15⟩
  refine J_aload_n E dX8_owns_0 0 rfl ?_
  refine J_iload_n E dX8_owns_1 1 rfl ?_
  refine J_callVI E cal_X8_isOne wd1120 rfl (S_X8.h S0) [.int x_0] [] (ct_X8_isOne l D dA G v w (hOk) h0 S0 x_0) rfl rfl (Nat.le_of_ble_eq_true rfl) ⟨rfl, rfl⟩ ⟨Nat.le_of_ble_eq_true rfl, Nat.le_of_ble_eq_true rfl⟩ dX8_owns_2 (fun x20 v17 w18 p19 => ?_)
  rw [p19.1, p19.2.1]
  have b21 : Bd x20 0 1 := p19.2.2.1
  refine J_if_eq E 16 dX8_owns_5 (by decide) (fun c22 => ?_) (fun c22 => ?_)
  · have b23 : Bd x20 0 0 := Bd.eq_l c22 b21 (Bd.lit 0 0 (by decide)) 0 0 (by decide)
    exact J.sub [0] rfl (J16)
  · have b24 : Bd x20 1 1 := (Bd.ne_lo c22 b21 (Bd.lit 0 0 (by decide))).w _ _ (by decide)
    have b25 : Bd x_0 0 6 := (p19.2.2.2).resolve_left c22
    refine J_aload_n E dX8_owns_8 0 rfl ?_
    refine J_iload_n E dX8_owns_9 2 rfl ?_
    refine J_callVI E cal_X8_isThing wd1124 rfl (S_X8.h S0) [.int x_1] [] (ct_X8_isThing l D dA G v w (hOk) h0 S0 x_1) rfl rfl (Nat.le_of_ble_eq_true rfl) ⟨rfl, rfl⟩ ⟨Nat.le_of_ble_eq_true rfl, Nat.le_of_ble_eq_true rfl⟩ dX8_owns_10 (fun x29 v26 w27 p28 => ?_)
    rw [p28.1, p28.2.1]
    have b30 : Bd x29 0 1 := p28.2.2.1
    refine J_if_ne E 21 dX8_owns_13 (by decide) (fun c31 => ?_) (fun c31 => ?_)
    · have b32 : Bd x29 1 1 := (Bd.ne_lo c31 b30 (Bd.lit 0 0 (by decide))).w _ _ (by decide)
      have b33 : Bd x_1 0 6 := (p28.2.2.2).resolve_left c31
      refine J_aload_n E dX8_owns_21 0 rfl ?_
      refine J_iload_n E dX8_owns_22 1 rfl ?_
      refine J_callVI E cal_X8_isLost wd1128 rfl (S_X8.h S0) [.int x_0] [] (ct_X8_isLost l D dA G v w (hOk) h0 S0 x_0 b25) rfl rfl (Nat.le_of_ble_eq_true rfl) ⟨rfl, rfl⟩ ⟨Nat.le_of_ble_eq_true rfl, Nat.le_of_ble_eq_true rfl⟩ dX8_owns_23 (fun x37 v34 w35 p36 => ?_)
      rw [p36.1, p36.2.1]
      have b38 : Bd x37 0 1 := p36.2.2.1
      refine J_if_ne E 58 dX8_owns_26 (by decide) (fun c39 => ?_) (fun c39 => ?_)
      · have b40 : Bd x37 1 1 := (Bd.ne_lo c39 b38 (Bd.lit 0 0 (by decide))).w _ _ (by decide)
        exact J.sub [0] rfl (J58)
      · have b41 : Bd x37 0 0 := Bd.eq_l c39 b38 (Bd.lit 0 0 (by decide)) 0 0 (by decide)
        refine J_aload_n E dX8_owns_29 0 rfl ?_
        refine J_getR E in_X8 rfl (S_X8.h S0) 1 (by decide) wd936 rfl dX8_owns_30 ?_
        refine J_bipush E 43 dX8_owns_33 (by decide) ?_
        refine J_iload_n E dX8_owns_35 1 rfl ?_
        refine J_iadd E dX8_owns_36 (fun x42 e43 => ?_)
        have b44 : Bd x42 43 49 := (Bd.add e43 (Bd.lit 43 43 (by decide)) b25 (by decide)).w _ _ (by decide)
        refine J_iald1 E (S_X8.f1 S0) (Bd.in b44 (by decide)) dX8_owns_37 (fun x45 e46 => ?_)
        have b47 : Bd x45 (-1) 6 := Bd.e (Ok.ld hOk (S_X8.f1 S0) b44 43 7 (-1) 6 (by decide) (by decide +kernel)) e46
        refine J_iconst E (-1) dX8_owns_38 (by decide) ?_
        refine J_icmp_ne E 58 dX8_owns_39 (by decide) (fun c48 => ?_) (fun c48 => ?_)
        · have b49 : Bd x45 0 6 := (Bd.ne_lo c48 b47 (Bd.lit (-1) (-1) (by decide))).w _ _ (by decide)
          exact J.sub [0] rfl (J58)
        · have b50 : Bd x45 (-1) (-1) := Bd.eq_l c48 b47 (Bd.lit (-1) (-1) (by decide)) (-1) (-1) (by decide)
          refine J_aload_n E dX8_owns_42 0 rfl ?_
          refine J_iconst E 0 dX8_owns_43 (by decide) ?_
          refine J_aload_n E dX8_owns_44 0 rfl ?_
          refine J_getR E in_X8 rfl (S_X8.h S0) 1 (by decide) wd936 rfl dX8_owns_45 ?_
          refine J_bipush E 34 dX8_owns_48 (by decide) ?_
          refine J_iload_n E dX8_owns_50 2 rfl ?_
          refine J_callVI E cal_X8_ownerOf wd1078 rfl (S_X8.h S0) [.int 0, .ref (rf G h0 1), .int 34, .int x_1] [] (ct_X8_ownerOf_0_A_34 l D dA G v w (hOk) h0 S0 x_1 b33) rfl rfl (Nat.le_of_ble_eq_true rfl) ⟨rfl, rfl⟩ ⟨Nat.le_of_ble_eq_true rfl, Nat.le_of_ble_eq_true rfl⟩ dX8_owns_51 (fun x54 v51 w52 p53 => ?_)
          rw [p53.1, p53.2.1]
          have b55 : Bd x54 (-1) 6 := p53.2.2.1
          refine J_iconst E (-1) dX8_owns_54 (by decide) ?_
          refine J_icmp_eq E 63 dX8_owns_55 (by decide) (fun c56 => ?_) (fun c56 => ?_)
          · have b57 : Bd x54 (-1) (-1) := Bd.eq_l c56 b55 (Bd.lit (-1) (-1) (by decide)) (-1) (-1) (by decide)
            refine J_aload_n E dX8_owns_63 0 rfl ?_
            refine J_callVV E cal_X8_know wd1136 rfl (S_X8.h S0) [] [] (ct_X8_know l D dA G v w (hOk) h0 S0) rfl rfl (Nat.le_of_ble_eq_true rfl) ⟨rfl, rfl⟩ ⟨Nat.le_of_ble_eq_true rfl, Nat.le_of_ble_eq_true rfl⟩ dX8_owns_64 (fun v58 w59 p60 => ?_)
            have o62 := p60.1
            have k63 : Kp G v v58 := (Kp.rf).tr p60.2.1
            have f64 : Fr G [103, 1084] v v58 := Fr.tr Fr.rf (p60.2.2) (by decide)
            refine J_aload_n E dX8_owns_67 0 rfl ?_
            refine J_getR E in_X8 rfl (S_X8.h S0) 1 (by decide) wd936 rfl dX8_owns_68 ?_
            refine J_bipush E 43 dX8_owns_71 (by decide) ?_
            refine J_iload_n E dX8_owns_73 1 rfl ?_
            refine J_iadd E dX8_owns_74 (fun x65 e66 => ?_)
            have b67 : Bd x65 43 49 := (Bd.add e66 (Bd.lit 43 43 (by decide)) b25 (by decide)).w _ _ (by decide)
            refine J_iload_n E dX8_owns_75 2 rfl ?_
            refine J_iast1 E (S_X8.f1 S0) (Bd.in b67 (by decide)) dX8_owns_76 (fun v68 e69 => ?_)
            have o70 : Ok G v68 w59 := by rw [e69]; exact Ok.sv o62 (S_X8.f1 S0) b67 b33 43 7 (by decide) (by decide +kernel)
            have k71 : Kp G v v68 := by rw [e69]; exact Kp.sv k63 (S_X8.f1 S0) b67 43 7 0 6 (by decide) (by decide +kernel)
            have f72 : Fr G [103, 1084] v v68 := Fr.st f64 e69 (S_X8.f1 S0) rfl
            refine J_aload_n E dX8_owns_77 0 rfl ?_
            refine J_iconst E 0 dX8_owns_78 (by decide) ?_
            refine J_aload_n E dX8_owns_79 0 rfl ?_
            refine J_getR E in_X8 rfl (S_X8.h S0) 1 (by decide) wd936 rfl dX8_owns_80 ?_
            refine J_bipush E 34 dX8_owns_83 (by decide) ?_
            refine J_iload_n E dX8_owns_85 1 rfl ?_
            refine J_callVI E cal_X8_isHeld wd1094 rfl (S_X8.h S0) [.int 0, .ref (rf G h0 1), .int 34, .int x_0] [] (ct_X8_isHeld_0_A_34 l D dA G v68 w59 (o70) h0 S0 x_0 b25) rfl rfl (Nat.le_of_ble_eq_true rfl) ⟨rfl, rfl⟩ ⟨Nat.le_of_ble_eq_true rfl, Nat.le_of_ble_eq_true rfl⟩ dX8_owns_86 (fun x76 v73 w74 p75 => ?_)
            rw [p75.1, p75.2.1]
            have b77 : Bd x76 0 1 := p75.2.2.1
            refine J_if_eq E 96 dX8_owns_89 (by decide) (fun c78 => ?_) (fun c78 => ?_)
            · have b79 : Bd x76 0 0 := Bd.eq_l c78 b77 (Bd.lit 0 0 (by decide)) 0 0 (by decide)
              refine J_iconst E 0 dX8_owns_96 (by decide) ?_
              exact J_iret E hr dX8_owns_97 ⟨o70, k71, trivial, f72⟩
            · have b80 : Bd x76 1 1 := (Bd.ne_lo c78 b77 (Bd.lit 0 0 (by decide))).w _ _ (by decide)
              refine J_iconst E 1 dX8_owns_92 (by decide) ?_
              refine J_goto E 97 dX8_owns_93 (by decide) ?_
              exact J_iret E hr dX8_owns_97 ⟨o70, k71, trivial, f72⟩
          · have b81 : Bd x54 0 6 := (Bd.ne_lo c56 b55 (Bd.lit (-1) (-1) (by decide))).w _ _ (by decide)
            exact J.sub [0] rfl (J58)
    · have b82 : Bd x29 0 0 := Bd.eq_l c31 b30 (Bd.lit 0 0 (by decide)) 0 0 (by decide)
      exact J.sub [0] rfl (J16)

abbrev rm_X8_leaves : Room := { frames := 2, cells := 0, slots := 0, locals := 43 }
set_option maxHeartbeats 4000000 in
set_option maxRecDepth 100000 in
theorem ct_X8_leaves (l : Launch) (D : va_G) (dA : Nat → ClassId) (G : Gm) (v : Mv) (w : Mw) (hOk : Ok G v w) (h0 : Nat) (S0 : S_X8 G h0) (x_0 : Int32) : CtI l yX8_leaves cX8_leaves 3 (some .int) rm_X8_leaves D dA G [.ref h0, .int x_0] v w (fun r v1 w1 => Ok G v1 w1 ∧ Kp G v v1 ∧ True ∧ Fr G [103, 1084] v v1) := by
  refine CtI.of RX8 [(0, .ref h0), (1, .int x_0)] (Nat.le_of_ble_eq_true rfl) rfl (by decide) rfl ?_
  intro p e s m args below meth c E hr
  refine J_aload_n E dX8_leaves_0 0 rfl ?_
  refine J_iload_n E dX8_leaves_1 1 rfl ?_
  refine J_callVI E cal_X8_isOne wd1120 rfl (S_X8.h S0) [.int x_0] [] (ct_X8_isOne l D dA G v w (hOk) h0 S0 x_0) rfl rfl (Nat.le_of_ble_eq_true rfl) ⟨rfl, rfl⟩ ⟨Nat.le_of_ble_eq_true rfl, Nat.le_of_ble_eq_true rfl⟩ dX8_leaves_2 (fun x4 v1 w2 p3 => ?_)
  rw [p3.1, p3.2.1]
  have b5 : Bd x4 0 1 := p3.2.2.1
  refine J_if_ne E 13 dX8_leaves_5 (by decide) (fun c6 => ?_) (fun c6 => ?_)
  · have b7 : Bd x4 1 1 := (Bd.ne_lo c6 b5 (Bd.lit 0 0 (by decide))).w _ _ (by decide)
    have b8 : Bd x_0 0 6 := (p3.2.2.2).resolve_left c6
    refine J_aload_n E dX8_leaves_13 0 rfl ?_
    refine J_getR E in_X8 rfl (S_X8.h S0) 1 (by decide) wd936 rfl dX8_leaves_14 ?_
    refine J_bipush E 43 dX8_leaves_17 (by decide) ?_
    refine J_iload_n E dX8_leaves_19 1 rfl ?_
    refine J_iadd E dX8_leaves_20 (fun x9 e10 => ?_)
    have b11 : Bd x9 43 49 := (Bd.add e10 (Bd.lit 43 43 (by decide)) b8 (by decide)).w _ _ (by decide)
    refine J_iald1 E (S_X8.f1 S0) (Bd.in b11 (by decide)) dX8_leaves_21 (fun x12 e13 => ?_)
    have b14 : Bd x12 (-1) 6 := Bd.e (Ok.ld hOk (S_X8.f1 S0) b11 43 7 (-1) 6 (by decide) (by decide +kernel)) e13
    refine J_istore_n E [(2, .int x12), (0, .ref h0), (1, .int x_0)] dX8_leaves_22 rfl (by decide) rfl ?_
    refine J_iload_n E dX8_leaves_23 0 rfl ?_
    refine J_iconst E (-1) dX8_leaves_24 (by decide) ?_
    refine J_icmp_ne E 33 dX8_leaves_25 (by decide) (fun c15 => ?_) (fun c15 => ?_)
    · have b16 : Bd x12 0 6 := (Bd.ne_lo c15 b14 (Bd.lit (-1) (-1) (by decide))).w _ _ (by decide)
      refine J_aload_n E dX8_leaves_33 1 rfl ?_
      refine J_callVV E cal_X8_know wd1136 rfl (S_X8.h S0) [] [] (ct_X8_know l D dA G v w (hOk) h0 S0) rfl rfl (Nat.le_of_ble_eq_true rfl) ⟨rfl, rfl⟩ ⟨Nat.le_of_ble_eq_true rfl, Nat.le_of_ble_eq_true rfl⟩ dX8_leaves_34 (fun v17 w18 p19 => ?_)
      have o21 := p19.1
      have k22 : Kp G v v17 := (Kp.rf).tr p19.2.1
      have f23 : Fr G [103, 1084] v v17 := Fr.tr Fr.rf (p19.2.2) (by decide)
      refine J_aload_n E dX8_leaves_37 1 rfl ?_
      refine J_getR E in_X8 rfl (S_X8.h S0) 1 (by decide) wd936 rfl dX8_leaves_38 ?_
      refine J_bipush E 43 dX8_leaves_41 (by decide) ?_
      refine J_iload_n E dX8_leaves_43 2 rfl ?_
      refine J_iadd E dX8_leaves_44 (fun x24 e25 => ?_)
      have b26 : Bd x24 43 49 := (Bd.add e25 (Bd.lit 43 43 (by decide)) b8 (by decide)).w _ _ (by decide)
      refine J_iconst E (-1) dX8_leaves_45 (by decide) ?_
      refine J_iast1 E (S_X8.f1 S0) (Bd.in b26 (by decide)) dX8_leaves_46 (fun v27 e28 => ?_)
      have o29 : Ok G v27 w18 := by rw [e28]; exact Ok.sv o21 (S_X8.f1 S0) b26 (Bd.lit (-1) (-1) (by decide)) 43 7 (by decide) (by decide +kernel)
      have k30 : Kp G v v27 := by rw [e28]; exact Kp.sv k22 (S_X8.f1 S0) b26 43 7 (-1) (-1) (by decide) (by decide +kernel)
      have f31 : Fr G [103, 1084] v v27 := Fr.st f23 e28 (S_X8.f1 S0) rfl
      refine J_iload_n E dX8_leaves_47 0 rfl ?_
      exact J_iret E hr dX8_leaves_48 ⟨o29, k30, trivial, f31⟩
    · have b32 : Bd x12 (-1) (-1) := Bd.eq_l c15 b14 (Bd.lit (-1) (-1) (by decide)) (-1) (-1) (by decide)
      refine J_aload_n E dX8_leaves_28 1 rfl ?_
      refine J_callVI E cal_X8_no wd1132 rfl (S_X8.h S0) [] [] (ct_X8_no l D dA G v w (hOk) h0 S0) rfl rfl (Nat.le_of_ble_eq_true rfl) ⟨rfl, rfl⟩ ⟨Nat.le_of_ble_eq_true rfl, Nat.le_of_ble_eq_true rfl⟩ dX8_leaves_29 (fun x36 v33 w34 p35 => ?_)
      have o37 := p35.1
      have k38 : Kp G v v33 := (Kp.rf).tr p35.2.1
      have f39 : Fr G [103, 1084] v v33 := Fr.tr Fr.rf (p35.2.2.2) (by decide)
      have b40 : Bd x36 (-3) (-3) := p35.2.2.1
      exact J_iret E hr dX8_leaves_32 ⟨o37, k38, trivial, f39⟩
  · have b41 : Bd x4 0 0 := Bd.eq_l c6 b5 (Bd.lit 0 0 (by decide)) 0 0 (by decide)
    refine J_aload_n E dX8_leaves_8 0 rfl ?_
    refine J_callVI E cal_X8_bad wd999 rfl (S_X8.h S0) [] [] (ct_X8_bad l D dA G v w (hOk) h0 S0) rfl rfl (Nat.le_of_ble_eq_true rfl) ⟨rfl, rfl⟩ ⟨Nat.le_of_ble_eq_true rfl, Nat.le_of_ble_eq_true rfl⟩ dX8_leaves_9 (fun x45 v42 w43 p44 => ?_)
    have o46 := p44.1
    have k47 : Kp G v v42 := (Kp.rf).tr p44.2.1
    have f48 : Fr G [103, 1084] v v42 := Fr.tr Fr.rf (p44.2.2.2) (by decide)
    have b49 : Bd x45 (-2) (-2) := p44.2.2.1
    exact J_iret E hr dX8_leaves_12 ⟨o46, k47, trivial, f48⟩

abbrev rm_X8_years : Room := { frames := 4, cells := 0, slots := 0, locals := 97 }
set_option maxHeartbeats 4000000 in
set_option maxRecDepth 100000 in
theorem ct_X8_years (l : Launch) (D : va_G) (dA : Nat → ClassId) (G : Gm) (v : Mv) (w : Mw) (hOk : Ok G v w) (h0 : Nat) (S0 : S_X8 G h0) (x_0 : Int32) : CtI l yX8_years cX8_years 3 (some .int) rm_X8_years D dA G [.ref h0, .int x_0] v w (fun r v1 w1 => Ok G v1 w1 ∧ Kp G v v1 ∧ True ∧ Fr G [103, 116, 1084] v v1) := by
  refine CtI.of RX8 [(0, .ref h0), (1, .int x_0)] (Nat.le_of_ble_eq_true rfl) rfl (by decide) rfl ?_
  intro p e s m args below meth c E hr
  have J56 : ∀ (v1 : Mv) (w2 : Mw), Ok G v1 w2 → Kp G v v1 → Fr G [103, 116, 1084] v v1 → J p l e rm_X8_years s m args below meth c 0 0 (MQ below (QcI D dA G (fun r v1 w1 => Ok G v1 w1 ∧ Kp G v v1 ∧ True ∧ Fr G [103, 116, 1084] v v1)) args s 0 0 (dm G)) D dA G (dm G) s.heap 3 v1 w2 [(0, .ref h0)] 56 [] := by
    intro v1 w2 o3 k4 f5
    refine J_aload_n E dX8_years_56 0 rfl ?_
    refine J_aload_n E dX8_years_57 0 rfl ?_
    refine J_getR E in_X8 rfl (S_X8.h S0) 1 (by decide) wd936 rfl dX8_years_58 ?_
    refine J_bipush E 34 dX8_years_61 (by decide) ?_
    refine J_callVI E cal_X8_hereOf wd1148 rfl (S_X8.h S0) [.ref (rf G h0 1), .int 34] [] (ct_X8_hereOf_A_34 l D dA G v1 w2 (o3) h0 S0) rfl rfl (Nat.le_of_ble_eq_true rfl) ⟨rfl, rfl⟩ ⟨Nat.le_of_ble_eq_true rfl, Nat.le_of_ble_eq_true rfl⟩ dX8_years_63 (fun x9 v6 w7 p8 => ?_)
    rw [p8.1, p8.2.1]
    have b10 : Bd x9 0 127 := p8.2.2.1
    refine J_callSI E cal_X8_bitsOf wd1152 [.int x9] [] (ct_X8_bitsOf l D dA G v1 w2 (o3) x9) rfl rfl (Nat.le_of_ble_eq_true rfl) ⟨rfl, rfl⟩ ⟨Nat.le_of_ble_eq_true rfl, Nat.le_of_ble_eq_true rfl⟩ dX8_years_66 (fun x14 v11 w12 p13 => ?_)
    rw [p13.1, p13.2.1]
    exact J_iret E hr dX8_years_69 ⟨o3, k4, trivial, f5⟩
  have J21 : ∀ n : Nat, ∀ (v15 : Mv) (w16 : Mw), Ok G v15 w16 → Kp G v v15 → Fr G [103, 116, 1084] v v15 → Bd x_0 1 60 → ∀ x21 : Int32, Bd x21 0 60 → Mu x21 60 n → J p l e rm_X8_years s m args below meth c 0 0 (MQ below (QcI D dA G (fun r v1 w1 => Ok G v1 w1 ∧ Kp G v v1 ∧ True ∧ Fr G [103, 116, 1084] v v1)) args s 0 0 (dm G)) D dA G (dm G) s.heap 3 v15 w16 [(0, .ref h0), (1, .int x_0), (2, .int x21)] 21 [] := by
    intro n
    induction n with
    | zero => intro v15 w16 o17 k18 f19 b20 x21 b22 hm; exact hm.zero b22 (by decide)
    | succ n ih21 =>
      intro v15 w16 o17 k18 f19 b20 x21 b22 hmu21
      refine J_iload_n E dX8_years_21 2 rfl ?_
      refine J_iload_n E dX8_years_22 1 rfl ?_
      refine J_icmp_ge E 56 dX8_years_23 (by decide) (fun c23 => ?_) (fun c23 => ?_)
      · have b24 : Bd x21 1 60 := Bd.le_r c23 b20 b22 1 (by decide)
        exact J.sub [0] rfl (J56 v15 w16 (o17) (k18) f19)
      · have b25 : Bd x21 0 59 := Bd.lt_l (nle c23) b22 b20 59 (by decide)
        refine J_aload_n E dX8_years_26 0 rfl ?_
        refine J_getR E in_X8 rfl (S_X8.h S0) 1 (by decide) wd936 rfl dX8_years_27 ?_
        refine J_bipush E 34 dX8_years_30 (by decide) ?_
        refine J_iald1 E (S_X8.f1 S0) (Bd.in (Bd.lit 34 34 (by decide)) (by decide)) dX8_years_32 (fun x26 e27 => ?_)
        have e28 : x26 = v15 (rf G h0 1) 34 := by rw [e27, Bd.ix (Bd.lit 34 34 (by decide)) 34 rfl]
        refine J_sipush E 999 dX8_years_33 (by decide) ?_
        refine J_icmp_ge E 56 dX8_years_36 (by decide) (fun c29 => ?_) (fun c29 => ?_)
        · have b30 : Bd x26 999 I1 := Bd.le_r c29 (Bd.lit 999 999 (by decide)) (Bd.any x26) 999 (by decide)
          exact J.sub [0] rfl (J56 v15 w16 (o17) (k18) f19)
        · have b31 : Bd x26 I0 998 := Bd.lt_l (nle c29) (Bd.any x26) (Bd.lit 999 999 (by decide)) 998 (by decide)
          refine J_aload_n E dX8_years_39 0 rfl ?_
          refine J_iconst E 0 dX8_years_40 (by decide) ?_
          refine J_aload_n E dX8_years_41 0 rfl ?_
          refine J_getR E in_X8 rfl (S_X8.h S0) 1 (by decide) wd936 rfl dX8_years_42 ?_
          refine J_bipush E 34 dX8_years_45 (by decide) ?_
          refine J_callVV E cal_X8_passOn wd1090 rfl (S_X8.h S0) [.int 0, .ref (rf G h0 1), .int 34] [] (ct_X8_passOn_0_A_34 l D dA G v15 w16 (o17) h0 S0) rfl rfl (Nat.le_of_ble_eq_true rfl) ⟨rfl, rfl⟩ ⟨Nat.le_of_ble_eq_true rfl, Nat.le_of_ble_eq_true rfl⟩ dX8_years_47 (fun v32 w33 p34 => ?_)
          have o36 := p34.1
          have k37 : Kp G v v32 := (k18).tr p34.2.1
          have f38 : Fr G [103, 116, 1084] v v32 := Fr.tr f19 (p34.2.2) (by decide)
          refine J_iinc E 2 1 (fun z => [(2, .int z), (0, .ref h0), (1, .int x_0)]) dX8_years_50 rfl (by decide) (by decide) (fun _ => rfl) (fun x39 e40 => ?_)
          have b41 : Bd x39 1 60 := (Bd.add e40 b25 (Bd.lit 1 1 (by decide)) (by decide)).w _ _ (by decide)
          refine J_goto E 21 dX8_years_53 (by decide) ?_
          exact J.sub [1, 2, 0] rfl (ih21 v32 w33 (o36) (k37) f38 b20 x39 (b41.w 0 60 (by decide)) (Mu.step hmu21 e40 b25 (Bd.lit 1 1 (by decide)) (by decide)))
  refine J_iload_n E dX8_years_0 1 rfl ?_
  refine J_iconst E 1 dX8_years_1 (by decide) ?_
  refine J_bipush E 60 dX8_years_2 (by decide) ?_
  refine J_callSI E cal_X8_in wd996 [.int x_0, .int 1, .int 60] [] (ct_X8_in l D dA G v w (hOk) x_0 1 60) rfl rfl (Nat.le_of_ble_eq_true rfl) ⟨rfl, rfl⟩ ⟨Nat.le_of_ble_eq_true rfl, Nat.le_of_ble_eq_true rfl⟩ dX8_years_4 (fun x45 v42 w43 p44 => ?_)
  rw [p44.1, p44.2.1]
  have b46 : Bd x45 0 1 := p44.2.2.1
  refine J_if_ne E 15 dX8_years_7 (by decide) (fun c47 => ?_) (fun c47 => ?_)
  · have b48 : Bd x45 1 1 := (Bd.ne_lo c47 b46 (Bd.lit 0 0 (by decide))).w _ _ (by decide)
    have g49 := (p44.2.2.2.1).resolve_left c47
    have b50 : Bd x_0 1 I1 := Bd.le_r g49.1 (Bd.lit 1 1 (by decide)) (Bd.any x_0) 1 (by decide)
    have b51 : Bd x_0 1 60 := Bd.le_l g49.2 b50 (Bd.lit 60 60 (by decide)) 60 (by decide)
    refine J_aload_n E dX8_years_15 0 rfl ?_
    refine J_callVV E cal_X8_know wd1136 rfl (S_X8.h S0) [] [] (ct_X8_know l D dA G v w (hOk) h0 S0) rfl rfl (Nat.le_of_ble_eq_true rfl) ⟨rfl, rfl⟩ ⟨Nat.le_of_ble_eq_true rfl, Nat.le_of_ble_eq_true rfl⟩ dX8_years_16 (fun v52 w53 p54 => ?_)
    have o56 := p54.1
    have k57 : Kp G v v52 := (Kp.rf).tr p54.2.1
    have f58 : Fr G [103, 116, 1084] v v52 := Fr.tr Fr.rf (p54.2.2) (by decide)
    refine J_iconst E 0 dX8_years_19 (by decide) ?_
    refine J_istore_n E [(2, .int 0), (0, .ref h0), (1, .int x_0)] dX8_years_20 rfl (by decide) rfl ?_
    exact J.sub [1, 2, 0] rfl (J21 61 v52 w53 (o56) (k57) f58 b51 0 ((Bd.lit 0 0 (by decide)).w 0 60 (by decide)) (Mu.start _ (Bd.lit 0 0 (by decide)) (by decide)))
  · have b59 : Bd x45 0 0 := Bd.eq_l c47 b46 (Bd.lit 0 0 (by decide)) 0 0 (by decide)
    have g60 : ¬ (1 ≤ x_0 ∧ x_0 ≤ 60) := (p44.2.2.2.2).resolve_left (fun h9 => h9 c47)
    refine J_aload_n E dX8_years_10 0 rfl ?_
    refine J_callVI E cal_X8_bad wd999 rfl (S_X8.h S0) [] [] (ct_X8_bad l D dA G v w (hOk) h0 S0) rfl rfl (Nat.le_of_ble_eq_true rfl) ⟨rfl, rfl⟩ ⟨Nat.le_of_ble_eq_true rfl, Nat.le_of_ble_eq_true rfl⟩ dX8_years_11 (fun x64 v61 w62 p63 => ?_)
    have o65 := p63.1
    have k66 : Kp G v v61 := (Kp.rf).tr p63.2.1
    have f67 : Fr G [103, 116, 1084] v v61 := Fr.tr Fr.rf (p63.2.2.2) (by decide)
    have b68 : Bd x64 (-2) (-2) := p63.2.2.1
    exact J_iret E hr dX8_years_14 ⟨o65, k66, trivial, f67⟩

abbrev rm_X8_undo : Room := { frames := 1, cells := 0, slots := 0, locals := 20 }
set_option maxHeartbeats 4000000 in
set_option maxRecDepth 100000 in
theorem ct_X8_undo (l : Launch) (D : va_G) (dA : Nat → ClassId) (G : Gm) (v : Mv) (w : Mw) (hOk : Ok G v w) (h0 : Nat) (S0 : S_X8 G h0) : CtI l yX8_undo cX8_undo 2 (some .int) rm_X8_undo D dA G [.ref h0] v w (fun r v1 w1 => Ok G v1 w1 ∧ Kp G v v1 ∧ True ∧ Fr G [103, 1084] v v1) := by
  refine CtI.of RX8 [(0, .ref h0)] (Nat.le_of_ble_eq_true rfl) rfl (by decide) rfl ?_
  intro p e s m args below meth c E hr
  have J26 : ∀ n : Nat, ∀ (v1 : Mv) (w2 : Mw), Ok G v1 w2 → Kp G v v1 → Fr G [103, 1084] v v1 → ∀ x6 : Int32, Bd x6 0 16 → ∀ x9 : Int32, x9 = v1 (rf G h0 1) 5 → Bd x9 0 7 → Mu x6 16 n → J p l e rm_X8_undo s m args below meth c 0 0 (MQ below (QcI D dA G (fun r v1 w1 => Ok G v1 w1 ∧ Kp G v v1 ∧ True ∧ Fr G [103, 1084] v v1)) args s 0 0 (dm G)) D dA G (dm G) s.heap 2 v1 w2 [(0, .ref h0), (1, .int x6)] 26 [] := by
    intro n
    induction n with
    | zero => intro v1 w2 o3 k4 f5 x6 b7 x9 e10 b8 hm; exact hm.zero b7 (by decide)
    | succ n ih26 =>
      intro v1 w2 o3 k4 f5 x6 b7 x9 e10 b8 hmu26
      refine J_iload_n E dX8_undo_26 1 rfl ?_
      refine J_bipush E 16 dX8_undo_27 (by decide) ?_
      refine J_icmp_ge E 66 dX8_undo_29 (by decide) (fun c11 => ?_) (fun c11 => ?_)
      · have b12 : Bd x6 16 16 := Bd.le_r c11 (Bd.lit 16 16 (by decide)) b7 16 (by decide)
        refine J_aload_n E dX8_undo_66 0 rfl ?_
        refine J_getR E in_X8 rfl (S_X8.h S0) 1 (by decide) wd936 rfl dX8_undo_67 ?_
        refine J_bipush E 34 dX8_undo_70 (by decide) ?_
        refine J_iald1 E (S_X8.f1 S0) (Bd.in (Bd.lit 34 34 (by decide)) (by decide)) dX8_undo_72 (fun x13 e14 => ?_)
        have e15 : x13 = v1 (rf G h0 1) 34 := by rw [e14, Bd.ix (Bd.lit 34 34 (by decide)) 34 rfl]
        exact J_iret E hr dX8_undo_73 ⟨o3, k4, trivial, f5⟩
      · have b16 : Bd x6 0 15 := Bd.lt_l (nle c11) b7 (Bd.lit 16 16 (by decide)) 15 (by decide)
        refine J_aload_n E dX8_undo_32 0 rfl ?_
        refine J_getR E in_X8 rfl (S_X8.h S0) 1 (by decide) wd936 rfl dX8_undo_33 ?_
        refine J_bipush E 34 dX8_undo_36 (by decide) ?_
        refine J_iload_n E dX8_undo_38 1 rfl ?_
        refine J_iadd E dX8_undo_39 (fun x17 e18 => ?_)
        have b19 : Bd x17 34 49 := (Bd.add e18 (Bd.lit 34 34 (by decide)) b16 (by decide)).w _ _ (by decide)
        refine J_aload_n E dX8_undo_40 0 rfl ?_
        refine J_getR E in_X8 rfl (S_X8.h S0) 1 (by decide) wd936 rfl dX8_undo_41 ?_
        refine J_bipush E 118 dX8_undo_44 (by decide) ?_
        refine J_bipush E 16 dX8_undo_46 (by decide) ?_
        refine J_aload_n E dX8_undo_48 0 rfl ?_
        refine J_getR E in_X8 rfl (S_X8.h S0) 1 (by decide) wd936 rfl dX8_undo_49 ?_
        refine J_iconst E 5 dX8_undo_52 (by decide) ?_
        refine J_iald1 E (S_X8.f1 S0) (Bd.in (Bd.lit 5 5 (by decide)) (by decide)) dX8_undo_53 (fun x20 e21 => ?_)
        have b22 : Bd x20 0 8 := Bd.e (Ok.ld o3 (S_X8.f1 S0) (Bd.lit 5 5 (by decide)) 5 1 0 8 (by decide) (by decide +kernel)) e21
        have e21q : x20 = x9 := by rw [e21, Bd.ix (Bd.lit 5 5 (by decide)) 5 rfl]; exact (e10).symm
        rw [e21q]
        refine J_imul E dX8_undo_54 (fun x23 e24 => ?_)
        have b25 : Bd x23 0 112 := Bd.mul e24 (Bd.lit 16 16 (by decide)) b8 (by decide)
        refine J_iadd E dX8_undo_55 (fun x26 e27 => ?_)
        have b28 : Bd x26 118 230 := (Bd.add e27 (Bd.lit 118 118 (by decide)) b25 (by decide)).w _ _ (by decide)
        refine J_iload_n E dX8_undo_56 1 rfl ?_
        refine J_iadd E dX8_undo_57 (fun x29 e30 => ?_)
        have b31 : Bd x29 118 245 := (Bd.add e30 b28 b16 (by decide)).w _ _ (by decide)
        refine J_iald1 E (S_X8.f1 S0) (Bd.in b31 (by decide)) dX8_undo_58 (fun x32 e33 => ?_)
        refine J_iast1 E (S_X8.f1 S0) (Bd.in b19 (by decide)) dX8_undo_59 (fun v34 e35 => ?_)
        have o36 : Ok G v34 w2 := by rw [e35]; exact Ok.cp o3 (S_X8.f1 S0) (S_X8.f1 S0) e33 (Bd.in b31 (by decide)) (by rw [ix_u e24 e27 e30 b8 b16, ix_add e18 (Bd.lit 34 34 (by decide)) b16 (by decide)]; exact (tb_k2 _ (ix_le b8 8 (by decide)) _ (ix_le b16 16 (by decide))).symm)
        have k37 : Kp G v v34 := by rw [e35]; exact Kp.cp k4 (S_X8.f1 S0) gall_nk
        have f38 : Fr G [103, 1084] v v34 := Fr.st f5 e35 (S_X8.f1 S0) rfl
        have e39 : x9 = v34 (rf G h0 1) 5 := by rw [e35, stv_k (Bd.nix b19 5 (by decide))]; exact e10
        refine J_iinc E 1 1 (fun z => [(1, .int z), (0, .ref h0)]) dX8_undo_60 rfl (by decide) (by decide) (fun _ => rfl) (fun x40 e41 => ?_)
        have b42 : Bd x40 1 16 := (Bd.add e41 b16 (Bd.lit 1 1 (by decide)) (by decide)).w _ _ (by decide)
        refine J_goto E 26 dX8_undo_63 (by decide) ?_
        exact J.sub [1, 0] rfl (ih26 v34 w2 (o36) (k37) f38 x40 (b42.w 0 16 (by decide)) x9 (e39) b8 (Mu.step hmu26 e41 b16 (Bd.lit 1 1 (by decide)) (by decide)))
  refine J_aload_n E dX8_undo_0 0 rfl ?_
  refine J_getR E in_X8 rfl (S_X8.h S0) 1 (by decide) wd936 rfl dX8_undo_1 ?_
  refine J_iconst E 5 dX8_undo_4 (by decide) ?_
  refine J_iald1 E (S_X8.f1 S0) (Bd.in (Bd.lit 5 5 (by decide)) (by decide)) dX8_undo_5 (fun x43 e44 => ?_)
  have b45 : Bd x43 0 8 := Bd.e (Ok.ld hOk (S_X8.f1 S0) (Bd.lit 5 5 (by decide)) 5 1 0 8 (by decide) (by decide +kernel)) e44
  have e46 : x43 = v (rf G h0 1) 5 := by rw [e44, Bd.ix (Bd.lit 5 5 (by decide)) 5 rfl]
  refine J_if_ne E 14 dX8_undo_6 (by decide) (fun c47 => ?_) (fun c47 => ?_)
  · have b48 : Bd x43 1 8 := (Bd.ne_lo c47 b45 (Bd.lit 0 0 (by decide))).w _ _ (by decide)
    refine J_aload_n E dX8_undo_14 0 rfl ?_
    refine J_getR E in_X8 rfl (S_X8.h S0) 1 (by decide) wd936 rfl dX8_undo_15 ?_
    refine J_iconst E 5 dX8_undo_18 (by decide) ?_
    refine J_dup2 E dX8_undo_19 rfl rfl ?_
    refine J_iald1 E (S_X8.f1 S0) (Bd.in (Bd.lit 5 5 (by decide)) (by decide)) dX8_undo_20 (fun x49 e50 => ?_)
    have b51 : Bd x49 0 8 := Bd.e (Ok.ld hOk (S_X8.f1 S0) (Bd.lit 5 5 (by decide)) 5 1 0 8 (by decide) (by decide +kernel)) e50
    have e50q : x49 = x43 := by rw [e50, Bd.ix (Bd.lit 5 5 (by decide)) 5 rfl]; exact (e46).symm
    rw [e50q]
    refine J_iconst E 1 dX8_undo_21 (by decide) ?_
    refine J_isub E dX8_undo_22 (fun x52 e53 => ?_)
    have b54 : Bd x52 0 7 := (Bd.sub e53 b48 (Bd.lit 1 1 (by decide)) (by decide)).w _ _ (by decide)
    refine J_iast1 E (S_X8.f1 S0) (Bd.in (Bd.lit 5 5 (by decide)) (by decide)) dX8_undo_23 (fun v55 e56 => ?_)
    have o57 : Ok G v55 w := by rw [e56]; exact Ok.sv hOk (S_X8.f1 S0) (Bd.lit 5 5 (by decide)) b54 5 1 (by decide) (by decide +kernel)
    have k58 : Kp G v v55 := by rw [e56]; exact Kp.sv Kp.rf (S_X8.f1 S0) (Bd.lit 5 5 (by decide)) 5 1 0 7 (by decide) (by decide +kernel)
    have f59 : Fr G [103, 1084] v v55 := Fr.st Fr.rf e56 (S_X8.f1 S0) rfl
    have e60 : (x52 : Int32) = v55 (rf G h0 1) 5 := by rw [e56, Bd.ix (Bd.lit 5 5 (by decide)) 5 rfl, stv_s]
    refine J_iconst E 0 dX8_undo_24 (by decide) ?_
    refine J_istore_n E [(1, .int 0), (0, .ref h0)] dX8_undo_25 rfl (by decide) rfl ?_
    exact J.sub [1, 0] rfl (J26 17 v55 w (o57) (k58) f59 0 ((Bd.lit 0 0 (by decide)).w 0 16 (by decide)) x52 (e60) b54 (Mu.start _ (Bd.lit 0 0 (by decide)) (by decide)))
  · have b61 : Bd x43 0 0 := Bd.eq_l c47 b45 (Bd.lit 0 0 (by decide)) 0 0 (by decide)
    refine J_aload_n E dX8_undo_9 0 rfl ?_
    refine J_callVI E cal_X8_no wd1132 rfl (S_X8.h S0) [] [] (ct_X8_no l D dA G v w (hOk) h0 S0) rfl rfl (Nat.le_of_ble_eq_true rfl) ⟨rfl, rfl⟩ ⟨Nat.le_of_ble_eq_true rfl, Nat.le_of_ble_eq_true rfl⟩ dX8_undo_10 (fun x65 v62 w63 p64 => ?_)
    have o66 := p64.1
    have k67 : Kp G v v62 := (Kp.rf).tr p64.2.1
    have f68 : Fr G [103, 1084] v v62 := Fr.tr Fr.rf (p64.2.2.2) (by decide)
    have b69 : Bd x65 (-3) (-3) := p64.2.2.1
    exact J_iret E hr dX8_undo_13 ⟨o66, k67, trivial, f68⟩

abbrev rm_X8_told : Room := { frames := 2, cells := 0, slots := 0, locals := 42 }
set_option maxHeartbeats 4000000 in
set_option maxRecDepth 100000 in
theorem ct_X8_told (l : Launch) (D : va_G) (dA : Nat → ClassId) (G : Gm) (v : Mv) (w : Mw) (hOk : Ok G v w) (h0 : Nat) (S0 : S_X8 G h0) (x_0 : Int32) (bx_0 : Bd x_0 0 6) (x_1 : Int32) (bx_1 : Bd x_1 0 4) : CtI l yX8_told cX8_told 3 (some .int) rm_X8_told D dA G [.ref h0, .int x_0, .int x_1] v w (fun r v1 w1 => v1 = v ∧ w1 = w ∧ True ∧ True) := by
  refine CtI.of RX8 [(0, .ref h0), (1, .int x_0), (2, .int x_1)] (Nat.le_of_ble_eq_true rfl) rfl (by decide) rfl ?_
  intro p e s m args below meth c E hr
  refine J_iload_n E dX8_told_0 2 rfl ?_
  by_cases h1 : x_1.toInt = 0
  · refine J_tabIn E 0 32 dX8_told_1 h1 (by decide) (by decide) rfl (by decide) ?_
    have b2 : Bd x_1 0 0 := ⟨by omega, by omega⟩
    refine J_aload_n E dX8_told_32 0 rfl ?_
    refine J_getR E in_X8 rfl (S_X8.h S0) 1 (by decide) wd936 rfl dX8_told_33 ?_
    refine J_bipush E 20 dX8_told_36 (by decide) ?_
    refine J_iload_n E dX8_told_38 1 rfl ?_
    refine J_iadd E dX8_told_39 (fun x3 e4 => ?_)
    have b5 : Bd x3 20 26 := (Bd.add e4 (Bd.lit 20 20 (by decide)) bx_0 (by decide)).w _ _ (by decide)
    refine J_iald1 E (S_X8.f1 S0) (Bd.in b5 (by decide)) dX8_told_40 (fun x6 e7 => ?_)
    exact J_iret E hr dX8_told_41 ⟨rfl, rfl, trivial, trivial⟩
  by_cases h8 : x_1.toInt = 1
  · refine J_tabIn E 1 42 dX8_told_1 h8 (by decide) (by decide) rfl (by decide) ?_
    have b9 : Bd x_1 1 1 := ⟨by omega, by omega⟩
    refine J_aload_n E dX8_told_42 0 rfl ?_
    refine J_getR E in_X8 rfl (S_X8.h S0) 1 (by decide) wd936 rfl dX8_told_43 ?_
    refine J_bipush E 27 dX8_told_46 (by decide) ?_
    refine J_iload_n E dX8_told_48 1 rfl ?_
    refine J_iadd E dX8_told_49 (fun x10 e11 => ?_)
    have b12 : Bd x10 27 33 := (Bd.add e11 (Bd.lit 27 27 (by decide)) bx_0 (by decide)).w _ _ (by decide)
    refine J_iald1 E (S_X8.f1 S0) (Bd.in b12 (by decide)) dX8_told_50 (fun x13 e14 => ?_)
    exact J_iret E hr dX8_told_51 ⟨rfl, rfl, trivial, trivial⟩
  by_cases h15 : x_1.toInt = 2
  · refine J_tabIn E 2 52 dX8_told_1 h15 (by decide) (by decide) rfl (by decide) ?_
    have b16 : Bd x_1 2 2 := ⟨by omega, by omega⟩
    refine J_aload_n E dX8_told_52 0 rfl ?_
    refine J_getR E in_X8 rfl (S_X8.h S0) 1 (by decide) wd936 rfl dX8_told_53 ?_
    refine J_bipush E 36 dX8_told_56 (by decide) ?_
    refine J_iload_n E dX8_told_58 1 rfl ?_
    refine J_iadd E dX8_told_59 (fun x17 e18 => ?_)
    have b19 : Bd x17 36 42 := (Bd.add e18 (Bd.lit 36 36 (by decide)) bx_0 (by decide)).w _ _ (by decide)
    refine J_iald1 E (S_X8.f1 S0) (Bd.in b19 (by decide)) dX8_told_60 (fun x20 e21 => ?_)
    exact J_iret E hr dX8_told_61 ⟨rfl, rfl, trivial, trivial⟩
  by_cases h22 : x_1.toInt = 3
  · refine J_tabIn E 3 62 dX8_told_1 h22 (by decide) (by decide) rfl (by decide) ?_
    have b23 : Bd x_1 3 3 := ⟨by omega, by omega⟩
    refine J_aload_n E dX8_told_62 0 rfl ?_
    refine J_getR E in_X8 rfl (S_X8.h S0) 1 (by decide) wd936 rfl dX8_told_63 ?_
    refine J_bipush E 43 dX8_told_66 (by decide) ?_
    refine J_iload_n E dX8_told_68 1 rfl ?_
    refine J_iadd E dX8_told_69 (fun x24 e25 => ?_)
    have b26 : Bd x24 43 49 := (Bd.add e25 (Bd.lit 43 43 (by decide)) bx_0 (by decide)).w _ _ (by decide)
    refine J_iald1 E (S_X8.f1 S0) (Bd.in b26 (by decide)) dX8_told_70 (fun x27 e28 => ?_)
    have b29 : Bd x27 (-1) 6 := Bd.e (Ok.ld hOk (S_X8.f1 S0) b26 43 7 (-1) 6 (by decide) (by decide +kernel)) e28
    exact J_iret E hr dX8_told_71 ⟨rfl, rfl, trivial, trivial⟩
  refine J_tabOut (x := x_1) E 72 dX8_told_1 (by have := bx_1; simp only [Bd, I0, I1] at this; omega) (by decide) ?_
  refine J_aload_n E dX8_told_72 0 rfl ?_
  refine J_iload_n E dX8_told_73 1 rfl ?_
  refine J_callVI E cal_X8_isLost wd1128 rfl (S_X8.h S0) [.int x_0] [] (ct_X8_isLost l D dA G v w (hOk) h0 S0 x_0 bx_0) rfl rfl (Nat.le_of_ble_eq_true rfl) ⟨rfl, rfl⟩ ⟨Nat.le_of_ble_eq_true rfl, Nat.le_of_ble_eq_true rfl⟩ dX8_told_74 (fun x33 v30 w31 p32 => ?_)
  rw [p32.1, p32.2.1]
  have b34 : Bd x33 0 1 := p32.2.2.1
  refine J_if_eq E 84 dX8_told_77 (by decide) (fun c35 => ?_) (fun c35 => ?_)
  · have b36 : Bd x33 0 0 := Bd.eq_l c35 b34 (Bd.lit 0 0 (by decide)) 0 0 (by decide)
    refine J_iconst E 1 dX8_told_84 (by decide) ?_
    exact J_iret E hr dX8_told_85 ⟨rfl, rfl, trivial, trivial⟩
  · have b37 : Bd x33 1 1 := (Bd.ne_lo c35 b34 (Bd.lit 0 0 (by decide))).w _ _ (by decide)
    refine J_iconst E 0 dX8_told_80 (by decide) ?_
    refine J_goto E 85 dX8_told_81 (by decide) ?_
    exact J_iret E hr dX8_told_85 ⟨rfl, rfl, trivial, trivial⟩

abbrev rm_X8_of : Room := { frames := 3, cells := 0, slots := 0, locals := 64 }
set_option maxHeartbeats 4000000 in
set_option maxRecDepth 100000 in
theorem ct_X8_of (l : Launch) (D : va_G) (dA : Nat → ClassId) (G : Gm) (v : Mv) (w : Mw) (hOk : Ok G v w) (h0 : Nat) (S0 : S_X8 G h0) (x_0 : Int32) (x_1 : Int32) : CtI l yX8_of cX8_of 3 (some .int) rm_X8_of D dA G [.ref h0, .int x_0, .int x_1] v w (fun r v1 w1 => Ok G v1 w1 ∧ Kp G v v1 ∧ True ∧ Fr G [103] v v1) := by
  refine CtI.of RX8 [(0, .ref h0), (1, .int x_0), (2, .int x_1)] (Nat.le_of_ble_eq_true rfl) rfl (by decide) rfl ?_
  intro p e s m args below meth c E hr
  have J26 :  J p l e rm_X8_of s m args below meth c 0 0 (MQ below (QcI D dA G (fun r v1 w1 => Ok G v1 w1 ∧ Kp G v v1 ∧ True ∧ Fr G [103] v v1)) args s 0 0 (dm G)) D dA G (dm G) s.heap 3 v w [(0, .ref h0)] 26 [] := by
    refine J_aload_n E dX8_of_26 0 rfl ?_
    refine J_callVI E cal_X8_bad wd999 rfl (S_X8.h S0) [] [] (ct_X8_bad l D dA G v w (hOk) h0 S0) rfl rfl (Nat.le_of_ble_eq_true rfl) ⟨rfl, rfl⟩ ⟨Nat.le_of_ble_eq_true rfl, Nat.le_of_ble_eq_true rfl⟩ dX8_of_27 (fun x4 v1 w2 p3 => ?_)
    have o5 := p3.1
    have k6 : Kp G v v1 := (Kp.rf).tr p3.2.1
    have f7 : Fr G [103] v v1 := Fr.tr Fr.rf (p3.2.2.2) (by decide)
    have b8 : Bd x4 (-2) (-2) := p3.2.2.1
    exact J_iret E hr dX8_of_30 ⟨o5, k6, trivial, f7⟩
  refine J_aload_n E dX8_of_0 0 rfl ?_
  refine J_iload_n E dX8_of_1 1 rfl ?_
  refine J_callVI E cal_X8_isOne wd1120 rfl (S_X8.h S0) [.int x_0] [] (ct_X8_isOne l D dA G v w (hOk) h0 S0 x_0) rfl rfl (Nat.le_of_ble_eq_true rfl) ⟨rfl, rfl⟩ ⟨Nat.le_of_ble_eq_true rfl, Nat.le_of_ble_eq_true rfl⟩ dX8_of_2 (fun x12 v9 w10 p11 => ?_)
  rw [p11.1, p11.2.1]
  have b13 : Bd x12 0 1 := p11.2.2.1
  refine J_if_eq E 26 dX8_of_5 (by decide) (fun c14 => ?_) (fun c14 => ?_)
  · have b15 : Bd x12 0 0 := Bd.eq_l c14 b13 (Bd.lit 0 0 (by decide)) 0 0 (by decide)
    exact J.sub [0] rfl (J26)
  · have b16 : Bd x12 1 1 := (Bd.ne_lo c14 b13 (Bd.lit 0 0 (by decide))).w _ _ (by decide)
    have b17 : Bd x_0 0 6 := (p11.2.2.2).resolve_left c14
    refine J_iload_n E dX8_of_8 2 rfl ?_
    refine J_iconst E 0 dX8_of_9 (by decide) ?_
    refine J_iconst E 4 dX8_of_10 (by decide) ?_
    refine J_callSI E cal_X8_in wd996 [.int x_1, .int 0, .int 4] [] (ct_X8_in l D dA G v w (hOk) x_1 0 4) rfl rfl (Nat.le_of_ble_eq_true rfl) ⟨rfl, rfl⟩ ⟨Nat.le_of_ble_eq_true rfl, Nat.le_of_ble_eq_true rfl⟩ dX8_of_11 (fun x21 v18 w19 p20 => ?_)
    rw [p20.1, p20.2.1]
    have b22 : Bd x21 0 1 := p20.2.2.1
    refine J_if_eq E 26 dX8_of_14 (by decide) (fun c23 => ?_) (fun c23 => ?_)
    · have b24 : Bd x21 0 0 := Bd.eq_l c23 b22 (Bd.lit 0 0 (by decide)) 0 0 (by decide)
      have g25 : ¬ (0 ≤ x_1 ∧ x_1 ≤ 4) := (p20.2.2.2.2).resolve_left (fun h9 => h9 c23)
      exact J.sub [0] rfl (J26)
    · have b26 : Bd x21 1 1 := (Bd.ne_lo c23 b22 (Bd.lit 0 0 (by decide))).w _ _ (by decide)
      have g27 := (p20.2.2.2.1).resolve_left c23
      have b28 : Bd x_1 0 I1 := Bd.le_r g27.1 (Bd.lit 0 0 (by decide)) (Bd.any x_1) 0 (by decide)
      have b29 : Bd x_1 0 4 := Bd.le_l g27.2 b28 (Bd.lit 4 4 (by decide)) 4 (by decide)
      refine J_aload_n E dX8_of_17 0 rfl ?_
      refine J_iload_n E dX8_of_18 1 rfl ?_
      refine J_iload_n E dX8_of_19 2 rfl ?_
      refine J_callVI E cal_X8_told wd1163 rfl (S_X8.h S0) [.int x_0, .int x_1] [] (ct_X8_told l D dA G v w (hOk) h0 S0 x_0 b17 x_1 b29) rfl rfl (Nat.le_of_ble_eq_true rfl) ⟨rfl, rfl⟩ ⟨Nat.le_of_ble_eq_true rfl, Nat.le_of_ble_eq_true rfl⟩ dX8_of_20 (fun x33 v30 w31 p32 => ?_)
      rw [p32.1, p32.2.1]
      refine J_goto E 30 dX8_of_23 (by decide) ?_
      exact J_iret E hr dX8_of_30 ⟨hOk, Kp.rf, trivial, Fr.rf⟩
