abbrev rm_X4_mixInto_6 : Room := { frames := 0, cells := 0, slots := 0, locals := 0 }
set_option maxHeartbeats 4000000 in
set_option maxRecDepth 100000 in
theorem ct_X4_mixInto_6 (l : Launch) (D : va_G) (dA : Nat → ClassId) (G : Gm) (v : Mv) (w : Mw) (hOk : Ok G v w) (h0 : Nat) (S0 : S_X4 G h0 6) (y_0 : Int64) : CtL l yX4_mixInto cX4_mixInto 6 (some .long) rm_X4_mixInto_6 D dA G [.ref h0, .long y_0] v w (fun _ v1 w1 => v1 = v ∧ w1 = w ∧ True) := by
  refine CtL.of RX4 [(0, .ref h0), (1, .long y_0)] (Nat.le_of_ble_eq_true rfl) rfl (by decide) rfl ?_
  intro p e s m args below meth c E hr
  have J5 : ∀ n : Nat, ∀ y1 : Int64, ∀ x2 : Int32, Bd x2 0 60 → Mu x2 60 n → J p l e rm_X4_mixInto_6 s m args below meth c 0 0 (MQ below (QcL D dA G (fun _ v1 w1 => v1 = v ∧ w1 = w ∧ True)) args s 0 0 (dm G)) D dA G (dm G) s.heap 6 v w [(0, .ref h0), (3, .long y1), (5, .int x2)] 5 [] := by
    intro n
    induction n with
    | zero => intro y1 x2 b3 hm; exact hm.zero b3 (by decide)
    | succ n ih5 =>
      intro y1 x2 b3 hmu5
      refine J_iload E dX4_mixInto_5 2 rfl ?_
      refine J_iconst E 4 dX4_mixInto_7 (by decide) ?_
      refine J_aload_n E dX4_mixInto_8 0 rfl ?_
      refine J_getI E in_X4 rfl (S_X4.h S0) 2 (by decide) wd181 rfl dX4_mixInto_9 (fun x4 e5 => ?_)
      have b6 : Bd x4 0 6 := Ok.fd hOk e5 (S_X4.h S0) rfl
      refine J_imul E dX4_mixInto_12 (fun x7 e8 => ?_)
      have b9 : Bd x7 0 24 := Bd.mul e8 (Bd.lit 4 4 (by decide)) b6 (by decide)
      refine J_icmp_ge E 37 dX4_mixInto_13 (by decide) (fun c10 => ?_) (fun c10 => ?_)
      · refine J_lload_n E dX4_mixInto_37 1 rfl ?_
        exact J_lret E hr dX4_mixInto_38 ⟨rfl, rfl, trivial⟩
      · have b11 : Bd x2 0 23 := Bd.lt_l (nle c10) b3 b9 23 (by decide)
        have b12 : Bd x7 1 24 := Bd.lt_r (nle c10) b3 b9 1 (by decide)
        refine J_ldc2 E wd924 dX4_mixInto_16 ?_
        refine J_lload_n E dX4_mixInto_19 1 rfl ?_
        refine J_lmul E dX4_mixInto_20 (fun y13 e14 => ?_)
        refine J_aload_n E dX4_mixInto_21 0 rfl ?_
        refine J_getR E in_X4 rfl (S_X4.h S0) 1 (by decide) wd180 rfl dX4_mixInto_22 ?_
        refine J_iload E dX4_mixInto_25 2 rfl ?_
        refine J_iald1 E (S_X4.f1 S0) (Bd.in b11 (by decide)) dX4_mixInto_27 (fun x15 e16 => ?_)
        refine J_i2l E dX4_mixInto_28 (fun y17 e18 => ?_)
        refine J_ladd E dX4_mixInto_29 (fun y19 e20 => ?_)
        refine J_lstore_n E [(3, .long y19), (0, .ref h0), (5, .int x2)] dX4_mixInto_30 rfl (by decide) rfl ?_
        refine J_iinc E 2 1 (fun z => [(5, .int z), (3, .long y19), (0, .ref h0)]) dX4_mixInto_31 rfl (by decide) (by decide) (fun _ => rfl) (fun x21 e22 => ?_)
        have b23 : Bd x21 1 24 := (Bd.add e22 b11 (Bd.lit 1 1 (by decide)) (by decide)).w _ _ (by decide)
        refine J_goto E 5 dX4_mixInto_34 (by decide) ?_
        exact J.sub [2, 1, 0] rfl (ih5 y19 x21 (b23.w 0 60 (by decide)) (Mu.step hmu5 e22 b11 (Bd.lit 1 1 (by decide)) (by decide)))
  refine J_lload_n E dX4_mixInto_0 1 rfl ?_
  refine J_lstore_n E [(3, .long y_0), (0, .ref h0), (1, .long y_0)] dX4_mixInto_1 rfl (by decide) rfl ?_
  refine J_iconst E 0 dX4_mixInto_2 (by decide) ?_
  refine J_istore E [(5, .int 0), (3, .long y_0), (0, .ref h0), (1, .long y_0)] dX4_mixInto_3 (by decide) rfl ?_
  exact J.sub [2, 1, 0] rfl (J5 61 y_0 0 ((Bd.lit 0 0 (by decide)).w 0 60 (by decide)) (Mu.start _ (Bd.lit 0 0 (by decide)) (by decide)))

abbrev rm_X6_copyFrom : Room := { frames := 1, cells := 0, slots := 0, locals := 22 }
set_option maxHeartbeats 4000000 in
set_option maxRecDepth 100000 in
theorem ct_X6_copyFrom (l : Launch) (D : va_G) (dA : Nat → ClassId) (G : Gm) (v : Mv) (w : Mw) (hOk : Ok G v w) (h0 : Nat) (S0 : S_X6 G h0) (h_0 : Nat) (S_0 : S_X6 G h_0) : CtV l yX6_copyFrom cX6_copyFrom 3 none rm_X6_copyFrom D dA G [.ref h0, .ref h_0] v w (fun v1 w1 => Ok G v1 w1 ∧ Kp G v v1 ∧ Fr G [2, 4, 6, 107, 120, 124] v v1) := by
  refine CtV.of RX6 [(0, .ref h0), (1, .ref h_0)] (Nat.le_of_ble_eq_true rfl) rfl (by decide) rfl ?_
  intro p e s m args below meth c E hr
  have J113 : ∀ n : Nat, ∀ (v1 : Mv) (w2 : Mw), Ok G v1 w2 → Kp G v v1 → Fr G [2, 4, 6, 107, 120, 124] v v1 → ∀ x6 : Int32, Bd x6 0 8 → Mu x6 8 n → J p l e rm_X6_copyFrom s m args below meth c 0 0 (MQ below (QcV D dA G (fun v1 w1 => Ok G v1 w1 ∧ Kp G v v1 ∧ Fr G [2, 4, 6, 107, 120, 124] v v1)) args s 0 0 (dm G)) D dA G (dm G) s.heap 3 v1 w2 [(0, .ref h0), (1, .ref h_0), (2, .int x6)] 113 [] := by
    intro n
    induction n with
    | zero => intro v1 w2 o3 k4 f5 x6 b7 hm; exact hm.zero b7 (by decide)
    | succ n ih113 =>
      intro v1 w2 o3 k4 f5 x6 b7 hmu113
      refine J_iload_n E dX6_copyFrom_113 2 rfl ?_
      refine J_aload_n E dX6_copyFrom_114 0 rfl ?_
      refine J_getI E in_X6 rfl (S_X6.h S0) 8 (by decide) wd211 rfl dX6_copyFrom_115 (fun x8 e9 => ?_)
      have b10 : Bd x8 0 8 := Ok.fd o3 e9 (S_X6.h S0) rfl
      refine J_icmp_ge E 142 dX6_copyFrom_118 (by decide) (fun c11 => ?_) (fun c11 => ?_)
      · refine J_aload_n E dX6_copyFrom_142 0 rfl ?_
        refine J_getR E in_X6 rfl (S_X6.h S0) 9 (by decide) wd213 rfl dX6_copyFrom_143 ?_
        refine J_aload_n E dX6_copyFrom_146 1 rfl ?_
        refine J_getR E in_X6 rfl (S_X6.h S_0) 9 (by decide) wd213 rfl dX6_copyFrom_147 ?_
        refine J_callVNV E cal_X4_copyFrom wd575 rfl (S_X4.h (S_X6.f9 S0)) [.ref (rf G h_0 9)] [] (ct_X4_copyFrom_5 l D dA G v1 w2 (o3) (rf G h0 9) (S_X6.f9 S0) (rf G h_0 9) (S_X6.f9 S_0)) rfl rfl (Nat.le_of_ble_eq_true rfl) ⟨rfl, rfl⟩ ⟨Nat.le_of_ble_eq_true rfl, Nat.le_of_ble_eq_true rfl⟩ dX6_copyFrom_150 (fun v12 w13 p14 => ?_)
        have o16 := p14.1
        have k17 : Kp G v v12 := (k4).tr p14.2.1
        have f18 : Fr G [2, 4, 6, 107, 120, 124] v v12 := Fr.tr f5 (p14.2.2) (by decide)
        refine J_aload_n E dX6_copyFrom_153 0 rfl ?_
        refine J_getR E in_X6 rfl (S_X6.h S0) 10 (by decide) wd215 rfl dX6_copyFrom_154 ?_
        refine J_aload_n E dX6_copyFrom_157 1 rfl ?_
        refine J_getR E in_X6 rfl (S_X6.h S_0) 10 (by decide) wd215 rfl dX6_copyFrom_158 ?_
        refine J_callVNV E cal_X4_copyFrom wd575 rfl (S_X4.h (S_X6.f10 S0)) [.ref (rf G h_0 10)] [] (ct_X4_copyFrom_6 l D dA G v12 w13 (o16) (rf G h0 10) (S_X6.f10 S0) (rf G h_0 10) (S_X6.f10 S_0)) rfl rfl (Nat.le_of_ble_eq_true rfl) ⟨rfl, rfl⟩ ⟨Nat.le_of_ble_eq_true rfl, Nat.le_of_ble_eq_true rfl⟩ dX6_copyFrom_161 (fun v19 w20 p21 => ?_)
        have o23 := p21.1
        have k24 : Kp G v v19 := (k17).tr p21.2.1
        have f25 : Fr G [2, 4, 6, 107, 120, 124] v v19 := Fr.tr f18 (p21.2.2) (by decide)
        refine J_aload_n E dX6_copyFrom_164 0 rfl ?_
        refine J_getR E in_X6 rfl (S_X6.h S0) 11 (by decide) wd217 rfl dX6_copyFrom_165 ?_
        refine J_aload_n E dX6_copyFrom_168 1 rfl ?_
        refine J_getR E in_X6 rfl (S_X6.h S_0) 11 (by decide) wd217 rfl dX6_copyFrom_169 ?_
        refine J_callVNV E cal_X4_copyFrom wd575 rfl (S_X4.h (S_X6.f11 S0)) [.ref (rf G h_0 11)] [] (ct_X4_copyFrom_6 l D dA G v19 w20 (o23) (rf G h0 11) (S_X6.f11 S0) (rf G h_0 11) (S_X6.f11 S_0)) rfl rfl (Nat.le_of_ble_eq_true rfl) ⟨rfl, rfl⟩ ⟨Nat.le_of_ble_eq_true rfl, Nat.le_of_ble_eq_true rfl⟩ dX6_copyFrom_172 (fun v26 w27 p28 => ?_)
        have o30 := p28.1
        have k31 : Kp G v v26 := (k24).tr p28.2.1
        have f32 : Fr G [2, 4, 6, 107, 120, 124] v v26 := Fr.tr f25 (p28.2.2) (by decide)
        exact J_vret E hr dX6_copyFrom_175 ⟨o30, k31, f32⟩
      · have b33 : Bd x6 0 7 := Bd.lt_l (nle c11) b7 b10 7 (by decide)
        have b34 : Bd x8 1 8 := Bd.lt_r (nle c11) b7 b10 1 (by decide)
        refine J_aload_n E dX6_copyFrom_121 0 rfl ?_
        refine J_getR E in_X6 rfl (S_X6.h S0) 7 (by decide) wd210 rfl dX6_copyFrom_122 ?_
        refine J_iload_n E dX6_copyFrom_125 2 rfl ?_
        have hi38 := Bd.in (n := 8) b33 (by decide)
        obtain ⟨q35, hq36, hw37⟩ := Ok.el o3 (S_X6.f7 S0).1 hi38
        refine J_aald4 E (S_X6.f7 S0).1 hi38 hw37 dX6_copyFrom_126 ?_
        have S39 := (S_X6.f7 S0).2 q35 hq36
        refine J_aload_n E dX6_copyFrom_127 1 rfl ?_
        refine J_getR E in_X6 rfl (S_X6.h S_0) 7 (by decide) wd210 rfl dX6_copyFrom_128 ?_
        refine J_iload_n E dX6_copyFrom_131 2 rfl ?_
        have hi43 := Bd.in (n := 8) b33 (by decide)
        obtain ⟨q40, hq41, hw42⟩ := Ok.el o3 (S_X6.f7 S_0).1 hi43
        refine J_aald4 E (S_X6.f7 S_0).1 hi43 hw42 dX6_copyFrom_132 ?_
        have S44 := (S_X6.f7 S_0).2 q40 hq41
        refine J_callVNV E cal_X2_copyFrom wd571 rfl (S_X2.h S39) [.ref q40] [] (ct_X2_copyFrom l D dA G v1 w2 (o3) q35 S39 q40 S44) rfl rfl (Nat.le_of_ble_eq_true rfl) ⟨rfl, rfl⟩ ⟨Nat.le_of_ble_eq_true rfl, Nat.le_of_ble_eq_true rfl⟩ dX6_copyFrom_133 (fun v45 w46 p47 => ?_)
        have o49 := p47.1
        have k50 : Kp G v v45 := (k4).tr p47.2.1
        have f51 : Fr G [2, 4, 6, 107, 120, 124] v v45 := Fr.tr f5 (p47.2.2) (by decide)
        refine J_iinc E 2 1 (fun z => [(2, .int z), (0, .ref h0), (1, .ref h_0)]) dX6_copyFrom_136 rfl (by decide) (by decide) (fun _ => rfl) (fun x52 e53 => ?_)
        have b54 : Bd x52 1 8 := (Bd.add e53 b33 (Bd.lit 1 1 (by decide)) (by decide)).w _ _ (by decide)
        refine J_goto E 113 dX6_copyFrom_139 (by decide) ?_
        exact J.sub [1, 2, 0] rfl (ih113 v45 w46 (o49) (k50) f51 x52 (b54.w 0 8 (by decide)) (Mu.step hmu113 e53 b33 (Bd.lit 1 1 (by decide)) (by decide)))
  have J56 : ∀ n : Nat, ∀ (v55 : Mv) (w56 : Mw), Ok G v55 w56 → Kp G v v55 → Fr G [2, 4, 6, 107, 120, 124] v v55 → ∀ x60 : Int32, Bd x60 0 7 → Mu x60 7 n → J p l e rm_X6_copyFrom s m args below meth c 0 0 (MQ below (QcV D dA G (fun v1 w1 => Ok G v1 w1 ∧ Kp G v v1 ∧ Fr G [2, 4, 6, 107, 120, 124] v v1)) args s 0 0 (dm G)) D dA G (dm G) s.heap 3 v55 w56 [(0, .ref h0), (1, .ref h_0), (2, .int x60)] 56 [] := by
    intro n
    induction n with
    | zero => intro v55 w56 o57 k58 f59 x60 b61 hm; exact hm.zero b61 (by decide)
    | succ n ih56 =>
      intro v55 w56 o57 k58 f59 x60 b61 hmu56
      refine J_iload_n E dX6_copyFrom_56 2 rfl ?_
      refine J_bipush E 7 dX6_copyFrom_57 (by decide) ?_
      refine J_icmp_ge E 92 dX6_copyFrom_59 (by decide) (fun c62 => ?_) (fun c62 => ?_)
      · have b63 : Bd x60 7 7 := Bd.le_r c62 (Bd.lit 7 7 (by decide)) b61 7 (by decide)
        refine J_aload_n E dX6_copyFrom_92 0 rfl ?_
        refine J_getR E in_X6 rfl (S_X6.h S0) 6 (by decide) wd207 rfl dX6_copyFrom_93 ?_
        refine J_aload_n E dX6_copyFrom_96 1 rfl ?_
        refine J_getR E in_X6 rfl (S_X6.h S_0) 6 (by decide) wd207 rfl dX6_copyFrom_97 ?_
        refine J_callVNV E cal_X2_copyFrom wd571 rfl (S_X2.h (S_X6.f6 S0)) [.ref (rf G h_0 6)] [] (ct_X2_copyFrom l D dA G v55 w56 (o57) (rf G h0 6) (S_X6.f6 S0) (rf G h_0 6) (S_X6.f6 S_0)) rfl rfl (Nat.le_of_ble_eq_true rfl) ⟨rfl, rfl⟩ ⟨Nat.le_of_ble_eq_true rfl, Nat.le_of_ble_eq_true rfl⟩ dX6_copyFrom_100 (fun v64 w65 p66 => ?_)
        have o68 := p66.1
        have k69 : Kp G v v64 := (k58).tr p66.2.1
        have f70 : Fr G [2, 4, 6, 107, 120, 124] v v64 := Fr.tr f59 (p66.2.2) (by decide)
        refine J_aload_n E dX6_copyFrom_103 0 rfl ?_
        refine J_aload_n E dX6_copyFrom_104 1 rfl ?_
        refine J_getI E in_X6 rfl (S_X6.h S_0) 8 (by decide) wd211 rfl dX6_copyFrom_105 (fun x71 e72 => ?_)
        have b73 : Bd x71 0 8 := Ok.fd o68 e72 (S_X6.h S_0) rfl
        refine J_pI E in_X6 rfl (S_X6.h S0) 8 (by decide) wd211 tyX6 tyX6_ok nmX6 rfl rfl .int (by decide +kernel) rfl rfl dX6_copyFrom_108 (fun v74 e75 => ?_)
        have o76 : Ok G v74 w65 := Ok.pf o68 e75 (S_X6.h S0) rfl b73
        have k77 : Kp G v v74 := Kp.pf k69 e75 (S_X6.h S0) rfl
        have f78 : Fr G [2, 4, 6, 107, 120, 124] v v74 := Fr.st f70 e75 (S_X6.h S0) rfl
        have e79 : x71 = v74 h0 8 := by rw [e75, stv_s]
        refine J_iconst E 0 dX6_copyFrom_111 (by decide) ?_
        refine J_istore_n E [(2, .int 0), (0, .ref h0), (1, .ref h_0)] dX6_copyFrom_112 rfl (by decide) rfl ?_
        exact J.sub [1, 2, 0] rfl (J113 9 v74 w65 (o76) (k77) f78 0 ((Bd.lit 0 0 (by decide)).w 0 8 (by decide)) (Mu.start _ (Bd.lit 0 0 (by decide)) (by decide)))
      · have b80 : Bd x60 0 6 := Bd.lt_l (nle c62) b61 (Bd.lit 7 7 (by decide)) 6 (by decide)
        refine J_aload_n E dX6_copyFrom_62 0 rfl ?_
        refine J_getR E in_X6 rfl (S_X6.h S0) 4 (by decide) wd203 rfl dX6_copyFrom_63 ?_
        refine J_iload_n E dX6_copyFrom_66 2 rfl ?_
        refine J_aload_n E dX6_copyFrom_67 1 rfl ?_
        refine J_getR E in_X6 rfl (S_X6.h S_0) 4 (by decide) wd203 rfl dX6_copyFrom_68 ?_
        refine J_iload_n E dX6_copyFrom_71 2 rfl ?_
        refine J_iald1 E (S_X6.f4 S_0) (Bd.in b80 (by decide)) dX6_copyFrom_72 (fun x81 e82 => ?_)
        refine J_iast1 E (S_X6.f4 S0) (Bd.in b80 (by decide)) dX6_copyFrom_73 (fun v83 e84 => ?_)
        have o85 : Ok G v83 w56 := by rw [e84]; exact Ok.sv o57 (S_X6.f4 S0) b80 (Bd.any x81) 0 7 (by decide) (by decide +kernel)
        have k86 : Kp G v v83 := by rw [e84]; exact Kp.sv k58 (S_X6.f4 S0) b80 0 7 I0 I1 (by decide) (by decide +kernel)
        have f87 : Fr G [2, 4, 6, 107, 120, 124] v v83 := Fr.st f59 e84 (S_X6.f4 S0) rfl
        refine J_aload_n E dX6_copyFrom_74 0 rfl ?_
        refine J_getR E in_X6 rfl (S_X6.h S0) 5 (by decide) wd205 rfl dX6_copyFrom_75 ?_
        refine J_iload_n E dX6_copyFrom_78 2 rfl ?_
        refine J_aload_n E dX6_copyFrom_79 1 rfl ?_
        refine J_getR E in_X6 rfl (S_X6.h S_0) 5 (by decide) wd205 rfl dX6_copyFrom_80 ?_
        refine J_iload_n E dX6_copyFrom_83 2 rfl ?_
        refine J_iald1 E (S_X6.f5 S_0) (Bd.in b80 (by decide)) dX6_copyFrom_84 (fun x88 e89 => ?_)
        refine J_iast1 E (S_X6.f5 S0) (Bd.in b80 (by decide)) dX6_copyFrom_85 (fun v90 e91 => ?_)
        have o92 : Ok G v90 w56 := by rw [e91]; exact Ok.sv o85 (S_X6.f5 S0) b80 (Bd.any x88) 0 7 (by decide) (by decide +kernel)
        have k93 : Kp G v v90 := by rw [e91]; exact Kp.sv k86 (S_X6.f5 S0) b80 0 7 I0 I1 (by decide) (by decide +kernel)
        have f94 : Fr G [2, 4, 6, 107, 120, 124] v v90 := Fr.st f87 e91 (S_X6.f5 S0) rfl
        refine J_iinc E 2 1 (fun z => [(2, .int z), (0, .ref h0), (1, .ref h_0)]) dX6_copyFrom_86 rfl (by decide) (by decide) (fun _ => rfl) (fun x95 e96 => ?_)
        have b97 : Bd x95 1 7 := (Bd.add e96 b80 (Bd.lit 1 1 (by decide)) (by decide)).w _ _ (by decide)
        refine J_goto E 56 dX6_copyFrom_89 (by decide) ?_
        exact J.sub [1, 2, 0] rfl (ih56 v90 w56 (o92) (k93) f94 x95 (b97.w 0 7 (by decide)) (Mu.step hmu56 e96 b80 (Bd.lit 1 1 (by decide)) (by decide)))
  have J18 : ∀ n : Nat, ∀ (v98 : Mv) (w99 : Mw), Ok G v98 w99 → Kp G v v98 → Fr G [2, 4, 6, 107, 120, 124] v v98 → ∀ x103 : Int32, Bd x103 0 7 → Mu x103 7 n → J p l e rm_X6_copyFrom s m args below meth c 0 0 (MQ below (QcV D dA G (fun v1 w1 => Ok G v1 w1 ∧ Kp G v v1 ∧ Fr G [2, 4, 6, 107, 120, 124] v v1)) args s 0 0 (dm G)) D dA G (dm G) s.heap 3 v98 w99 [(0, .ref h0), (1, .ref h_0), (2, .int x103)] 18 [] := by
    intro n
    induction n with
    | zero => intro v98 w99 o100 k101 f102 x103 b104 hm; exact hm.zero b104 (by decide)
    | succ n ih18 =>
      intro v98 w99 o100 k101 f102 x103 b104 hmu18
      refine J_iload_n E dX6_copyFrom_18 2 rfl ?_
      refine J_bipush E 7 dX6_copyFrom_19 (by decide) ?_
      refine J_icmp_ge E 54 dX6_copyFrom_21 (by decide) (fun c105 => ?_) (fun c105 => ?_)
      · have b106 : Bd x103 7 7 := Bd.le_r c105 (Bd.lit 7 7 (by decide)) b104 7 (by decide)
        refine J_iconst E 0 dX6_copyFrom_54 (by decide) ?_
        refine J_istore_n E [(2, .int 0), (0, .ref h0), (1, .ref h_0)] dX6_copyFrom_55 rfl (by decide) rfl ?_
        exact J.sub [1, 2, 0] rfl (J56 8 v98 w99 (o100) (k101) f102 0 ((Bd.lit 0 0 (by decide)).w 0 7 (by decide)) (Mu.start _ (Bd.lit 0 0 (by decide)) (by decide)))
      · have b107 : Bd x103 0 6 := Bd.lt_l (nle c105) b104 (Bd.lit 7 7 (by decide)) 6 (by decide)
        refine J_aload_n E dX6_copyFrom_24 0 rfl ?_
        refine J_getR E in_X6 rfl (S_X6.h S0) 1 (by decide) wd195 rfl dX6_copyFrom_25 ?_
        refine J_iload_n E dX6_copyFrom_28 2 rfl ?_
        refine J_aload_n E dX6_copyFrom_29 1 rfl ?_
        refine J_getR E in_X6 rfl (S_X6.h S_0) 1 (by decide) wd195 rfl dX6_copyFrom_30 ?_
        refine J_iload_n E dX6_copyFrom_33 2 rfl ?_
        refine J_iald1 E (S_X6.f1 S_0) (Bd.in b107 (by decide)) dX6_copyFrom_34 (fun x108 e109 => ?_)
        refine J_iast1 E (S_X6.f1 S0) (Bd.in b107 (by decide)) dX6_copyFrom_35 (fun v110 e111 => ?_)
        have o112 : Ok G v110 w99 := by rw [e111]; exact Ok.sv o100 (S_X6.f1 S0) b107 (Bd.any x108) 0 7 (by decide) (by decide +kernel)
        have k113 : Kp G v v110 := by rw [e111]; exact Kp.sv k101 (S_X6.f1 S0) b107 0 7 I0 I1 (by decide) (by decide +kernel)
        have f114 : Fr G [2, 4, 6, 107, 120, 124] v v110 := Fr.st f102 e111 (S_X6.f1 S0) rfl
        refine J_aload_n E dX6_copyFrom_36 0 rfl ?_
        refine J_getR E in_X6 rfl (S_X6.h S0) 2 (by decide) wd197 rfl dX6_copyFrom_37 ?_
        refine J_iload_n E dX6_copyFrom_40 2 rfl ?_
        refine J_aload_n E dX6_copyFrom_41 1 rfl ?_
        refine J_getR E in_X6 rfl (S_X6.h S_0) 2 (by decide) wd197 rfl dX6_copyFrom_42 ?_
        refine J_iload_n E dX6_copyFrom_45 2 rfl ?_
        refine J_iald1 E (S_X6.f2 S_0) (Bd.in b107 (by decide)) dX6_copyFrom_46 (fun x115 e116 => ?_)
        refine J_iast1 E (S_X6.f2 S0) (Bd.in b107 (by decide)) dX6_copyFrom_47 (fun v117 e118 => ?_)
        have o119 : Ok G v117 w99 := by rw [e118]; exact Ok.sv o112 (S_X6.f2 S0) b107 (Bd.any x115) 0 7 (by decide) (by decide +kernel)
        have k120 : Kp G v v117 := by rw [e118]; exact Kp.sv k113 (S_X6.f2 S0) b107 0 7 I0 I1 (by decide) (by decide +kernel)
        have f121 : Fr G [2, 4, 6, 107, 120, 124] v v117 := Fr.st f114 e118 (S_X6.f2 S0) rfl
        refine J_iinc E 2 1 (fun z => [(2, .int z), (0, .ref h0), (1, .ref h_0)]) dX6_copyFrom_48 rfl (by decide) (by decide) (fun _ => rfl) (fun x122 e123 => ?_)
        have b124 : Bd x122 1 7 := (Bd.add e123 b107 (Bd.lit 1 1 (by decide)) (by decide)).w _ _ (by decide)
        refine J_goto E 18 dX6_copyFrom_51 (by decide) ?_
        exact J.sub [1, 2, 0] rfl (ih18 v117 w99 (o119) (k120) f121 x122 (b124.w 0 7 (by decide)) (Mu.step hmu18 e123 b107 (Bd.lit 1 1 (by decide)) (by decide)))
  refine J_aload_n E dX6_copyFrom_0 0 rfl ?_
  refine J_aload_n E dX6_copyFrom_1 1 rfl ?_
  refine J_getI E in_X6 rfl (S_X6.h S_0) 0 (by decide) wd191 rfl dX6_copyFrom_2 (fun x125 e126 => ?_)
  have b127 : Bd x125 0 7 := Ok.fd hOk e126 (S_X6.h S_0) rfl
  refine J_pI E in_X6 rfl (S_X6.h S0) 0 (by decide) wd191 tyX6 tyX6_ok nmX6 rfl rfl .int (by decide +kernel) rfl rfl dX6_copyFrom_5 (fun v128 e129 => ?_)
  have o130 : Ok G v128 w := Ok.pf hOk e129 (S_X6.h S0) rfl b127
  have k131 : Kp G v v128 := Kp.pf Kp.rf e129 (S_X6.h S0) rfl
  have f132 : Fr G [2, 4, 6, 107, 120, 124] v v128 := Fr.st Fr.rf e129 (S_X6.h S0) rfl
  have e133 : x125 = v128 h0 0 := by rw [e129, stv_s]
  refine J_aload_n E dX6_copyFrom_8 0 rfl ?_
  refine J_aload_n E dX6_copyFrom_9 1 rfl ?_
  refine J_getI E in_X6 rfl (S_X6.h S_0) 3 (by decide) wd201 rfl dX6_copyFrom_10 (fun x134 e135 => ?_)
  have b136 : Bd x134 0 7 := Ok.fd o130 e135 (S_X6.h S_0) rfl
  refine J_pI E in_X6 rfl (S_X6.h S0) 3 (by decide) wd201 tyX6 tyX6_ok nmX6 rfl rfl .int (by decide +kernel) rfl rfl dX6_copyFrom_13 (fun v137 e138 => ?_)
  have o139 : Ok G v137 w := Ok.pf o130 e138 (S_X6.h S0) rfl b136
  have k140 : Kp G v v137 := Kp.pf k131 e138 (S_X6.h S0) rfl
  have e141 : x125 = v137 h0 0 := by rw [e138, stv_k (by decide)]; exact e133
  have f142 : Fr G [2, 4, 6, 107, 120, 124] v v137 := Fr.st f132 e138 (S_X6.h S0) rfl
  have e143 : x134 = v137 h0 3 := by rw [e138, stv_s]
  refine J_iconst E 0 dX6_copyFrom_16 (by decide) ?_
  refine J_istore_n E [(2, .int 0), (0, .ref h0), (1, .ref h_0)] dX6_copyFrom_17 rfl (by decide) rfl ?_
  exact J.sub [1, 2, 0] rfl (J18 8 v137 w (o139) (k140) f142 0 ((Bd.lit 0 0 (by decide)).w 0 7 (by decide)) (Mu.start _ (Bd.lit 0 0 (by decide)) (by decide)))

abbrev rm_X6_hasOne : Room := { frames := 0, cells := 0, slots := 0, locals := 0 }
set_option maxHeartbeats 4000000 in
set_option maxRecDepth 100000 in
theorem ct_X6_hasOne (l : Launch) (D : va_G) (dA : Nat → ClassId) (G : Gm) (v : Mv) (w : Mw) (hOk : Ok G v w) (h0 : Nat) (S0 : S_X6 G h0) (x_0 : Int32) : CtI l yX6_hasOne cX6_hasOne 2 (some .boolean) rm_X6_hasOne D dA G [.ref h0, .int x_0] v w (fun r v1 w1 => v1 = v ∧ w1 = w ∧ Bd r 0 1 ∧ (r = 0 ∨ Bd x_0 0 6)) := by
  refine CtI.of RX6 [(0, .ref h0), (1, .int x_0)] (Nat.le_of_ble_eq_true rfl) rfl (by decide) rfl ?_
  intro p e s m args below meth c E hr
  refine J_iload_n E dX6_hasOne_0 1 rfl ?_
  refine J_if_lt E 16 dX6_hasOne_1 (by decide) (fun c1 => ?_) (fun c1 => ?_)
  · have b2 : Bd x_0 I0 (-1) := Bd.lt_l c1 (Bd.any x_0) (Bd.lit 0 0 (by decide)) (-1) (by decide)
    refine J_iconst E 0 dX6_hasOne_16 (by decide) ?_
    exact J_zret E hr (Bd.z (Bd.lit 0 0 (by decide)) (by decide)) dX6_hasOne_17 ⟨rfl, rfl, ((Bd.lit 0 0 (by decide)).w 0 1 (by decide)), (Or.inl rfl)⟩
  · have b3 : Bd x_0 0 I1 := Bd.le_r (nlt c1) (Bd.lit 0 0 (by decide)) (Bd.any x_0) 0 (by decide)
    refine J_iload_n E dX6_hasOne_4 1 rfl ?_
    refine J_aload_n E dX6_hasOne_5 0 rfl ?_
    refine J_getI E in_X6 rfl (S_X6.h S0) 3 (by decide) wd201 rfl dX6_hasOne_6 (fun x4 e5 => ?_)
    have b6 : Bd x4 0 7 := Ok.fd hOk e5 (S_X6.h S0) rfl
    refine J_icmp_ge E 16 dX6_hasOne_9 (by decide) (fun c7 => ?_) (fun c7 => ?_)
    · refine J_iconst E 0 dX6_hasOne_16 (by decide) ?_
      exact J_zret E hr (Bd.z (Bd.lit 0 0 (by decide)) (by decide)) dX6_hasOne_17 ⟨rfl, rfl, ((Bd.lit 0 0 (by decide)).w 0 1 (by decide)), (Or.inl rfl)⟩
    · have b8 : Bd x_0 0 6 := Bd.lt_l (nle c7) b3 b6 6 (by decide)
      have b9 : Bd x4 1 7 := Bd.lt_r (nle c7) b3 b6 1 (by decide)
      refine J_iconst E 1 dX6_hasOne_12 (by decide) ?_
      refine J_goto E 17 dX6_hasOne_13 (by decide) ?_
      exact J_zret E hr (Bd.z (Bd.lit 1 1 (by decide)) (by decide)) dX6_hasOne_17 ⟨rfl, rfl, ((Bd.lit 1 1 (by decide)).w 0 1 (by decide)), (Or.inr b8)⟩

abbrev rm_X6_remember : Room := { frames := 1, cells := 0, slots := 0, locals := 22 }
set_option maxHeartbeats 4000000 in
set_option maxRecDepth 100000 in
theorem ct_X6_remember (l : Launch) (D : va_G) (dA : Nat → ClassId) (G : Gm) (v : Mv) (w : Mw) (hOk : Ok G v w) (h0 : Nat) (S0 : S_X6 G h0) : CtV l yX6_remember cX6_remember 3 none rm_X6_remember D dA G [.ref h0] v w (fun v1 w1 => Ok G v1 w1 ∧ Kp G v v1 ∧ Fr G [2, 6, 107, 40108] v v1) := by
  refine CtV.of RX6 [(0, .ref h0)] (Nat.le_of_ble_eq_true rfl) rfl (by decide) rfl ?_
  intro p e s m args below meth c E hr
  have J58 : ∀ (v1 : Mv) (w2 : Mw), Ok G v1 w2 → Kp G v v1 → Fr G [2, 6, 107, 40108] v v1 → ∀ x7 : Int32, x7 = v1 h0 8 → Bd x7 0 7 → J p l e rm_X6_remember s m args below meth c 0 0 (MQ below (QcV D dA G (fun v1 w1 => Ok G v1 w1 ∧ Kp G v v1 ∧ Fr G [2, 6, 107, 40108] v v1)) args s 0 0 (dm G)) D dA G (dm G) s.heap 3 v1 w2 [(0, .ref h0)] 58 [] := by
    intro v1 w2 o3 k4 f5 x7 e8 b6
    refine J_aload_n E dX6_remember_58 0 rfl ?_
    refine J_getR E in_X6 rfl (S_X6.h S0) 7 (by decide) wd210 rfl dX6_remember_59 ?_
    refine J_aload_n E dX6_remember_62 0 rfl ?_
    refine J_getI E in_X6 rfl (S_X6.h S0) 8 (by decide) wd211 rfl dX6_remember_63 (fun x9 e10 => ?_)
    rw [show x9 = x7 from e10.trans (e8).symm]
    have hi14 := Bd.in (n := 8) b6 (by decide)
    obtain ⟨q11, hq12, hw13⟩ := Ok.el o3 (S_X6.f7 S0).1 hi14
    refine J_aald4 E (S_X6.f7 S0).1 hi14 hw13 dX6_remember_66 ?_
    have S15 := (S_X6.f7 S0).2 q11 hq12
    refine J_aload_n E dX6_remember_67 0 rfl ?_
    refine J_getR E in_X6 rfl (S_X6.h S0) 6 (by decide) wd207 rfl dX6_remember_68 ?_
    refine J_callVNV E cal_X2_copyFrom wd571 rfl (S_X2.h S15) [.ref (rf G h0 6)] [] (ct_X2_copyFrom l D dA G v1 w2 (o3) q11 S15 (rf G h0 6) (S_X6.f6 S0)) rfl rfl (Nat.le_of_ble_eq_true rfl) ⟨rfl, rfl⟩ ⟨Nat.le_of_ble_eq_true rfl, Nat.le_of_ble_eq_true rfl⟩ dX6_remember_71 (fun v16 w17 p18 => ?_)
    have o20 := p18.1
    have k21 : Kp G v v16 := (k4).tr p18.2.1
    have f22 : Fr G [2, 6, 107, 40108] v v16 := Fr.tr f5 (p18.2.2) (by decide)
    refine J_aload_n E dX6_remember_74 0 rfl ?_
    refine J_dup E dX6_remember_75 rfl ?_
    refine J_getI E in_X6 rfl (S_X6.h S0) 8 (by decide) wd211 rfl dX6_remember_76 (fun x23 e24 => ?_)
    rw [show x23 = x7 from e24.trans (((e8).trans (Fr.at (p18.2.2) (S_X6.h S0) rfl 8).symm)).symm]
    refine J_iconst E 1 dX6_remember_79 (by decide) ?_
    refine J_iadd E dX6_remember_80 (fun x25 e26 => ?_)
    have b27 : Bd x25 1 8 := (Bd.add e26 b6 (Bd.lit 1 1 (by decide)) (by decide)).w _ _ (by decide)
    refine J_pI E in_X6 rfl (S_X6.h S0) 8 (by decide) wd211 tyX6 tyX6_ok nmX6 rfl rfl .int (by decide +kernel) rfl rfl dX6_remember_81 (fun v28 e29 => ?_)
    have o30 : Ok G v28 w17 := Ok.pf o20 e29 (S_X6.h S0) rfl (b27.w 0 8 (by decide))
    have k31 : Kp G v v28 := Kp.pf k21 e29 (S_X6.h S0) rfl
    have f32 : Fr G [2, 6, 107, 40108] v v28 := Fr.st f22 e29 (S_X6.h S0) rfl
    have e33 : x25 = v28 h0 8 := by rw [e29, stv_s]
    exact J_vret E hr dX6_remember_84 ⟨o30, k31, f32⟩
  have J18 : ∀ n : Nat, ∀ (v34 : Mv) (w35 : Mw), Ok G v34 w35 → Kp G v v34 → Fr G [2, 6, 107, 40108] v v34 → ∀ q39 : Nat, q39 ∈ rl G (rf G h0 7) → ∀ x41 : Int32, Bd x41 1 8 → Mu x41 8 n → J p l e rm_X6_remember s m args below meth c 0 0 (MQ below (QcV D dA G (fun v1 w1 => Ok G v1 w1 ∧ Kp G v v1 ∧ Fr G [2, 6, 107, 40108] v v1)) args s 0 0 (dm G)) D dA G (dm G) s.heap 3 v34 w35 [(0, .ref h0), (1, .ref q39), (2, .int x41)] 18 [] := by
    intro n
    induction n with
    | zero => intro v34 w35 o36 k37 f38 q39 hq40 x41 b42 hm; exact hm.zero b42 (by decide)
    | succ n ih18 =>
      intro v34 w35 o36 k37 f38 q39 hq40 x41 b42 hmu18
      refine J_iload_n E dX6_remember_18 2 rfl ?_
      refine J_bipush E 8 dX6_remember_19 (by decide) ?_
      refine J_icmp_ge E 44 dX6_remember_21 (by decide) (fun c43 => ?_) (fun c43 => ?_)
      · have b44 : Bd x41 8 8 := Bd.le_r c43 (Bd.lit 8 8 (by decide)) b42 8 (by decide)
        refine J_aload_n E dX6_remember_44 0 rfl ?_
        refine J_getR E in_X6 rfl (S_X6.h S0) 7 (by decide) wd210 rfl dX6_remember_45 ?_
        refine J_bipush E 7 dX6_remember_48 (by decide) ?_
        refine J_aload_n E dX6_remember_50 1 rfl ?_
        refine J_aast41 E (S_X6.f7 S0).1 (S_X2.h ((S_X6.f7 S0).2 q39 hq40)) (Bd.in (Bd.lit 7 7 (by decide)) (by decide)) dX6_remember_51 (fun w45 e46 => ?_)
        have o47 : Ok G v34 w45 := by rw [e46]; exact Ok.stu o36 (S_X6.f7 S0).1 hq40
        refine J_aload_n E dX6_remember_52 0 rfl ?_
        refine J_bipush E 7 dX6_remember_53 (by decide) ?_
        refine J_pI E in_X6 rfl (S_X6.h S0) 8 (by decide) wd211 tyX6 tyX6_ok nmX6 rfl rfl .int (by decide +kernel) rfl rfl dX6_remember_55 (fun v48 e49 => ?_)
        have o50 : Ok G v48 w45 := Ok.pf o47 e49 (S_X6.h S0) rfl ((Bd.lit 7 7 (by decide)).w 0 8 (by decide))
        have k51 : Kp G v v48 := Kp.pf k37 e49 (S_X6.h S0) rfl
        have f52 : Fr G [2, 6, 107, 40108] v v48 := Fr.st f38 e49 (S_X6.h S0) rfl
        have e53 : (7 : Int32) = v48 h0 8 := by rw [e49, stv_s]
        exact J.sub [0] rfl (J58 v48 w45 (o50) (k51) f52 7 (e53) ((Bd.lit 7 7 (by decide)).w 0 7 (by decide)))
      · have b54 : Bd x41 1 7 := Bd.lt_l (nle c43) b42 (Bd.lit 8 8 (by decide)) 7 (by decide)
        refine J_aload_n E dX6_remember_24 0 rfl ?_
        refine J_getR E in_X6 rfl (S_X6.h S0) 7 (by decide) wd210 rfl dX6_remember_25 ?_
        refine J_iload_n E dX6_remember_28 2 rfl ?_
        refine J_iconst E 1 dX6_remember_29 (by decide) ?_
        refine J_isub E dX6_remember_30 (fun x55 e56 => ?_)
        have b57 : Bd x55 0 6 := (Bd.sub e56 b54 (Bd.lit 1 1 (by decide)) (by decide)).w _ _ (by decide)
        refine J_aload_n E dX6_remember_31 0 rfl ?_
        refine J_getR E in_X6 rfl (S_X6.h S0) 7 (by decide) wd210 rfl dX6_remember_32 ?_
        refine J_iload_n E dX6_remember_35 2 rfl ?_
        have hi61 := Bd.in (n := 8) b54 (by decide)
        obtain ⟨q58, hq59, hw60⟩ := Ok.el o36 (S_X6.f7 S0).1 hi61
        refine J_aald4 E (S_X6.f7 S0).1 hi61 hw60 dX6_remember_36 ?_
        have S62 := (S_X6.f7 S0).2 q58 hq59
        refine J_aast41 E (S_X6.f7 S0).1 (S_X2.h S62) (Bd.in b57 (by decide)) dX6_remember_37 (fun w63 e64 => ?_)
        have o65 : Ok G v34 w63 := by rw [e64]; exact Ok.stu o36 (S_X6.f7 S0).1 hq59
        refine J_iinc E 2 1 (fun z => [(2, .int z), (0, .ref h0), (1, .ref q39)]) dX6_remember_38 rfl (by decide) (by decide) (fun _ => rfl) (fun x66 e67 => ?_)
        have b68 : Bd x66 2 8 := (Bd.add e67 b54 (Bd.lit 1 1 (by decide)) (by decide)).w _ _ (by decide)
        refine J_goto E 18 dX6_remember_41 (by decide) ?_
        exact J.sub [1, 2, 0] rfl (ih18 v34 w63 (o65) (k37) f38 q39 hq40 x66 (b68.w 1 8 (by decide)) (Mu.step hmu18 e67 b54 (Bd.lit 1 1 (by decide)) (by decide)))
  refine J_aload_n E dX6_remember_0 0 rfl ?_
  refine J_getI E in_X6 rfl (S_X6.h S0) 8 (by decide) wd211 rfl dX6_remember_1 (fun x69 e70 => ?_)
  have b71 : Bd x69 0 8 := Ok.fd hOk e70 (S_X6.h S0) rfl
  refine J_bipush E 8 dX6_remember_4 (by decide) ?_
  refine J_icmp_lt E 58 dX6_remember_6 (by decide) (fun c72 => ?_) (fun c72 => ?_)
  · have b73 : Bd x69 0 7 := Bd.lt_l c72 b71 (Bd.lit 8 8 (by decide)) 7 (by decide)
    exact J.sub [0] rfl (J58 v w (hOk) (Kp.rf) Fr.rf x69 (e70) b73)
  · have b74 : Bd x69 8 8 := Bd.le_r (nlt c72) (Bd.lit 8 8 (by decide)) b71 8 (by decide)
    refine J_aload_n E dX6_remember_9 0 rfl ?_
    refine J_getR E in_X6 rfl (S_X6.h S0) 7 (by decide) wd210 rfl dX6_remember_10 ?_
    refine J_iconst E 0 dX6_remember_13 (by decide) ?_
    have hi78 := Bd.in (n := 8) (Bd.lit 0 0 (by decide)) (by decide)
    obtain ⟨q75, hq76, hw77⟩ := Ok.el hOk (S_X6.f7 S0).1 hi78
    refine J_aald4 E (S_X6.f7 S0).1 hi78 hw77 dX6_remember_14 ?_
    have S79 := (S_X6.f7 S0).2 q75 hq76
    refine J_astore_n E [(1, .ref q75), (0, .ref h0)] dX6_remember_15 rfl (by decide) rfl ?_
    refine J_iconst E 1 dX6_remember_16 (by decide) ?_
    refine J_istore_n E [(2, .int 1), (1, .ref q75), (0, .ref h0)] dX6_remember_17 rfl (by decide) rfl ?_
    exact J.sub [2, 1, 0] rfl (J18 8 v w (hOk) (Kp.rf) Fr.rf q75 hq76 1 ((Bd.lit 1 1 (by decide)).w 1 8 (by decide)) (Mu.start _ (Bd.lit 1 1 (by decide)) (by decide)))

abbrev rm_X6_bringBack : Room := { frames := 1, cells := 0, slots := 0, locals := 22 }
set_option maxHeartbeats 4000000 in
set_option maxRecDepth 100000 in
theorem ct_X6_bringBack (l : Launch) (D : va_G) (dA : Nat → ClassId) (G : Gm) (v : Mv) (w : Mw) (hOk : Ok G v w) (h0 : Nat) (S0 : S_X6 G h0) (z_0 : Int32) (ez_0 : z_0 = v h0 8) (pre0 : Bd z_0 1 8) : CtV l yX6_bringBack cX6_bringBack 1 none rm_X6_bringBack D dA G [.ref h0] v w (fun v1 w1 => Ok G v1 w1 ∧ Kp G v v1 ∧ Fr G [2, 6, 107] v v1) := by
  refine CtV.of RX6 [(0, .ref h0)] (Nat.le_of_ble_eq_true rfl) rfl (by decide) rfl ?_
  intro p e s m args below meth c E hr
  refine J_aload_n E dX6_bringBack_0 0 rfl ?_
  refine J_dup E dX6_bringBack_1 rfl ?_
  refine J_getI E in_X6 rfl (S_X6.h S0) 8 (by decide) wd211 rfl dX6_bringBack_2 (fun x1 e2 => ?_)
  rw [show x1 = z_0 from e2.trans (ez_0).symm]
  refine J_iconst E 1 dX6_bringBack_5 (by decide) ?_
  refine J_isub E dX6_bringBack_6 (fun x3 e4 => ?_)
  have b5 : Bd x3 0 7 := (Bd.sub e4 pre0 (Bd.lit 1 1 (by decide)) (by decide)).w _ _ (by decide)
  refine J_pI E in_X6 rfl (S_X6.h S0) 8 (by decide) wd211 tyX6 tyX6_ok nmX6 rfl rfl .int (by decide +kernel) rfl rfl dX6_bringBack_7 (fun v6 e7 => ?_)
  have o8 : Ok G v6 w := Ok.pf hOk e7 (S_X6.h S0) rfl (b5.w 0 8 (by decide))
  have k9 : Kp G v v6 := Kp.pf Kp.rf e7 (S_X6.h S0) rfl
  have f10 : Fr G [2, 6, 107] v v6 := Fr.st Fr.rf e7 (S_X6.h S0) rfl
  have e11 : x3 = v6 h0 8 := by rw [e7, stv_s]
  refine J_aload_n E dX6_bringBack_10 0 rfl ?_
  refine J_getR E in_X6 rfl (S_X6.h S0) 6 (by decide) wd207 rfl dX6_bringBack_11 ?_
  refine J_aload_n E dX6_bringBack_14 0 rfl ?_
  refine J_getR E in_X6 rfl (S_X6.h S0) 7 (by decide) wd210 rfl dX6_bringBack_15 ?_
  refine J_aload_n E dX6_bringBack_18 0 rfl ?_
  refine J_getI E in_X6 rfl (S_X6.h S0) 8 (by decide) wd211 rfl dX6_bringBack_19 (fun x12 e13 => ?_)
  rw [show x12 = x3 from e13.trans (e11).symm]
  have hi17 := Bd.in (n := 8) b5 (by decide)
  obtain ⟨q14, hq15, hw16⟩ := Ok.el o8 (S_X6.f7 S0).1 hi17
  refine J_aald4 E (S_X6.f7 S0).1 hi17 hw16 dX6_bringBack_22 ?_
  have S18 := (S_X6.f7 S0).2 q14 hq15
  refine J_callVNV E cal_X2_copyFrom wd571 rfl (S_X2.h (S_X6.f6 S0)) [.ref q14] [] (ct_X2_copyFrom l D dA G v6 w (o8) (rf G h0 6) (S_X6.f6 S0) q14 S18) rfl rfl (Nat.le_of_ble_eq_true rfl) ⟨rfl, rfl⟩ ⟨Nat.le_of_ble_eq_true rfl, Nat.le_of_ble_eq_true rfl⟩ dX6_bringBack_23 (fun v19 w20 p21 => ?_)
  have o23 := p21.1
  have k24 : Kp G v v19 := (k9).tr p21.2.1
  have f25 : Fr G [2, 6, 107] v v19 := Fr.tr f10 (p21.2.2) (by decide)
  exact J_vret E hr dX6_bringBack_26 ⟨o23, k24, f25⟩

abbrev rm_X6_countOwned : Room := { frames := 0, cells := 0, slots := 0, locals := 0 }
set_option maxHeartbeats 4000000 in
set_option maxRecDepth 100000 in
theorem ct_X6_countOwned (l : Launch) (D : va_G) (dA : Nat → ClassId) (G : Gm) (v : Mv) (w : Mw) (hOk : Ok G v w) (h0 : Nat) (S0 : S_X6 G h0) : CtI l yX6_countOwned cX6_countOwned 3 (some .int) rm_X6_countOwned D dA G [.ref h0] v w (fun r v1 w1 => v1 = v ∧ w1 = w ∧ True ∧ True) := by
  refine CtI.of RX6 [(0, .ref h0)] (Nat.le_of_ble_eq_true rfl) rfl (by decide) rfl ?_
  intro p e s m args below meth c E hr
  have J4 : ∀ n : Nat, ∀ x1 : Int32, ∀ x2 : Int32, Bd x2 0 7 → Mu x2 7 n → J p l e rm_X6_countOwned s m args below meth c 0 0 (MQ below (QcI D dA G (fun r v1 w1 => v1 = v ∧ w1 = w ∧ True ∧ True)) args s 0 0 (dm G)) D dA G (dm G) s.heap 3 v w [(0, .ref h0), (1, .int x1), (2, .int x2)] 4 [] := by
    intro n
    induction n with
    | zero => intro x1 x2 b3 hm; exact hm.zero b3 (by decide)
    | succ n ih4 =>
      intro x1 x2 b3 hmu4
      have J28 : ∀ x4 : Int32, Bd x2 0 6 → J p l e rm_X6_countOwned s m args below meth c 0 0 (MQ below (QcI D dA G (fun r v1 w1 => v1 = v ∧ w1 = w ∧ True ∧ True)) args s 0 0 (dm G)) D dA G (dm G) s.heap 3 v w [(0, .ref h0), (1, .int x4), (2, .int x2)] 28 [] := by
        intro x4 b5
        refine J_iinc E 2 1 (fun z => [(2, .int z), (0, .ref h0), (1, .int x4)]) dX6_countOwned_28 rfl (by decide) (by decide) (fun _ => rfl) (fun x6 e7 => ?_)
        have b8 : Bd x6 1 7 := (Bd.add e7 b5 (Bd.lit 1 1 (by decide)) (by decide)).w _ _ (by decide)
        refine J_goto E 4 dX6_countOwned_31 (by decide) ?_
        exact J.sub [1, 2, 0] rfl (ih4 x4 x6 (b8.w 0 7 (by decide)) (Mu.step hmu4 e7 b5 (Bd.lit 1 1 (by decide)) (by decide)))
      refine J_iload_n E dX6_countOwned_4 2 rfl ?_
      refine J_aload_n E dX6_countOwned_5 0 rfl ?_
      refine J_getI E in_X6 rfl (S_X6.h S0) 3 (by decide) wd201 rfl dX6_countOwned_6 (fun x9 e10 => ?_)
      have b11 : Bd x9 0 7 := Ok.fd hOk e10 (S_X6.h S0) rfl
      refine J_icmp_ge E 34 dX6_countOwned_9 (by decide) (fun c12 => ?_) (fun c12 => ?_)
      · refine J_iload_n E dX6_countOwned_34 1 rfl ?_
        exact J_iret E hr dX6_countOwned_35 ⟨rfl, rfl, trivial, trivial⟩
      · have b13 : Bd x2 0 6 := Bd.lt_l (nle c12) b3 b11 6 (by decide)
        have b14 : Bd x9 1 7 := Bd.lt_r (nle c12) b3 b11 1 (by decide)
        refine J_aload_n E dX6_countOwned_12 0 rfl ?_
        refine J_getR E in_X6 rfl (S_X6.h S0) 6 (by decide) wd207 rfl dX6_countOwned_13 ?_
        refine J_getRN E in_X2 rfl (S_X2.h (S_X6.f6 S0)) 1 (by decide) wd153 rfl dX6_countOwned_16 ?_
        refine J_iload_n E dX6_countOwned_19 2 rfl ?_
        refine J_iald1 E (S_X2.f1 (S_X6.f6 S0)) (Bd.in b13 (by decide)) dX6_countOwned_20 (fun x15 e16 => ?_)
        refine J_iconst E (-1) dX6_countOwned_21 (by decide) ?_
        refine J_icmp_eq E 28 dX6_countOwned_22 (by decide) (fun c17 => ?_) (fun c17 => ?_)
        · have b18 : Bd x15 (-1) (-1) := Bd.eq_l c17 (Bd.any x15) (Bd.lit (-1) (-1) (by decide)) (-1) (-1) (by decide)
          exact J.sub [0, 1, 2] rfl (J28 x1 b13)
        · refine J_iinc E 1 1 (fun z => [(1, .int z), (0, .ref h0), (2, .int x2)]) dX6_countOwned_25 rfl (by decide) (by decide) (fun _ => rfl) (fun x19 e20 => ?_)
          exact J.sub [1, 0, 2] rfl (J28 x19 b13)
  refine J_iconst E 0 dX6_countOwned_0 (by decide) ?_
  refine J_istore_n E [(1, .int 0), (0, .ref h0)] dX6_countOwned_1 rfl (by decide) rfl ?_
  refine J_iconst E 0 dX6_countOwned_2 (by decide) ?_
  refine J_istore_n E [(2, .int 0), (1, .int 0), (0, .ref h0)] dX6_countOwned_3 rfl (by decide) rfl ?_
  exact J.sub [2, 1, 0] rfl (J4 8 0 0 ((Bd.lit 0 0 (by decide)).w 0 7 (by decide)) (Mu.start _ (Bd.lit 0 0 (by decide)) (by decide)))

abbrev rm_X6_factOfOne : Room := { frames := 1, cells := 0, slots := 0, locals := 21 }
set_option maxHeartbeats 4000000 in
set_option maxRecDepth 100000 in
theorem ct_X6_factOfOne (l : Launch) (D : va_G) (dA : Nat → ClassId) (G : Gm) (v : Mv) (w : Mw) (hOk : Ok G v w) (h0 : Nat) (S0 : S_X6 G h0) (x_0 : Int32) (bx_0 : Bd x_0 0 6) (x_1 : Int32) (bx_1 : Bd x_1 0 4) : CtI l yX6_factOfOne cX6_factOfOne 3 (some .int) rm_X6_factOfOne D dA G [.ref h0, .int x_0, .int x_1] v w (fun r v1 w1 => v1 = v ∧ w1 = w ∧ True ∧ True) := by
  refine CtI.of RX6 [(0, .ref h0), (1, .int x_0), (2, .int x_1)] (Nat.le_of_ble_eq_true rfl) rfl (by decide) rfl ?_
  intro p e s m args below meth c E hr
  refine J_iload_n E dX6_factOfOne_0 2 rfl ?_
  by_cases h1 : x_1.toInt = 0
  · refine J_tabIn E 0 32 dX6_factOfOne_1 h1 (by decide) (by decide) rfl (by decide) ?_
    have b2 : Bd x_1 0 0 := ⟨by omega, by omega⟩
    refine J_aload_n E dX6_factOfOne_32 0 rfl ?_
    refine J_getR E in_X6 rfl (S_X6.h S0) 4 (by decide) wd203 rfl dX6_factOfOne_33 ?_
    refine J_iload_n E dX6_factOfOne_36 1 rfl ?_
    refine J_iald1 E (S_X6.f4 S0) (Bd.in bx_0 (by decide)) dX6_factOfOne_37 (fun x3 e4 => ?_)
    exact J_iret E hr dX6_factOfOne_38 ⟨rfl, rfl, trivial, trivial⟩
  by_cases h5 : x_1.toInt = 1
  · refine J_tabIn E 1 39 dX6_factOfOne_1 h5 (by decide) (by decide) rfl (by decide) ?_
    have b6 : Bd x_1 1 1 := ⟨by omega, by omega⟩
    refine J_aload_n E dX6_factOfOne_39 0 rfl ?_
    refine J_getR E in_X6 rfl (S_X6.h S0) 5 (by decide) wd205 rfl dX6_factOfOne_40 ?_
    refine J_iload_n E dX6_factOfOne_43 1 rfl ?_
    refine J_iald1 E (S_X6.f5 S0) (Bd.in bx_0 (by decide)) dX6_factOfOne_44 (fun x7 e8 => ?_)
    exact J_iret E hr dX6_factOfOne_45 ⟨rfl, rfl, trivial, trivial⟩
  by_cases h9 : x_1.toInt = 2
  · refine J_tabIn E 2 46 dX6_factOfOne_1 h9 (by decide) (by decide) rfl (by decide) ?_
    have b10 : Bd x_1 2 2 := ⟨by omega, by omega⟩
    refine J_aload_n E dX6_factOfOne_46 0 rfl ?_
    refine J_getR E in_X6 rfl (S_X6.h S0) 6 (by decide) wd207 rfl dX6_factOfOne_47 ?_
    refine J_getRN E in_X2 rfl (S_X2.h (S_X6.f6 S0)) 0 (by decide) wd151 rfl dX6_factOfOne_50 ?_
    refine J_iload_n E dX6_factOfOne_53 1 rfl ?_
    refine J_iald1 E (S_X2.f0 (S_X6.f6 S0)) (Bd.in bx_0 (by decide)) dX6_factOfOne_54 (fun x11 e12 => ?_)
    exact J_iret E hr dX6_factOfOne_55 ⟨rfl, rfl, trivial, trivial⟩
  by_cases h13 : x_1.toInt = 3
  · refine J_tabIn E 3 56 dX6_factOfOne_1 h13 (by decide) (by decide) rfl (by decide) ?_
    have b14 : Bd x_1 3 3 := ⟨by omega, by omega⟩
    refine J_aload_n E dX6_factOfOne_56 0 rfl ?_
    refine J_getR E in_X6 rfl (S_X6.h S0) 6 (by decide) wd207 rfl dX6_factOfOne_57 ?_
    refine J_getRN E in_X2 rfl (S_X2.h (S_X6.f6 S0)) 1 (by decide) wd153 rfl dX6_factOfOne_60 ?_
    refine J_iload_n E dX6_factOfOne_63 1 rfl ?_
    refine J_iald1 E (S_X2.f1 (S_X6.f6 S0)) (Bd.in bx_0 (by decide)) dX6_factOfOne_64 (fun x15 e16 => ?_)
    exact J_iret E hr dX6_factOfOne_65 ⟨rfl, rfl, trivial, trivial⟩
  refine J_tabOut (x := x_1) E 66 dX6_factOfOne_1 (by have := bx_1; simp only [Bd, I0, I1] at this; omega) (by decide) ?_
  refine J_aload_n E dX6_factOfOne_66 0 rfl ?_
  refine J_getR E in_X6 rfl (S_X6.h S0) 6 (by decide) wd207 rfl dX6_factOfOne_67 ?_
  refine J_iload_n E dX6_factOfOne_70 1 rfl ?_
  refine J_callVNI E cal_X2_isHere wd496 rfl (S_X2.h (S_X6.f6 S0)) [.int x_0] [] (ct_X2_isHere l D dA G v w (hOk) (rf G h0 6) (S_X6.f6 S0) x_0 bx_0) rfl rfl (Nat.le_of_ble_eq_true rfl) ⟨rfl, rfl⟩ ⟨Nat.le_of_ble_eq_true rfl, Nat.le_of_ble_eq_true rfl⟩ dX6_factOfOne_71 (fun x20 v17 w18 p19 => ?_)
  rw [p19.1, p19.2.1]
  have b21 : Bd x20 0 1 := p19.2.2.1
  refine J_if_eq E 81 dX6_factOfOne_74 (by decide) (fun c22 => ?_) (fun c22 => ?_)
  · have b23 : Bd x20 0 0 := Bd.eq_l c22 b21 (Bd.lit 0 0 (by decide)) 0 0 (by decide)
    refine J_iconst E 0 dX6_factOfOne_81 (by decide) ?_
    exact J_iret E hr dX6_factOfOne_82 ⟨rfl, rfl, trivial, trivial⟩
  · have b24 : Bd x20 1 1 := (Bd.ne_lo c22 b21 (Bd.lit 0 0 (by decide))).w _ _ (by decide)
    refine J_iconst E 1 dX6_factOfOne_77 (by decide) ?_
    refine J_goto E 82 dX6_factOfOne_78 (by decide) ?_
    exact J_iret E hr dX6_factOfOne_82 ⟨rfl, rfl, trivial, trivial⟩

abbrev rm_X6_toldWeight : Room := { frames := 0, cells := 0, slots := 0, locals := 0 }
set_option maxHeartbeats 4000000 in
set_option maxRecDepth 100000 in
theorem ct_X6_toldWeight (l : Launch) (D : va_G) (dA : Nat → ClassId) (G : Gm) (v : Mv) (w : Mw) (hOk : Ok G v w) (h0 : Nat) (S0 : S_X6 G h0) (x_0 : Int32) (bx_0 : Bd x_0 0 127) : CtI l yX6_toldWeight cX6_toldWeight 4 (some .int) rm_X6_toldWeight D dA G [.ref h0, .int x_0] v w (fun r v1 w1 => v1 = v ∧ w1 = w ∧ True ∧ True) := by
  refine CtI.of RX6 [(0, .ref h0), (1, .int x_0)] (Nat.le_of_ble_eq_true rfl) rfl (by decide) rfl ?_
  intro p e s m args below meth c E hr
  have J4 : ∀ n : Nat, Bd x_0 0 127 → ∀ x2 : Int32, ∀ x3 : Int32, Bd x3 0 7 → Mu x3 7 n → J p l e rm_X6_toldWeight s m args below meth c 0 0 (MQ below (QcI D dA G (fun r v1 w1 => v1 = v ∧ w1 = w ∧ True ∧ True)) args s 0 0 (dm G)) D dA G (dm G) s.heap 4 v w [(0, .ref h0), (1, .int x_0), (2, .int x2), (3, .int x3)] 4 [] := by
    intro n
    induction n with
    | zero => intro b1 x2 x3 b4 hm; exact hm.zero b4 (by decide)
    | succ n ih4 =>
      intro b1 x2 x3 b4 hmu4
      have J30 : Bd x_0 0 127 → ∀ x6 : Int32, Bd x3 0 6 → J p l e rm_X6_toldWeight s m args below meth c 0 0 (MQ below (QcI D dA G (fun r v1 w1 => v1 = v ∧ w1 = w ∧ True ∧ True)) args s 0 0 (dm G)) D dA G (dm G) s.heap 4 v w [(0, .ref h0), (1, .int x_0), (2, .int x6), (3, .int x3)] 30 [] := by
        intro b5 x6 b7
        refine J_iinc E 3 1 (fun z => [(3, .int z), (0, .ref h0), (1, .int x_0), (2, .int x6)]) dX6_toldWeight_30 rfl (by decide) (by decide) (fun _ => rfl) (fun x8 e9 => ?_)
        have b10 : Bd x8 1 7 := (Bd.add e9 b7 (Bd.lit 1 1 (by decide)) (by decide)).w _ _ (by decide)
        refine J_goto E 4 dX6_toldWeight_33 (by decide) ?_
        exact J.sub [1, 2, 3, 0] rfl (ih4 b5 x6 x8 (b10.w 0 7 (by decide)) (Mu.step hmu4 e9 b7 (Bd.lit 1 1 (by decide)) (by decide)))
      refine J_iload_n E dX6_toldWeight_4 3 rfl ?_
      refine J_aload_n E dX6_toldWeight_5 0 rfl ?_
      refine J_getI E in_X6 rfl (S_X6.h S0) 0 (by decide) wd191 rfl dX6_toldWeight_6 (fun x11 e12 => ?_)
      have b13 : Bd x11 0 7 := Ok.fd hOk e12 (S_X6.h S0) rfl
      refine J_icmp_ge E 36 dX6_toldWeight_9 (by decide) (fun c14 => ?_) (fun c14 => ?_)
      · refine J_iload_n E dX6_toldWeight_36 2 rfl ?_
        exact J_iret E hr dX6_toldWeight_37 ⟨rfl, rfl, trivial, trivial⟩
      · have b15 : Bd x3 0 6 := Bd.lt_l (nle c14) b4 b13 6 (by decide)
        have b16 : Bd x11 1 7 := Bd.lt_r (nle c14) b4 b13 1 (by decide)
        refine J_iload_n E dX6_toldWeight_12 1 rfl ?_
        refine J_iload_n E dX6_toldWeight_13 3 rfl ?_
        refine J_ishr E dX6_toldWeight_14 (fun x17 e18 => ?_)
        have b19 : Bd x17 0 127 := Bd.shr e18 b1 (by decide)
        refine J_iconst E 1 dX6_toldWeight_15 (by decide) ?_
        refine J_iand E dX6_toldWeight_16 (fun x20 e21 => ?_)
        have b22 : Bd x20 0 1 := Bd.and_r e21 (Bd.lit 1 1 (by decide)) (by decide)
        refine J_iconst E 1 dX6_toldWeight_17 (by decide) ?_
        refine J_icmp_ne E 30 dX6_toldWeight_18 (by decide) (fun c23 => ?_) (fun c23 => ?_)
        · have b24 : Bd x20 0 0 := (Bd.ne_hi c23 b22 (Bd.lit 1 1 (by decide))).w _ _ (by decide)
          exact J.sub [0, 1, 2, 3] rfl (J30 b1 x2 b15)
        · have b25 : Bd x20 1 1 := Bd.eq_l c23 b22 (Bd.lit 1 1 (by decide)) 1 1 (by decide)
          refine J_iload_n E dX6_toldWeight_21 2 rfl ?_
          refine J_aload_n E dX6_toldWeight_22 0 rfl ?_
          refine J_getR E in_X6 rfl (S_X6.h S0) 2 (by decide) wd197 rfl dX6_toldWeight_23 ?_
          refine J_iload_n E dX6_toldWeight_26 3 rfl ?_
          refine J_iald1 E (S_X6.f2 S0) (Bd.in b15 (by decide)) dX6_toldWeight_27 (fun x26 e27 => ?_)
          refine J_iadd E dX6_toldWeight_28 (fun x28 e29 => ?_)
          refine J_istore_n E [(2, .int x28), (0, .ref h0), (1, .int x_0), (3, .int x3)] dX6_toldWeight_29 rfl (by decide) rfl ?_
          exact J.sub [1, 2, 0, 3] rfl (J30 b1 x28 b15)
  refine J_iconst E 0 dX6_toldWeight_0 (by decide) ?_
  refine J_istore_n E [(2, .int 0), (0, .ref h0), (1, .int x_0)] dX6_toldWeight_1 rfl (by decide) rfl ?_
  refine J_iconst E 0 dX6_toldWeight_2 (by decide) ?_
  refine J_istore_n E [(3, .int 0), (2, .int 0), (0, .ref h0), (1, .int x_0)] dX6_toldWeight_3 rfl (by decide) rfl ?_
  exact J.sub [2, 3, 1, 0] rfl (J4 8 bx_0 0 0 ((Bd.lit 0 0 (by decide)).w 0 7 (by decide)) (Mu.start _ (Bd.lit 0 0 (by decide)) (by decide)))

abbrev rm_X6_liftByTwo : Room := { frames := 3, cells := 0, slots := 0, locals := 67 }
set_option maxHeartbeats 4000000 in
set_option maxRecDepth 100000 in
theorem ct_X6_liftByTwo (l : Launch) (D : va_G) (dA : Nat → ClassId) (G : Gm) (v : Mv) (w : Mw) (hOk : Ok G v w) (h0 : Nat) (S0 : S_X6 G h0) (x_0 : Int32) (bx_0 : Bd x_0 0 6) (x_1 : Int32) (bx_1 : Bd x_1 0 6) (x_2 : Int32) (bx_2 : Bd x_2 1 6) : CtI l yX6_liftByTwo cX6_liftByTwo 7 (some .boolean) rm_X6_liftByTwo D dA G [.ref h0, .int x_0, .int x_1, .int x_2] v w (fun r v1 w1 => v1 = v ∧ w1 = w ∧ Bd r 0 1 ∧ True) := by
  refine CtI.of RX6 [(0, .ref h0), (1, .int x_0), (2, .int x_1), (3, .int x_2)] (Nat.le_of_ble_eq_true rfl) rfl (by decide) rfl ?_
  intro p e s m args below meth c E hr
  refine J_aload_n E dX6_liftByTwo_0 0 rfl ?_
  refine J_getR E in_X6 rfl (S_X6.h S0) 6 (by decide) wd207 rfl dX6_liftByTwo_1 ?_
  refine J_iload_n E dX6_liftByTwo_4 2 rfl ?_
  refine J_callVNI E cal_X2_isHere wd496 rfl (S_X2.h (S_X6.f6 S0)) [.int x_1] [] (ct_X2_isHere l D dA G v w (hOk) (rf G h0 6) (S_X6.f6 S0) x_1 bx_1) rfl rfl (Nat.le_of_ble_eq_true rfl) ⟨rfl, rfl⟩ ⟨Nat.le_of_ble_eq_true rfl, Nat.le_of_ble_eq_true rfl⟩ dX6_liftByTwo_5 (fun x4 v1 w2 p3 => ?_)
  rw [p3.1, p3.2.1]
  have b5 : Bd x4 0 1 := p3.2.2.1
  refine J_if_eq E 22 dX6_liftByTwo_8 (by decide) (fun c6 => ?_) (fun c6 => ?_)
  · have b7 : Bd x4 0 0 := Bd.eq_l c6 b5 (Bd.lit 0 0 (by decide)) 0 0 (by decide)
    refine J_iconst E 0 dX6_liftByTwo_22 (by decide) ?_
    exact J_zret E hr (Bd.z (Bd.lit 0 0 (by decide)) (by decide)) dX6_liftByTwo_23 ⟨rfl, rfl, ((Bd.lit 0 0 (by decide)).w 0 1 (by decide)), trivial⟩
  · have b8 : Bd x4 1 1 := (Bd.ne_lo c6 b5 (Bd.lit 0 0 (by decide))).w _ _ (by decide)
    refine J_aload_n E dX6_liftByTwo_11 0 rfl ?_
    refine J_getR E in_X6 rfl (S_X6.h S0) 6 (by decide) wd207 rfl dX6_liftByTwo_12 ?_
    refine J_iload_n E dX6_liftByTwo_15 3 rfl ?_
    refine J_callVNI E cal_X2_isHere wd496 rfl (S_X2.h (S_X6.f6 S0)) [.int x_2] [] (ct_X2_isHere l D dA G v w (hOk) (rf G h0 6) (S_X6.f6 S0) x_2 (bx_2.w 0 6 (by decide))) rfl rfl (Nat.le_of_ble_eq_true rfl) ⟨rfl, rfl⟩ ⟨Nat.le_of_ble_eq_true rfl, Nat.le_of_ble_eq_true rfl⟩ dX6_liftByTwo_16 (fun x12 v9 w10 p11 => ?_)
    rw [p11.1, p11.2.1]
    have b13 : Bd x12 0 1 := p11.2.2.1
    refine J_if_ne E 24 dX6_liftByTwo_19 (by decide) (fun c14 => ?_) (fun c14 => ?_)
    · have b15 : Bd x12 1 1 := (Bd.ne_lo c14 b13 (Bd.lit 0 0 (by decide))).w _ _ (by decide)
      refine J_aload_n E dX6_liftByTwo_24 0 rfl ?_
      refine J_iload_n E dX6_liftByTwo_25 1 rfl ?_
      refine J_iconst E 0 dX6_liftByTwo_26 (by decide) ?_
      refine J_callVI E cal_X6_weightOf wd603 rfl (S_X6.h S0) [.int x_0, .int 0] [] (ct_X6_weightOf l D dA G v w (hOk) h0 S0 x_0 bx_0 0 ((Bd.lit 0 0 (by decide)).w 0 60 (by decide))) rfl rfl (Nat.le_of_ble_eq_true rfl) ⟨rfl, rfl⟩ ⟨Nat.le_of_ble_eq_true rfl, Nat.le_of_ble_eq_true rfl⟩ dX6_liftByTwo_27 (fun x19 v16 w17 p18 => ?_)
      rw [p18.1, p18.2.1]
      refine J_istore E [(4, .int x19), (0, .ref h0), (1, .int x_0), (2, .int x_1), (3, .int x_2)] dX6_liftByTwo_30 (by decide) rfl ?_
      refine J_aload_n E dX6_liftByTwo_32 1 rfl ?_
      refine J_iload_n E dX6_liftByTwo_33 3 rfl ?_
      refine J_iconst E 0 dX6_liftByTwo_34 (by decide) ?_
      refine J_callVI E cal_X6_liftOf wd607 rfl (S_X6.h S0) [.int x_1, .int 0] [] (ct_X6_liftOf l D dA G v w (hOk) h0 S0 x_1 bx_1 0 ((Bd.lit 0 0 (by decide)).w 0 60 (by decide))) rfl rfl (Nat.le_of_ble_eq_true rfl) ⟨rfl, rfl⟩ ⟨Nat.le_of_ble_eq_true rfl, Nat.le_of_ble_eq_true rfl⟩ dX6_liftByTwo_35 (fun x23 v20 w21 p22 => ?_)
      rw [p22.1, p22.2.1]
      refine J_istore E [(5, .int x23), (4, .int x19), (0, .ref h0), (1, .int x_0), (2, .int x_1), (3, .int x_2)] dX6_liftByTwo_38 (by decide) rfl ?_
      refine J_aload_n E dX6_liftByTwo_40 2 rfl ?_
      refine J_iload_n E dX6_liftByTwo_41 5 rfl ?_
      refine J_iconst E 0 dX6_liftByTwo_42 (by decide) ?_
      refine J_callVI E cal_X6_liftOf wd607 rfl (S_X6.h S0) [.int x_2, .int 0] [] (ct_X6_liftOf l D dA G v w (hOk) h0 S0 x_2 (bx_2.w 0 6 (by decide)) 0 ((Bd.lit 0 0 (by decide)).w 0 60 (by decide))) rfl rfl (Nat.le_of_ble_eq_true rfl) ⟨rfl, rfl⟩ ⟨Nat.le_of_ble_eq_true rfl, Nat.le_of_ble_eq_true rfl⟩ dX6_liftByTwo_43 (fun x27 v24 w25 p26 => ?_)
      rw [p26.1, p26.2.1]
      refine J_istore E [(6, .int x27), (5, .int x23), (4, .int x19), (0, .ref h0), (1, .int x_0), (2, .int x_1), (3, .int x_2)] dX6_liftByTwo_46 (by decide) rfl ?_
      refine J_iload E dX6_liftByTwo_48 1 rfl ?_
      refine J_iload E dX6_liftByTwo_50 2 rfl ?_
      refine J_icmp_ge E 76 dX6_liftByTwo_52 (by decide) (fun c28 => ?_) (fun c28 => ?_)
      · refine J_iconst E 0 dX6_liftByTwo_76 (by decide) ?_
        exact J_zret E hr (Bd.z (Bd.lit 0 0 (by decide)) (by decide)) dX6_liftByTwo_77 ⟨rfl, rfl, ((Bd.lit 0 0 (by decide)).w 0 1 (by decide)), trivial⟩
      · refine J_iload E dX6_liftByTwo_55 0 rfl ?_
        refine J_iload E dX6_liftByTwo_57 2 rfl ?_
        refine J_icmp_ge E 76 dX6_liftByTwo_59 (by decide) (fun c29 => ?_) (fun c29 => ?_)
        · refine J_iconst E 0 dX6_liftByTwo_76 (by decide) ?_
          exact J_zret E hr (Bd.z (Bd.lit 0 0 (by decide)) (by decide)) dX6_liftByTwo_77 ⟨rfl, rfl, ((Bd.lit 0 0 (by decide)).w 0 1 (by decide)), trivial⟩
        · refine J_iload E dX6_liftByTwo_62 1 rfl ?_
          refine J_iload E dX6_liftByTwo_64 0 rfl ?_
          refine J_iadd E dX6_liftByTwo_66 (fun x30 e31 => ?_)
          refine J_iload E dX6_liftByTwo_67 2 rfl ?_
          refine J_icmp_lt E 76 dX6_liftByTwo_69 (by decide) (fun c32 => ?_) (fun c32 => ?_)
          · refine J_iconst E 0 dX6_liftByTwo_76 (by decide) ?_
            exact J_zret E hr (Bd.z (Bd.lit 0 0 (by decide)) (by decide)) dX6_liftByTwo_77 ⟨rfl, rfl, ((Bd.lit 0 0 (by decide)).w 0 1 (by decide)), trivial⟩
          · refine J_iconst E 1 dX6_liftByTwo_72 (by decide) ?_
            refine J_goto E 77 dX6_liftByTwo_73 (by decide) ?_
            exact J_zret E hr (Bd.z (Bd.lit 1 1 (by decide)) (by decide)) dX6_liftByTwo_77 ⟨rfl, rfl, ((Bd.lit 1 1 (by decide)).w 0 1 (by decide)), trivial⟩
    · have b33 : Bd x12 0 0 := Bd.eq_l c14 b13 (Bd.lit 0 0 (by decide)) 0 0 (by decide)
      refine J_iconst E 0 dX6_liftByTwo_22 (by decide) ?_
      exact J_zret E hr (Bd.z (Bd.lit 0 0 (by decide)) (by decide)) dX6_liftByTwo_23 ⟨rfl, rfl, ((Bd.lit 0 0 (by decide)).w 0 1 (by decide)), trivial⟩

abbrev rm_X6_giveIfFree : Room := { frames := 1, cells := 0, slots := 0, locals := 23 }
set_option maxHeartbeats 4000000 in
set_option maxRecDepth 100000 in
theorem ct_X6_giveIfFree (l : Launch) (D : va_G) (dA : Nat → ClassId) (G : Gm) (v : Mv) (w : Mw) (hOk : Ok G v w) (h0 : Nat) (S0 : S_X6 G h0) (h_0 : Nat) (S_0 : S_X2 G h_0) (x_1 : Int32) (x_2 : Int32) : CtV l yX6_giveIfFree cX6_giveIfFree 4 none rm_X6_giveIfFree D dA G [.ref h0, .ref h_0, .int x_1, .int x_2] v w (fun v1 w1 => Ok G v1 w1 ∧ Kp G v v1 ∧ Fr G [107] v v1) := by
  refine CtV.of RX6 [(0, .ref h0), (1, .ref h_0), (2, .int x_1), (3, .int x_2)] (Nat.le_of_ble_eq_true rfl) rfl (by decide) rfl ?_
  intro p e s m args below meth c E hr
  refine J_aload_n E dX6_giveIfFree_0 0 rfl ?_
  refine J_iload_n E dX6_giveIfFree_1 2 rfl ?_
  refine J_callVI E cal_X6_hasOne wd879 rfl (S_X6.h S0) [.int x_1] [] (ct_X6_hasOne l D dA G v w (hOk) h0 S0 x_1) rfl rfl (Nat.le_of_ble_eq_true rfl) ⟨rfl, rfl⟩ ⟨Nat.le_of_ble_eq_true rfl, Nat.le_of_ble_eq_true rfl⟩ dX6_giveIfFree_2 (fun x4 v1 w2 p3 => ?_)
  rw [p3.1, p3.2.1]
  have b5 : Bd x4 0 1 := p3.2.2.1
  refine J_if_eq E 51 dX6_giveIfFree_5 (by decide) (fun c6 => ?_) (fun c6 => ?_)
  · have b7 : Bd x4 0 0 := Bd.eq_l c6 b5 (Bd.lit 0 0 (by decide)) 0 0 (by decide)
    exact J_vret E hr dX6_giveIfFree_51 ⟨hOk, Kp.rf, Fr.rf⟩
  · have b8 : Bd x4 1 1 := (Bd.ne_lo c6 b5 (Bd.lit 0 0 (by decide))).w _ _ (by decide)
    have b9 : Bd x_1 0 6 := (p3.2.2.2).resolve_left c6
    refine J_aload_n E dX6_giveIfFree_8 1 rfl ?_
    refine J_iload_n E dX6_giveIfFree_9 2 rfl ?_
    refine J_callVNI E cal_X2_isHere wd496 rfl (S_X2.h S_0) [.int x_1] [] (ct_X2_isHere l D dA G v w (hOk) h_0 S_0 x_1 b9) rfl rfl (Nat.le_of_ble_eq_true rfl) ⟨rfl, rfl⟩ ⟨Nat.le_of_ble_eq_true rfl, Nat.le_of_ble_eq_true rfl⟩ dX6_giveIfFree_10 (fun x13 v10 w11 p12 => ?_)
    rw [p12.1, p12.2.1]
    have b14 : Bd x13 0 1 := p12.2.2.1
    refine J_if_eq E 51 dX6_giveIfFree_13 (by decide) (fun c15 => ?_) (fun c15 => ?_)
    · have b16 : Bd x13 0 0 := Bd.eq_l c15 b14 (Bd.lit 0 0 (by decide)) 0 0 (by decide)
      exact J_vret E hr dX6_giveIfFree_51 ⟨hOk, Kp.rf, Fr.rf⟩
    · have b17 : Bd x13 1 1 := (Bd.ne_lo c15 b14 (Bd.lit 0 0 (by decide))).w _ _ (by decide)
      refine J_aload_n E dX6_giveIfFree_16 1 rfl ?_
      refine J_getRN E in_X2 rfl (S_X2.h S_0) 1 (by decide) wd153 rfl dX6_giveIfFree_17 ?_
      refine J_iload_n E dX6_giveIfFree_20 2 rfl ?_
      refine J_iald1 E (S_X2.f1 S_0) (Bd.in b9 (by decide)) dX6_giveIfFree_21 (fun x18 e19 => ?_)
      refine J_iconst E (-1) dX6_giveIfFree_22 (by decide) ?_
      refine J_icmp_ne E 51 dX6_giveIfFree_23 (by decide) (fun c20 => ?_) (fun c20 => ?_)
      · exact J_vret E hr dX6_giveIfFree_51 ⟨hOk, Kp.rf, Fr.rf⟩
      · have b21 : Bd x18 (-1) (-1) := Bd.eq_l c20 (Bd.any x18) (Bd.lit (-1) (-1) (by decide)) (-1) (-1) (by decide)
        refine J_aload_n E dX6_giveIfFree_26 0 rfl ?_
        refine J_iload_n E dX6_giveIfFree_27 3 rfl ?_
        refine J_callVI E cal_X6_hasThing wd526 rfl (S_X6.h S0) [.int x_2] [] (ct_X6_hasThing l D dA G v w (hOk) h0 S0 x_2) rfl rfl (Nat.le_of_ble_eq_true rfl) ⟨rfl, rfl⟩ ⟨Nat.le_of_ble_eq_true rfl, Nat.le_of_ble_eq_true rfl⟩ dX6_giveIfFree_28 (fun x25 v22 w23 p24 => ?_)
        rw [p24.1, p24.2.1]
        have b26 : Bd x25 0 1 := p24.2.2.1
        refine J_if_eq E 51 dX6_giveIfFree_31 (by decide) (fun c27 => ?_) (fun c27 => ?_)
        · have b28 : Bd x25 0 0 := Bd.eq_l c27 b26 (Bd.lit 0 0 (by decide)) 0 0 (by decide)
          exact J_vret E hr dX6_giveIfFree_51 ⟨hOk, Kp.rf, Fr.rf⟩
        · have b29 : Bd x25 1 1 := (Bd.ne_lo c27 b26 (Bd.lit 0 0 (by decide))).w _ _ (by decide)
          have b30 : Bd x_2 0 6 := (p24.2.2.2).resolve_left c27
          refine J_aload_n E dX6_giveIfFree_34 0 rfl ?_
          refine J_aload_n E dX6_giveIfFree_35 1 rfl ?_
          refine J_iload_n E dX6_giveIfFree_36 3 rfl ?_
          refine J_callVI E cal_X6_ownerIn wd504 rfl (S_X6.h S0) [.ref h_0, .int x_2] [] (ct_X6_ownerIn l D dA G v w (hOk) h0 S0 h_0 S_0 x_2 b30) rfl rfl (Nat.le_of_ble_eq_true rfl) ⟨rfl, rfl⟩ ⟨Nat.le_of_ble_eq_true rfl, Nat.le_of_ble_eq_true rfl⟩ dX6_giveIfFree_37 (fun x34 v31 w32 p33 => ?_)
          rw [p33.1, p33.2.1]
          have b35 : Bd x34 (-1) 6 := p33.2.2.1
          refine J_iconst E (-1) dX6_giveIfFree_40 (by decide) ?_
          refine J_icmp_ne E 51 dX6_giveIfFree_41 (by decide) (fun c36 => ?_) (fun c36 => ?_)
          · have b37 : Bd x34 0 6 := (Bd.ne_lo c36 b35 (Bd.lit (-1) (-1) (by decide))).w _ _ (by decide)
            exact J_vret E hr dX6_giveIfFree_51 ⟨hOk, Kp.rf, Fr.rf⟩
          · have b38 : Bd x34 (-1) (-1) := Bd.eq_l c36 b35 (Bd.lit (-1) (-1) (by decide)) (-1) (-1) (by decide)
            refine J_aload_n E dX6_giveIfFree_44 1 rfl ?_
            refine J_getRN E in_X2 rfl (S_X2.h S_0) 1 (by decide) wd153 rfl dX6_giveIfFree_45 ?_
            refine J_iload_n E dX6_giveIfFree_48 2 rfl ?_
            refine J_iload_n E dX6_giveIfFree_49 3 rfl ?_
            refine J_iast1 E (S_X2.f1 S_0) (Bd.in b9 (by decide)) dX6_giveIfFree_50 (fun v39 e40 => ?_)
            have o41 : Ok G v39 w := by rw [e40]; exact Ok.sv hOk (S_X2.f1 S_0) b9 b30 0 7 (by decide) (by decide +kernel)
            have k42 : Kp G v v39 := by rw [e40]; exact Kp.sv Kp.rf (S_X2.f1 S_0) b9 0 7 0 6 (by decide) (by decide +kernel)
            have f43 : Fr G [107] v v39 := Fr.st Fr.rf e40 (S_X2.f1 S_0) rfl
            exact J_vret E hr dX6_giveIfFree_51 ⟨o41, k42, f43⟩

abbrev rm_X6_tenthsHeld : Room := { frames := 3, cells := 0, slots := 0, locals := 67 }
set_option maxHeartbeats 4000000 in
set_option maxRecDepth 100000 in
theorem ct_X6_tenthsHeld (l : Launch) (D : va_G) (dA : Nat → ClassId) (G : Gm) (v : Mv) (w : Mw) (hOk : Ok G v w) (h0 : Nat) (S0 : S_X6 G h0) (x_0 : Int32) (bx_0 : Bd x_0 0 6) (x_1 : Int32) (bx_1 : Bd x_1 0 5) (x_2 : Int32) (bx_2 : Bd x_2 0 10) : CtI l yX6_tenthsHeld cX6_tenthsHeld 7 (some .int) rm_X6_tenthsHeld D dA G [.ref h0, .int x_0, .int x_1, .int x_2] v w (fun r v1 w1 => v1 = v ∧ w1 = w ∧ Bd r 0 20 ∧ True) := by
  refine CtI.of RX6 [(0, .ref h0), (1, .int x_0), (2, .int x_1), (3, .int x_2)] (Nat.le_of_ble_eq_true rfl) rfl (by decide) rfl ?_
  intro p e s m args below meth c E hr
  have J54 : Bd x_2 0 10 → ∀ x2 : Int32, ∀ x3 : Int32, ∀ x4 : Int32, Bd x4 0 10 → J p l e rm_X6_tenthsHeld s m args below meth c 0 0 (MQ below (QcI D dA G (fun r v1 w1 => v1 = v ∧ w1 = w ∧ Bd r 0 20 ∧ True)) args s 0 0 (dm G)) D dA G (dm G) s.heap 7 v w [(3, .int x_2), (5, .int x2), (6, .int x3)] 54 [.int x4] := by
    intro b1 x2 x3 x4 b5
    refine J_iload E dX6_tenthsHeld_54 1 rfl ?_
    refine J_iload E dX6_tenthsHeld_56 2 rfl ?_
    refine J_iconst E 5 dX6_tenthsHeld_58 (by decide) ?_
    refine J_iadd E dX6_tenthsHeld_59 (fun x6 e7 => ?_)
    refine J_icmp_le E 67 dX6_tenthsHeld_60 (by decide) (fun c8 => ?_) (fun c8 => ?_)
    · refine J_iconst E 0 dX6_tenthsHeld_67 (by decide) ?_
      refine J_iadd E dX6_tenthsHeld_68 (fun x9 e10 => ?_)
      have b11 : Bd x9 0 10 := (Bd.add e10 b5 (Bd.lit 0 0 (by decide)) (by decide)).w _ _ (by decide)
      exact J_iret E hr dX6_tenthsHeld_69 ⟨rfl, rfl, (b11.w 0 20 (by decide)), trivial⟩
    · refine J_iload_n E dX6_tenthsHeld_63 0 rfl ?_
      refine J_goto E 68 dX6_tenthsHeld_64 (by decide) ?_
      refine J_iadd E dX6_tenthsHeld_68 (fun x12 e13 => ?_)
      have b14 : Bd x12 0 20 := (Bd.add e13 b5 b1 (by decide)).w _ _ (by decide)
      exact J_iret E hr dX6_tenthsHeld_69 ⟨rfl, rfl, b14, trivial⟩
  refine J_aload_n E dX6_tenthsHeld_0 0 rfl ?_
  refine J_getR E in_X6 rfl (S_X6.h S0) 6 (by decide) wd207 rfl dX6_tenthsHeld_1 ?_
  refine J_getRN E in_X2 rfl (S_X2.h (S_X6.f6 S0)) 1 (by decide) wd153 rfl dX6_tenthsHeld_4 ?_
  refine J_iload_n E dX6_tenthsHeld_7 1 rfl ?_
  refine J_iald1 E (S_X2.f1 (S_X6.f6 S0)) (Bd.in bx_0 (by decide)) dX6_tenthsHeld_8 (fun x15 e16 => ?_)
  refine J_istore E [(4, .int x15), (0, .ref h0), (1, .int x_0), (2, .int x_1), (3, .int x_2)] dX6_tenthsHeld_9 (by decide) rfl ?_
  refine J_aload_n E dX6_tenthsHeld_11 1 rfl ?_
  refine J_iload E dX6_tenthsHeld_12 0 rfl ?_
  refine J_callVI E cal_X6_hasThing wd526 rfl (S_X6.h S0) [.int x15] [] (ct_X6_hasThing l D dA G v w (hOk) h0 S0 x15) rfl rfl (Nat.le_of_ble_eq_true rfl) ⟨rfl, rfl⟩ ⟨Nat.le_of_ble_eq_true rfl, Nat.le_of_ble_eq_true rfl⟩ dX6_tenthsHeld_14 (fun x20 v17 w18 p19 => ?_)
  rw [p19.1, p19.2.1]
  have b21 : Bd x20 0 1 := p19.2.2.1
  refine J_if_ne E 22 dX6_tenthsHeld_17 (by decide) (fun c22 => ?_) (fun c22 => ?_)
  · have b23 : Bd x20 1 1 := (Bd.ne_lo c22 b21 (Bd.lit 0 0 (by decide))).w _ _ (by decide)
    have b24 : Bd x15 0 6 := (p19.2.2.2).resolve_left c22
    refine J_aload_n E dX6_tenthsHeld_22 1 rfl ?_
    refine J_iload E dX6_tenthsHeld_23 0 rfl ?_
    refine J_iload_n E dX6_tenthsHeld_25 3 rfl ?_
    refine J_callVI E cal_X6_weightOf wd603 rfl (S_X6.h S0) [.int x15, .int x_1] [] (ct_X6_weightOf l D dA G v w (hOk) h0 S0 x15 b24 x_1 (bx_1.w 0 60 (by decide))) rfl rfl (Nat.le_of_ble_eq_true rfl) ⟨rfl, rfl⟩ ⟨Nat.le_of_ble_eq_true rfl, Nat.le_of_ble_eq_true rfl⟩ dX6_tenthsHeld_26 (fun x28 v25 w26 p27 => ?_)
    rw [p27.1, p27.2.1]
    refine J_istore E [(5, .int x28), (4, .int x15), (0, .ref h0), (1, .int x_0), (2, .int x_1), (3, .int x_2)] dX6_tenthsHeld_29 (by decide) rfl ?_
    refine J_aload_n E dX6_tenthsHeld_31 2 rfl ?_
    refine J_iload_n E dX6_tenthsHeld_32 3 rfl ?_
    refine J_iload_n E dX6_tenthsHeld_33 4 rfl ?_
    refine J_callVI E cal_X6_liftOf wd607 rfl (S_X6.h S0) [.int x_0, .int x_1] [] (ct_X6_liftOf l D dA G v w (hOk) h0 S0 x_0 bx_0 x_1 (bx_1.w 0 60 (by decide))) rfl rfl (Nat.le_of_ble_eq_true rfl) ⟨rfl, rfl⟩ ⟨Nat.le_of_ble_eq_true rfl, Nat.le_of_ble_eq_true rfl⟩ dX6_tenthsHeld_34 (fun x32 v29 w30 p31 => ?_)
    rw [p31.1, p31.2.1]
    refine J_istore E [(6, .int x32), (5, .int x28), (4, .int x15), (0, .ref h0), (1, .int x_0), (2, .int x_1), (3, .int x_2)] dX6_tenthsHeld_37 (by decide) rfl ?_
    refine J_iload E dX6_tenthsHeld_39 1 rfl ?_
    refine J_iload E dX6_tenthsHeld_41 0 rfl ?_
    refine J_icmp_le E 53 dX6_tenthsHeld_43 (by decide) (fun c33 => ?_) (fun c33 => ?_)
    · refine J_iconst E 0 dX6_tenthsHeld_53 (by decide) ?_
      exact J.sub [6, 1, 0] rfl (J54 bx_2 x28 x32 0 ((Bd.lit 0 0 (by decide)).w 0 10 (by decide)))
    · refine J_bipush E 10 dX6_tenthsHeld_46 (by decide) ?_
      refine J_iload_n E dX6_tenthsHeld_48 6 rfl ?_
      refine J_isub E dX6_tenthsHeld_49 (fun x34 e35 => ?_)
      have b36 : Bd x34 0 10 := (Bd.sub e35 (Bd.lit 10 10 (by decide)) bx_2 (by decide)).w _ _ (by decide)
      refine J_goto E 54 dX6_tenthsHeld_50 (by decide) ?_
      exact J.sub [6, 1, 0] rfl (J54 bx_2 x28 x32 x34 b36)
  · have b37 : Bd x20 0 0 := Bd.eq_l c22 b21 (Bd.lit 0 0 (by decide)) 0 0 (by decide)
    refine J_iconst E 0 dX6_tenthsHeld_20 (by decide) ?_
    exact J_iret E hr dX6_tenthsHeld_21 ⟨rfl, rfl, ((Bd.lit 0 0 (by decide)).w 0 20 (by decide)), trivial⟩

abbrev rm_X6_fitsSeen : Room := { frames := 2, cells := 0, slots := 0, locals := 44 }
set_option maxHeartbeats 4000000 in
set_option maxRecDepth 100000 in
theorem ct_X6_fitsSeen (l : Launch) (D : va_G) (dA : Nat → ClassId) (G : Gm) (v : Mv) (w : Mw) (hOk : Ok G v w) (h0 : Nat) (S0 : S_X6 G h0) (x_0 : Int32) (bx_0 : Bd x_0 0 6) (x_1 : Int32) (bx_1 : Bd x_1 1 9) : CtI l yX6_fitsSeen cX6_fitsSeen 6 (some .boolean) rm_X6_fitsSeen D dA G [.ref h0, .int x_0, .int x_1] v w (fun r v1 w1 => v1 = v ∧ w1 = w ∧ Bd r 0 1 ∧ True) := by
  refine CtI.of RX6 [(0, .ref h0), (1, .int x_0), (2, .int x_1)] (Nat.le_of_ble_eq_true rfl) rfl (by decide) rfl ?_
  intro p e s m args below meth c E hr
  have J2 : ∀ n : Nat, Bd x_0 0 6 → Bd x_1 1 9 → ∀ x3 : Int32, Bd x3 0 5 → Mu x3 5 n → J p l e rm_X6_fitsSeen s m args below meth c 0 0 (MQ below (QcI D dA G (fun r v1 w1 => v1 = v ∧ w1 = w ∧ Bd r 0 1 ∧ True)) args s 0 0 (dm G)) D dA G (dm G) s.heap 6 v w [(0, .ref h0), (1, .int x_0), (2, .int x_1), (3, .int x3)] 2 [] := by
    intro n
    induction n with
    | zero => intro b1 b2 x3 b4 hm; exact hm.zero b4 (by decide)
    | succ n ih2 =>
      intro b1 b2 x3 b4 hmu2
      have J84 : Bd x_0 0 6 → Bd x_1 1 9 → Bd x3 0 4 → J p l e rm_X6_fitsSeen s m args below meth c 0 0 (MQ below (QcI D dA G (fun r v1 w1 => v1 = v ∧ w1 = w ∧ Bd r 0 1 ∧ True)) args s 0 0 (dm G)) D dA G (dm G) s.heap 6 v w [(0, .ref h0), (1, .int x_0), (2, .int x_1), (3, .int x3)] 84 [] := by
        intro b5 b6 b7
        refine J_iinc E 3 1 (fun z => [(3, .int z), (0, .ref h0), (1, .int x_0), (2, .int x_1)]) dX6_fitsSeen_84 rfl (by decide) (by decide) (fun _ => rfl) (fun x8 e9 => ?_)
        have b10 : Bd x8 1 5 := (Bd.add e9 b7 (Bd.lit 1 1 (by decide)) (by decide)).w _ _ (by decide)
        refine J_goto E 2 dX6_fitsSeen_87 (by decide) ?_
        exact J.sub [1, 2, 3, 0] rfl (ih2 b5 b6 x8 (b10.w 0 5 (by decide)) (Mu.step hmu2 e9 b7 (Bd.lit 1 1 (by decide)) (by decide)))
      have J66 : Bd x_0 0 6 → Bd x_1 1 9 → Bd x3 0 4 → ∀ x14 : Int32, Bd x14 0 1 → J p l e rm_X6_fitsSeen s m args below meth c 0 0 (MQ below (QcI D dA G (fun r v1 w1 => v1 = v ∧ w1 = w ∧ Bd r 0 1 ∧ True)) args s 0 0 (dm G)) D dA G (dm G) s.heap 6 v w [(0, .ref h0), (1, .int x_0), (2, .int x_1), (3, .int x3)] 66 [.int x14] := by
        intro b11 b12 b13 x14 b15
        refine J_istore E [(5, .int x14), (0, .ref h0), (1, .int x_0), (2, .int x_1), (3, .int x3)] dX6_fitsSeen_66 (by decide) rfl ?_
        refine J_iload E dX6_fitsSeen_68 0 rfl ?_
        refine J_aload_n E dX6_fitsSeen_70 1 rfl ?_
        refine J_getR E in_X6 rfl (S_X6.h S0) 9 (by decide) wd213 rfl dX6_fitsSeen_71 ?_
        refine J_iload_n E dX6_fitsSeen_74 4 rfl ?_
        refine J_iconst E 3 dX6_fitsSeen_75 (by decide) ?_
        refine J_callVNI E cal_X4_cell wd751 rfl (S_X4.h (S_X6.f9 S0)) [.int x3, .int 3] [.int x14] (ct_X4_cell_5 l D dA G v w (hOk) (rf G h0 9) (S_X6.f9 S0) x3 b13 3 ((Bd.lit 3 3 (by decide)).w 0 3 (by decide))) rfl rfl (Nat.le_of_ble_eq_true rfl) ⟨rfl, rfl⟩ ⟨Nat.le_of_ble_eq_true rfl, Nat.le_of_ble_eq_true rfl⟩ dX6_fitsSeen_76 (fun x19 v16 w17 p18 => ?_)
        rw [p18.1, p18.2.1]
        refine J_icmp_eq E 84 dX6_fitsSeen_79 (by decide) (fun c20 => ?_) (fun c20 => ?_)
        · have b21 : Bd x19 0 1 := Bd.eq_r c20 b15 (Bd.any x19) 0 1 (by decide)
          exact J.sub [1, 2, 3, 4] rfl (J84 b11 b12 b13)
        · refine J_iconst E 0 dX6_fitsSeen_82 (by decide) ?_
          exact J_zret E hr (Bd.z (Bd.lit 0 0 (by decide)) (by decide)) dX6_fitsSeen_83 ⟨rfl, rfl, ((Bd.lit 0 0 (by decide)).w 0 1 (by decide)), trivial⟩
      refine J_iload_n E dX6_fitsSeen_2 3 rfl ?_
      refine J_aload_n E dX6_fitsSeen_3 0 rfl ?_
      refine J_getR E in_X6 rfl (S_X6.h S0) 9 (by decide) wd213 rfl dX6_fitsSeen_4 ?_
      refine J_getIN E in_X4 rfl (S_X4.h (S_X6.f9 S0)) 2 (by decide) wd182 rfl dX6_fitsSeen_7 (fun x22 e23 => ?_)
      have b24 : Bd x22 0 5 := Ok.fd hOk e23 (S_X4.h (S_X6.f9 S0)) rfl
      refine J_icmp_ge E 90 dX6_fitsSeen_10 (by decide) (fun c25 => ?_) (fun c25 => ?_)
      · refine J_iconst E 1 dX6_fitsSeen_90 (by decide) ?_
        exact J_zret E hr (Bd.z (Bd.lit 1 1 (by decide)) (by decide)) dX6_fitsSeen_91 ⟨rfl, rfl, ((Bd.lit 1 1 (by decide)).w 0 1 (by decide)), trivial⟩
      · have b26 : Bd x3 0 4 := Bd.lt_l (nle c25) b4 b24 4 (by decide)
        have b27 : Bd x22 1 5 := Bd.lt_r (nle c25) b4 b24 1 (by decide)
        refine J_aload_n E dX6_fitsSeen_13 0 rfl ?_
        refine J_getR E in_X6 rfl (S_X6.h S0) 9 (by decide) wd213 rfl dX6_fitsSeen_14 ?_
        refine J_iload_n E dX6_fitsSeen_17 3 rfl ?_
        refine J_iconst E 0 dX6_fitsSeen_18 (by decide) ?_
        refine J_callVNI E cal_X4_cell wd751 rfl (S_X4.h (S_X6.f9 S0)) [.int x3, .int 0] [] (ct_X4_cell_5 l D dA G v w (hOk) (rf G h0 9) (S_X6.f9 S0) x3 b26 0 ((Bd.lit 0 0 (by decide)).w 0 3 (by decide))) rfl rfl (Nat.le_of_ble_eq_true rfl) ⟨rfl, rfl⟩ ⟨Nat.le_of_ble_eq_true rfl, Nat.le_of_ble_eq_true rfl⟩ dX6_fitsSeen_19 (fun x31 v28 w29 p30 => ?_)
        rw [p30.1, p30.2.1]
        refine J_iload_n E dX6_fitsSeen_22 1 rfl ?_
        refine J_icmp_ne E 84 dX6_fitsSeen_23 (by decide) (fun c32 => ?_) (fun c32 => ?_)
        · exact J.sub [0, 1, 2, 3] rfl (J84 b1 b2 b26)
        · have b33 : Bd x31 0 6 := Bd.eq_l c32 (Bd.any x31) b1 0 6 (by decide)
          refine J_aload_n E dX6_fitsSeen_26 0 rfl ?_
          refine J_getR E in_X6 rfl (S_X6.h S0) 4 (by decide) wd203 rfl dX6_fitsSeen_27 ?_
          refine J_iload_n E dX6_fitsSeen_30 1 rfl ?_
          refine J_iald1 E (S_X6.f4 S0) (Bd.in b1 (by decide)) dX6_fitsSeen_31 (fun x34 e35 => ?_)
          refine J_iload_n E dX6_fitsSeen_32 2 rfl ?_
          refine J_aload_n E dX6_fitsSeen_33 0 rfl ?_
          refine J_getR E in_X6 rfl (S_X6.h S0) 9 (by decide) wd213 rfl dX6_fitsSeen_34 ?_
          refine J_iload_n E dX6_fitsSeen_37 3 rfl ?_
          refine J_iconst E 1 dX6_fitsSeen_38 (by decide) ?_
          refine J_callVNI E cal_X4_cell wd751 rfl (S_X4.h (S_X6.f9 S0)) [.int x3, .int 1] [.int x_1, .int x34] (ct_X4_cell_5 l D dA G v w (hOk) (rf G h0 9) (S_X6.f9 S0) x3 b26 1 ((Bd.lit 1 1 (by decide)).w 0 3 (by decide))) rfl rfl (Nat.le_of_ble_eq_true rfl) ⟨rfl, rfl⟩ ⟨Nat.le_of_ble_eq_true rfl, Nat.le_of_ble_eq_true rfl⟩ dX6_fitsSeen_39 (fun x39 v36 w37 p38 => ?_)
          rw [p38.1, p38.2.1]
          refine J_callSNI E cal_X5_oneLifts wd542 [.int x34, .int x_1, .int x39] [] (ct_X5_oneLifts l D dA G v w (hOk) x34 x_1 x39) rfl rfl (Nat.le_of_ble_eq_true rfl) ⟨rfl, rfl⟩ ⟨Nat.le_of_ble_eq_true rfl, Nat.le_of_ble_eq_true rfl⟩ dX6_fitsSeen_42 (fun x43 v40 w41 p42 => ?_)
          rw [p42.1, p42.2.1]
          refine J_istore E [(4, .int x43), (0, .ref h0), (1, .int x_0), (2, .int x_1), (3, .int x3)] dX6_fitsSeen_45 (by decide) rfl ?_
          refine J_iload E dX6_fitsSeen_47 0 rfl ?_
          refine J_aload_n E dX6_fitsSeen_49 1 rfl ?_
          refine J_getR E in_X6 rfl (S_X6.h S0) 9 (by decide) wd213 rfl dX6_fitsSeen_50 ?_
          refine J_iload_n E dX6_fitsSeen_53 4 rfl ?_
          refine J_iconst E 2 dX6_fitsSeen_54 (by decide) ?_
          refine J_callVNI E cal_X4_cell wd751 rfl (S_X4.h (S_X6.f9 S0)) [.int x3, .int 2] [.int x43] (ct_X4_cell_5 l D dA G v w (hOk) (rf G h0 9) (S_X6.f9 S0) x3 b26 2 ((Bd.lit 2 2 (by decide)).w 0 3 (by decide))) rfl rfl (Nat.le_of_ble_eq_true rfl) ⟨rfl, rfl⟩ ⟨Nat.le_of_ble_eq_true rfl, Nat.le_of_ble_eq_true rfl⟩ dX6_fitsSeen_55 (fun x47 v44 w45 p46 => ?_)
          rw [p46.1, p46.2.1]
          refine J_icmp_lt E 65 dX6_fitsSeen_58 (by decide) (fun c48 => ?_) (fun c48 => ?_)
          · refine J_iconst E 0 dX6_fitsSeen_65 (by decide) ?_
            exact J.sub [1, 2, 3, 4] rfl (J66 b1 b2 b26 0 ((Bd.lit 0 0 (by decide)).w 0 1 (by decide)))
          · refine J_iconst E 1 dX6_fitsSeen_61 (by decide) ?_
            refine J_goto E 66 dX6_fitsSeen_62 (by decide) ?_
            exact J.sub [1, 2, 3, 4] rfl (J66 b1 b2 b26 1 ((Bd.lit 1 1 (by decide)).w 0 1 (by decide)))
  refine J_iconst E 0 dX6_fitsSeen_0 (by decide) ?_
  refine J_istore_n E [(3, .int 0), (0, .ref h0), (1, .int x_0), (2, .int x_1)] dX6_fitsSeen_1 rfl (by decide) rfl ?_
  exact J.sub [1, 2, 3, 0] rfl (J2 6 bx_0 bx_1 0 ((Bd.lit 0 0 (by decide)).w 0 5 (by decide)) (Mu.start _ (Bd.lit 0 0 (by decide)) (by decide)))

abbrev rm_X6_fittingStrengths : Room := { frames := 3, cells := 0, slots := 0, locals := 69 }
set_option maxHeartbeats 4000000 in
set_option maxRecDepth 100000 in
theorem ct_X6_fittingStrengths (l : Launch) (D : va_G) (dA : Nat → ClassId) (G : Gm) (v : Mv) (w : Mw) (hOk : Ok G v w) (h0 : Nat) (S0 : S_X6 G h0) (x_0 : Int32) (bx_0 : Bd x_0 0 6) : CtI l yX6_fittingStrengths cX6_fittingStrengths 4 (some .int) rm_X6_fittingStrengths D dA G [.ref h0, .int x_0] v w (fun r v1 w1 => v1 = v ∧ w1 = w ∧ Bd r 0 1023 ∧ True) := by
  refine CtI.of RX6 [(0, .ref h0), (1, .int x_0)] (Nat.le_of_ble_eq_true rfl) rfl (by decide) rfl ?_
  intro p e s m args below meth c E hr
  have J4 : ∀ n : Nat, Bd x_0 0 6 → ∀ x2 : Int32, Bd x2 0 1023 → ∀ x4 : Int32, Bd x4 1 10 → Mu x4 10 n → J p l e rm_X6_fittingStrengths s m args below meth c 0 0 (MQ below (QcI D dA G (fun r v1 w1 => v1 = v ∧ w1 = w ∧ Bd r 0 1023 ∧ True)) args s 0 0 (dm G)) D dA G (dm G) s.heap 4 v w [(0, .ref h0), (1, .int x_0), (2, .int x2), (3, .int x4)] 4 [] := by
    intro n
    induction n with
    | zero => intro b1 x2 b3 x4 b5 hm; exact hm.zero b5 (by decide)
    | succ n ih4 =>
      intro b1 x2 b3 x4 b5 hmu4
      have J25 : Bd x_0 0 6 → ∀ x7 : Int32, Bd x7 0 1023 → Bd x4 1 9 → J p l e rm_X6_fittingStrengths s m args below meth c 0 0 (MQ below (QcI D dA G (fun r v1 w1 => v1 = v ∧ w1 = w ∧ Bd r 0 1023 ∧ True)) args s 0 0 (dm G)) D dA G (dm G) s.heap 4 v w [(0, .ref h0), (1, .int x_0), (2, .int x7), (3, .int x4)] 25 [] := by
        intro b6 x7 b8 b9
        refine J_iinc E 3 1 (fun z => [(3, .int z), (0, .ref h0), (1, .int x_0), (2, .int x7)]) dX6_fittingStrengths_25 rfl (by decide) (by decide) (fun _ => rfl) (fun x10 e11 => ?_)
        have b12 : Bd x10 2 10 := (Bd.add e11 b9 (Bd.lit 1 1 (by decide)) (by decide)).w _ _ (by decide)
        refine J_goto E 4 dX6_fittingStrengths_28 (by decide) ?_
        exact J.sub [1, 2, 3, 0] rfl (ih4 b6 x7 b8 x10 (b12.w 1 10 (by decide)) (Mu.step hmu4 e11 b9 (Bd.lit 1 1 (by decide)) (by decide)))
      refine J_iload_n E dX6_fittingStrengths_4 3 rfl ?_
      refine J_bipush E 9 dX6_fittingStrengths_5 (by decide) ?_
      refine J_icmp_gt E 31 dX6_fittingStrengths_7 (by decide) (fun c13 => ?_) (fun c13 => ?_)
      · have b14 : Bd x4 10 10 := Bd.lt_r c13 (Bd.lit 9 9 (by decide)) b5 10 (by decide)
        refine J_iload_n E dX6_fittingStrengths_31 2 rfl ?_
        exact J_iret E hr dX6_fittingStrengths_32 ⟨rfl, rfl, b3, trivial⟩
      · have b15 : Bd x4 1 9 := Bd.le_l (nlt c13) b5 (Bd.lit 9 9 (by decide)) 9 (by decide)
        refine J_aload_n E dX6_fittingStrengths_10 0 rfl ?_
        refine J_iload_n E dX6_fittingStrengths_11 1 rfl ?_
        refine J_iload_n E dX6_fittingStrengths_12 3 rfl ?_
        refine J_callVI E cal_X6_fitsSeen wd747 rfl (S_X6.h S0) [.int x_0, .int x4] [] (ct_X6_fitsSeen l D dA G v w (hOk) h0 S0 x_0 b1 x4 b15) rfl rfl (Nat.le_of_ble_eq_true rfl) ⟨rfl, rfl⟩ ⟨Nat.le_of_ble_eq_true rfl, Nat.le_of_ble_eq_true rfl⟩ dX6_fittingStrengths_13 (fun x19 v16 w17 p18 => ?_)
        rw [p18.1, p18.2.1]
        have b20 : Bd x19 0 1 := p18.2.2.1
        refine J_if_eq E 25 dX6_fittingStrengths_16 (by decide) (fun c21 => ?_) (fun c21 => ?_)
        · have b22 : Bd x19 0 0 := Bd.eq_l c21 b20 (Bd.lit 0 0 (by decide)) 0 0 (by decide)
          exact J.sub [0, 1, 2, 3] rfl (J25 b1 x2 b3 b15)
        · have b23 : Bd x19 1 1 := (Bd.ne_lo c21 b20 (Bd.lit 0 0 (by decide))).w _ _ (by decide)
          refine J_iload_n E dX6_fittingStrengths_19 2 rfl ?_
          refine J_iconst E 1 dX6_fittingStrengths_20 (by decide) ?_
          refine J_iload_n E dX6_fittingStrengths_21 3 rfl ?_
          refine J_ishl E dX6_fittingStrengths_22 (fun x24 e25 => ?_)
          have b26 : Bd x24 1 512 := Bd.shl1 e25 b15 9 (by decide)
          refine J_ior E dX6_fittingStrengths_23 (fun x27 e28 => ?_)
          have b29 : Bd x27 0 1023 := Bd.or e28 b3 b26 10 (by decide)
          refine J_istore_n E [(2, .int x27), (0, .ref h0), (1, .int x_0), (3, .int x4)] dX6_fittingStrengths_24 rfl (by decide) rfl ?_
          exact J.sub [1, 2, 0, 3] rfl (J25 b1 x27 b29 b15)
  refine J_iconst E 0 dX6_fittingStrengths_0 (by decide) ?_
  refine J_istore_n E [(2, .int 0), (0, .ref h0), (1, .int x_0)] dX6_fittingStrengths_1 rfl (by decide) rfl ?_
  refine J_iconst E 1 dX6_fittingStrengths_2 (by decide) ?_
  refine J_istore_n E [(3, .int 1), (2, .int 0), (0, .ref h0), (1, .int x_0)] dX6_fittingStrengths_3 rfl (by decide) rfl ?_
  exact J.sub [2, 3, 1, 0] rfl (J4 10 bx_0 0 ((Bd.lit 0 0 (by decide)).w 0 1023 (by decide)) 1 ((Bd.lit 1 1 (by decide)).w 1 10 (by decide)) (Mu.start _ (Bd.lit 1 1 (by decide)) (by decide)))

abbrev rm_X6_fitsNotes : Room := { frames := 2, cells := 0, slots := 0, locals := 43 }
set_option maxHeartbeats 4000000 in
set_option maxRecDepth 100000 in
theorem ct_X6_fitsNotes (l : Launch) (D : va_G) (dA : Nat → ClassId) (G : Gm) (v : Mv) (w : Mw) (hOk : Ok G v w) (h0 : Nat) (S0 : S_X6 G h0) (x_0 : Int32) (bx_0 : Bd x_0 0 6) (x_1 : Int32) (bx_1 : Bd x_1 0 5) : CtI l yX6_fitsNotes cX6_fitsNotes 4 (some .boolean) rm_X6_fitsNotes D dA G [.ref h0, .int x_0, .int x_1] v w (fun r v1 w1 => v1 = v ∧ w1 = w ∧ Bd r 0 1 ∧ True) := by
  refine CtI.of RX6 [(0, .ref h0), (1, .int x_0), (2, .int x_1)] (Nat.le_of_ble_eq_true rfl) rfl (by decide) rfl ?_
  intro p e s m args below meth c E hr
  have J2 : ∀ n : Nat, Bd x_0 0 6 → Bd x_1 0 5 → ∀ x3 : Int32, Bd x3 0 6 → Mu x3 6 n → J p l e rm_X6_fitsNotes s m args below meth c 0 0 (MQ below (QcI D dA G (fun r v1 w1 => v1 = v ∧ w1 = w ∧ Bd r 0 1 ∧ True)) args s 0 0 (dm G)) D dA G (dm G) s.heap 4 v w [(0, .ref h0), (1, .int x_0), (2, .int x_1), (3, .int x3)] 2 [] := by
    intro n
    induction n with
    | zero => intro b1 b2 x3 b4 hm; exact hm.zero b4 (by decide)
    | succ n ih2 =>
      intro b1 b2 x3 b4 hmu2
      have J62 : Bd x_0 0 6 → Bd x_1 0 5 → Bd x3 0 5 → J p l e rm_X6_fitsNotes s m args below meth c 0 0 (MQ below (QcI D dA G (fun r v1 w1 => v1 = v ∧ w1 = w ∧ Bd r 0 1 ∧ True)) args s 0 0 (dm G)) D dA G (dm G) s.heap 4 v w [(0, .ref h0), (1, .int x_0), (2, .int x_1), (3, .int x3)] 62 [] := by
        intro b5 b6 b7
        refine J_iinc E 3 1 (fun z => [(3, .int z), (0, .ref h0), (1, .int x_0), (2, .int x_1)]) dX6_fitsNotes_62 rfl (by decide) (by decide) (fun _ => rfl) (fun x8 e9 => ?_)
        have b10 : Bd x8 1 6 := (Bd.add e9 b7 (Bd.lit 1 1 (by decide)) (by decide)).w _ _ (by decide)
        refine J_goto E 2 dX6_fitsNotes_65 (by decide) ?_
        exact J.sub [1, 2, 3, 0] rfl (ih2 b5 b6 x8 (b10.w 0 6 (by decide)) (Mu.step hmu2 e9 b7 (Bd.lit 1 1 (by decide)) (by decide)))
      refine J_iload_n E dX6_fitsNotes_2 3 rfl ?_
      refine J_aload_n E dX6_fitsNotes_3 0 rfl ?_
      refine J_getR E in_X6 rfl (S_X6.h S0) 10 (by decide) wd215 rfl dX6_fitsNotes_4 ?_
      refine J_getIN E in_X4 rfl (S_X4.h (S_X6.f10 S0)) 2 (by decide) wd182 rfl dX6_fitsNotes_7 (fun x11 e12 => ?_)
      have b13 : Bd x11 0 6 := Ok.fd hOk e12 (S_X4.h (S_X6.f10 S0)) rfl
      refine J_icmp_ge E 68 dX6_fitsNotes_10 (by decide) (fun c14 => ?_) (fun c14 => ?_)
      · refine J_iconst E 1 dX6_fitsNotes_68 (by decide) ?_
        exact J_zret E hr (Bd.z (Bd.lit 1 1 (by decide)) (by decide)) dX6_fitsNotes_69 ⟨rfl, rfl, ((Bd.lit 1 1 (by decide)).w 0 1 (by decide)), trivial⟩
      · have b15 : Bd x3 0 5 := Bd.lt_l (nle c14) b4 b13 5 (by decide)
        have b16 : Bd x11 1 6 := Bd.lt_r (nle c14) b4 b13 1 (by decide)
        refine J_aload_n E dX6_fitsNotes_13 0 rfl ?_
        refine J_getR E in_X6 rfl (S_X6.h S0) 10 (by decide) wd215 rfl dX6_fitsNotes_14 ?_
        refine J_iload_n E dX6_fitsNotes_17 3 rfl ?_
        refine J_iconst E 0 dX6_fitsNotes_18 (by decide) ?_
        refine J_callVNI E cal_X4_cell wd751 rfl (S_X4.h (S_X6.f10 S0)) [.int x3, .int 0] [] (ct_X4_cell_6 l D dA G v w (hOk) (rf G h0 10) (S_X6.f10 S0) x3 b15 0 ((Bd.lit 0 0 (by decide)).w 0 3 (by decide))) rfl rfl (Nat.le_of_ble_eq_true rfl) ⟨rfl, rfl⟩ ⟨Nat.le_of_ble_eq_true rfl, Nat.le_of_ble_eq_true rfl⟩ dX6_fitsNotes_19 (fun x20 v17 w18 p19 => ?_)
        rw [p19.1, p19.2.1]
        refine J_iload_n E dX6_fitsNotes_22 1 rfl ?_
        refine J_icmp_ne E 62 dX6_fitsNotes_23 (by decide) (fun c21 => ?_) (fun c21 => ?_)
        · exact J.sub [0, 1, 2, 3] rfl (J62 b1 b2 b15)
        · have b22 : Bd x20 0 6 := Bd.eq_l c21 (Bd.any x20) b1 0 6 (by decide)
          refine J_aload_n E dX6_fitsNotes_26 0 rfl ?_
          refine J_getR E in_X6 rfl (S_X6.h S0) 10 (by decide) wd215 rfl dX6_fitsNotes_27 ?_
          refine J_iload_n E dX6_fitsNotes_30 3 rfl ?_
          refine J_iconst E 3 dX6_fitsNotes_31 (by decide) ?_
          refine J_callVNI E cal_X4_cell wd751 rfl (S_X4.h (S_X6.f10 S0)) [.int x3, .int 3] [] (ct_X4_cell_6 l D dA G v w (hOk) (rf G h0 10) (S_X6.f10 S0) x3 b15 3 ((Bd.lit 3 3 (by decide)).w 0 3 (by decide))) rfl rfl (Nat.le_of_ble_eq_true rfl) ⟨rfl, rfl⟩ ⟨Nat.le_of_ble_eq_true rfl, Nat.le_of_ble_eq_true rfl⟩ dX6_fitsNotes_32 (fun x26 v23 w24 p25 => ?_)
          rw [p25.1, p25.2.1]
          refine J_iload_n E dX6_fitsNotes_35 2 rfl ?_
          refine J_aload_n E dX6_fitsNotes_36 0 rfl ?_
          refine J_getR E in_X6 rfl (S_X6.h S0) 10 (by decide) wd215 rfl dX6_fitsNotes_37 ?_
          refine J_iload_n E dX6_fitsNotes_40 3 rfl ?_
          refine J_iconst E 1 dX6_fitsNotes_41 (by decide) ?_
          refine J_callVNI E cal_X4_cell wd751 rfl (S_X4.h (S_X6.f10 S0)) [.int x3, .int 1] [.int x_1, .int x26] (ct_X4_cell_6 l D dA G v w (hOk) (rf G h0 10) (S_X6.f10 S0) x3 b15 1 ((Bd.lit 1 1 (by decide)).w 0 3 (by decide))) rfl rfl (Nat.le_of_ble_eq_true rfl) ⟨rfl, rfl⟩ ⟨Nat.le_of_ble_eq_true rfl, Nat.le_of_ble_eq_true rfl⟩ dX6_fitsNotes_42 (fun x30 v27 w28 p29 => ?_)
          rw [p29.1, p29.2.1]
          refine J_aload_n E dX6_fitsNotes_45 0 rfl ?_
          refine J_getR E in_X6 rfl (S_X6.h S0) 10 (by decide) wd215 rfl dX6_fitsNotes_46 ?_
          refine J_iload_n E dX6_fitsNotes_49 3 rfl ?_
          refine J_iconst E 2 dX6_fitsNotes_50 (by decide) ?_
          refine J_callVNI E cal_X4_cell wd751 rfl (S_X4.h (S_X6.f10 S0)) [.int x3, .int 2] [.int x30, .int x_1, .int x26] (ct_X4_cell_6 l D dA G v w (hOk) (rf G h0 10) (S_X6.f10 S0) x3 b15 2 ((Bd.lit 2 2 (by decide)).w 0 3 (by decide))) rfl rfl (Nat.le_of_ble_eq_true rfl) ⟨rfl, rfl⟩ ⟨Nat.le_of_ble_eq_true rfl, Nat.le_of_ble_eq_true rfl⟩ dX6_fitsNotes_51 (fun x34 v31 w32 p33 => ?_)
          rw [p33.1, p33.2.1]
          refine J_callSNI E cal_X5_thingWeighs wd530 [.int x_1, .int x30, .int x34] [.int x26] (ct_X5_thingWeighs l D dA G v w (hOk) x_1 x30 x34) rfl rfl (Nat.le_of_ble_eq_true rfl) ⟨rfl, rfl⟩ ⟨Nat.le_of_ble_eq_true rfl, Nat.le_of_ble_eq_true rfl⟩ dX6_fitsNotes_54 (fun x38 v35 w36 p37 => ?_)
          rw [p37.1, p37.2.1]
          refine J_icmp_eq E 62 dX6_fitsNotes_57 (by decide) (fun c39 => ?_) (fun c39 => ?_)
          · exact J.sub [0, 1, 2, 3] rfl (J62 b1 b2 b15)
          · refine J_iconst E 0 dX6_fitsNotes_60 (by decide) ?_
            exact J_zret E hr (Bd.z (Bd.lit 0 0 (by decide)) (by decide)) dX6_fitsNotes_61 ⟨rfl, rfl, ((Bd.lit 0 0 (by decide)).w 0 1 (by decide)), trivial⟩
  refine J_iconst E 0 dX6_fitsNotes_0 (by decide) ?_
  refine J_istore_n E [(3, .int 0), (0, .ref h0), (1, .int x_0), (2, .int x_1)] dX6_fitsNotes_1 rfl (by decide) rfl ?_
  exact J.sub [1, 2, 3, 0] rfl (J2 7 bx_0 bx_1 0 ((Bd.lit 0 0 (by decide)).w 0 6 (by decide)) (Mu.start _ (Bd.lit 0 0 (by decide)) (by decide)))

abbrev rm_X6_fittingThingKinds : Room := { frames := 3, cells := 0, slots := 0, locals := 66 }
set_option maxHeartbeats 4000000 in
set_option maxRecDepth 100000 in
theorem ct_X6_fittingThingKinds (l : Launch) (D : va_G) (dA : Nat → ClassId) (G : Gm) (v : Mv) (w : Mw) (hOk : Ok G v w) (h0 : Nat) (S0 : S_X6 G h0) (x_0 : Int32) (bx_0 : Bd x_0 0 6) : CtI l yX6_fittingThingKinds cX6_fittingThingKinds 4 (some .int) rm_X6_fittingThingKinds D dA G [.ref h0, .int x_0] v w (fun r v1 w1 => v1 = v ∧ w1 = w ∧ Bd r 0 63 ∧ True) := by
  refine CtI.of RX6 [(0, .ref h0), (1, .int x_0)] (Nat.le_of_ble_eq_true rfl) rfl (by decide) rfl ?_
  intro p e s m args below meth c E hr
  have J4 : ∀ n : Nat, Bd x_0 0 6 → ∀ x2 : Int32, Bd x2 0 63 → ∀ x4 : Int32, Bd x4 0 6 → Mu x4 6 n → J p l e rm_X6_fittingThingKinds s m args below meth c 0 0 (MQ below (QcI D dA G (fun r v1 w1 => v1 = v ∧ w1 = w ∧ Bd r 0 63 ∧ True)) args s 0 0 (dm G)) D dA G (dm G) s.heap 4 v w [(0, .ref h0), (1, .int x_0), (2, .int x2), (3, .int x4)] 4 [] := by
    intro n
    induction n with
    | zero => intro b1 x2 b3 x4 b5 hm; exact hm.zero b5 (by decide)
    | succ n ih4 =>
      intro b1 x2 b3 x4 b5 hmu4
      have J25 : Bd x_0 0 6 → ∀ x7 : Int32, Bd x7 0 63 → Bd x4 0 5 → J p l e rm_X6_fittingThingKinds s m args below meth c 0 0 (MQ below (QcI D dA G (fun r v1 w1 => v1 = v ∧ w1 = w ∧ Bd r 0 63 ∧ True)) args s 0 0 (dm G)) D dA G (dm G) s.heap 4 v w [(0, .ref h0), (1, .int x_0), (2, .int x7), (3, .int x4)] 25 [] := by
        intro b6 x7 b8 b9
        refine J_iinc E 3 1 (fun z => [(3, .int z), (0, .ref h0), (1, .int x_0), (2, .int x7)]) dX6_fittingThingKinds_25 rfl (by decide) (by decide) (fun _ => rfl) (fun x10 e11 => ?_)
        have b12 : Bd x10 1 6 := (Bd.add e11 b9 (Bd.lit 1 1 (by decide)) (by decide)).w _ _ (by decide)
        refine J_goto E 4 dX6_fittingThingKinds_28 (by decide) ?_
        exact J.sub [1, 2, 3, 0] rfl (ih4 b6 x7 b8 x10 (b12.w 0 6 (by decide)) (Mu.step hmu4 e11 b9 (Bd.lit 1 1 (by decide)) (by decide)))
      refine J_iload_n E dX6_fittingThingKinds_4 3 rfl ?_
      refine J_bipush E 6 dX6_fittingThingKinds_5 (by decide) ?_
      refine J_icmp_ge E 31 dX6_fittingThingKinds_7 (by decide) (fun c13 => ?_) (fun c13 => ?_)
      · have b14 : Bd x4 6 6 := Bd.le_r c13 (Bd.lit 6 6 (by decide)) b5 6 (by decide)
        refine J_iload_n E dX6_fittingThingKinds_31 2 rfl ?_
        exact J_iret E hr dX6_fittingThingKinds_32 ⟨rfl, rfl, b3, trivial⟩
      · have b15 : Bd x4 0 5 := Bd.lt_l (nle c13) b5 (Bd.lit 6 6 (by decide)) 5 (by decide)
        refine J_aload_n E dX6_fittingThingKinds_10 0 rfl ?_
        refine J_iload_n E dX6_fittingThingKinds_11 1 rfl ?_
        refine J_iload_n E dX6_fittingThingKinds_12 3 rfl ?_
        refine J_callVI E cal_X6_fitsNotes wd801 rfl (S_X6.h S0) [.int x_0, .int x4] [] (ct_X6_fitsNotes l D dA G v w (hOk) h0 S0 x_0 b1 x4 b15) rfl rfl (Nat.le_of_ble_eq_true rfl) ⟨rfl, rfl⟩ ⟨Nat.le_of_ble_eq_true rfl, Nat.le_of_ble_eq_true rfl⟩ dX6_fittingThingKinds_13 (fun x19 v16 w17 p18 => ?_)
        rw [p18.1, p18.2.1]
        have b20 : Bd x19 0 1 := p18.2.2.1
        refine J_if_eq E 25 dX6_fittingThingKinds_16 (by decide) (fun c21 => ?_) (fun c21 => ?_)
        · have b22 : Bd x19 0 0 := Bd.eq_l c21 b20 (Bd.lit 0 0 (by decide)) 0 0 (by decide)
          exact J.sub [0, 1, 2, 3] rfl (J25 b1 x2 b3 b15)
        · have b23 : Bd x19 1 1 := (Bd.ne_lo c21 b20 (Bd.lit 0 0 (by decide))).w _ _ (by decide)
          refine J_iload_n E dX6_fittingThingKinds_19 2 rfl ?_
          refine J_iconst E 1 dX6_fittingThingKinds_20 (by decide) ?_
          refine J_iload_n E dX6_fittingThingKinds_21 3 rfl ?_
          refine J_ishl E dX6_fittingThingKinds_22 (fun x24 e25 => ?_)
          have b26 : Bd x24 1 32 := Bd.shl1 e25 b15 5 (by decide)
          refine J_ior E dX6_fittingThingKinds_23 (fun x27 e28 => ?_)
          have b29 : Bd x27 0 63 := Bd.or e28 b3 b26 6 (by decide)
          refine J_istore_n E [(2, .int x27), (0, .ref h0), (1, .int x_0), (3, .int x4)] dX6_fittingThingKinds_24 rfl (by decide) rfl ?_
          exact J.sub [1, 2, 0, 3] rfl (J25 b1 x27 b29 b15)
  refine J_iconst E 0 dX6_fittingThingKinds_0 (by decide) ?_
  refine J_istore_n E [(2, .int 0), (0, .ref h0), (1, .int x_0)] dX6_fittingThingKinds_1 rfl (by decide) rfl ?_
  refine J_iconst E 0 dX6_fittingThingKinds_2 (by decide) ?_
  refine J_istore_n E [(3, .int 0), (2, .int 0), (0, .ref h0), (1, .int x_0)] dX6_fittingThingKinds_3 rfl (by decide) rfl ?_
  exact J.sub [2, 3, 1, 0] rfl (J4 7 bx_0 0 ((Bd.lit 0 0 (by decide)).w 0 63 (by decide)) 0 ((Bd.lit 0 0 (by decide)).w 0 6 (by decide)) (Mu.start _ (Bd.lit 0 0 (by decide)) (by decide)))

abbrev rm_X6_fitsMarks : Room := { frames := 2, cells := 0, slots := 0, locals := 44 }
set_option maxHeartbeats 4000000 in
set_option maxRecDepth 100000 in
theorem ct_X6_fitsMarks (l : Launch) (D : va_G) (dA : Nat → ClassId) (G : Gm) (v : Mv) (w : Mw) (hOk : Ok G v w) (h0 : Nat) (S0 : S_X6 G h0) (x_0 : Int32) (bx_0 : Bd x_0 0 6) (x_1 : Int32) (bx_1 : Bd x_1 0 5) : CtI l yX6_fitsMarks cX6_fitsMarks 4 (some .boolean) rm_X6_fitsMarks D dA G [.ref h0, .int x_0, .int x_1] v w (fun r v1 w1 => v1 = v ∧ w1 = w ∧ Bd r 0 1 ∧ True) := by
  refine CtI.of RX6 [(0, .ref h0), (1, .int x_0), (2, .int x_1)] (Nat.le_of_ble_eq_true rfl) rfl (by decide) rfl ?_
  intro p e s m args below meth c E hr
  have J2 : ∀ n : Nat, Bd x_0 0 6 → Bd x_1 0 5 → ∀ x3 : Int32, Bd x3 0 6 → Mu x3 6 n → J p l e rm_X6_fitsMarks s m args below meth c 0 0 (MQ below (QcI D dA G (fun r v1 w1 => v1 = v ∧ w1 = w ∧ Bd r 0 1 ∧ True)) args s 0 0 (dm G)) D dA G (dm G) s.heap 4 v w [(0, .ref h0), (1, .int x_0), (2, .int x_1), (3, .int x3)] 2 [] := by
    intro n
    induction n with
    | zero => intro b1 b2 x3 b4 hm; exact hm.zero b4 (by decide)
    | succ n ih2 =>
      intro b1 b2 x3 b4 hmu2
      have J62 : Bd x_0 0 6 → Bd x_1 0 5 → Bd x3 0 5 → J p l e rm_X6_fitsMarks s m args below meth c 0 0 (MQ below (QcI D dA G (fun r v1 w1 => v1 = v ∧ w1 = w ∧ Bd r 0 1 ∧ True)) args s 0 0 (dm G)) D dA G (dm G) s.heap 4 v w [(0, .ref h0), (1, .int x_0), (2, .int x_1), (3, .int x3)] 62 [] := by
        intro b5 b6 b7
        refine J_iinc E 3 1 (fun z => [(3, .int z), (0, .ref h0), (1, .int x_0), (2, .int x_1)]) dX6_fitsMarks_62 rfl (by decide) (by decide) (fun _ => rfl) (fun x8 e9 => ?_)
        have b10 : Bd x8 1 6 := (Bd.add e9 b7 (Bd.lit 1 1 (by decide)) (by decide)).w _ _ (by decide)
        refine J_goto E 2 dX6_fitsMarks_65 (by decide) ?_
        exact J.sub [1, 2, 3, 0] rfl (ih2 b5 b6 x8 (b10.w 0 6 (by decide)) (Mu.step hmu2 e9 b7 (Bd.lit 1 1 (by decide)) (by decide)))
      refine J_iload_n E dX6_fitsMarks_2 3 rfl ?_
      refine J_aload_n E dX6_fitsMarks_3 0 rfl ?_
      refine J_getR E in_X6 rfl (S_X6.h S0) 11 (by decide) wd217 rfl dX6_fitsMarks_4 ?_
      refine J_getIN E in_X4 rfl (S_X4.h (S_X6.f11 S0)) 2 (by decide) wd182 rfl dX6_fitsMarks_7 (fun x11 e12 => ?_)
      have b13 : Bd x11 0 6 := Ok.fd hOk e12 (S_X4.h (S_X6.f11 S0)) rfl
      refine J_icmp_ge E 68 dX6_fitsMarks_10 (by decide) (fun c14 => ?_) (fun c14 => ?_)
      · refine J_iconst E 1 dX6_fitsMarks_68 (by decide) ?_
        exact J_zret E hr (Bd.z (Bd.lit 1 1 (by decide)) (by decide)) dX6_fitsMarks_69 ⟨rfl, rfl, ((Bd.lit 1 1 (by decide)).w 0 1 (by decide)), trivial⟩
      · have b15 : Bd x3 0 5 := Bd.lt_l (nle c14) b4 b13 5 (by decide)
        have b16 : Bd x11 1 6 := Bd.lt_r (nle c14) b4 b13 1 (by decide)
        refine J_aload_n E dX6_fitsMarks_13 0 rfl ?_
        refine J_getR E in_X6 rfl (S_X6.h S0) 11 (by decide) wd217 rfl dX6_fitsMarks_14 ?_
        refine J_iload_n E dX6_fitsMarks_17 3 rfl ?_
        refine J_iconst E 0 dX6_fitsMarks_18 (by decide) ?_
        refine J_callVNI E cal_X4_cell wd751 rfl (S_X4.h (S_X6.f11 S0)) [.int x3, .int 0] [] (ct_X4_cell_6 l D dA G v w (hOk) (rf G h0 11) (S_X6.f11 S0) x3 b15 0 ((Bd.lit 0 0 (by decide)).w 0 3 (by decide))) rfl rfl (Nat.le_of_ble_eq_true rfl) ⟨rfl, rfl⟩ ⟨Nat.le_of_ble_eq_true rfl, Nat.le_of_ble_eq_true rfl⟩ dX6_fitsMarks_19 (fun x20 v17 w18 p19 => ?_)
        rw [p19.1, p19.2.1]
        refine J_iload_n E dX6_fitsMarks_22 1 rfl ?_
        refine J_icmp_ne E 62 dX6_fitsMarks_23 (by decide) (fun c21 => ?_) (fun c21 => ?_)
        · exact J.sub [0, 1, 2, 3] rfl (J62 b1 b2 b15)
        · have b22 : Bd x20 0 6 := Bd.eq_l c21 (Bd.any x20) b1 0 6 (by decide)
          refine J_aload_n E dX6_fitsMarks_26 0 rfl ?_
          refine J_getR E in_X6 rfl (S_X6.h S0) 11 (by decide) wd217 rfl dX6_fitsMarks_27 ?_
          refine J_iload_n E dX6_fitsMarks_30 3 rfl ?_
          refine J_iconst E 3 dX6_fitsMarks_31 (by decide) ?_
          refine J_callVNI E cal_X4_cell wd751 rfl (S_X4.h (S_X6.f11 S0)) [.int x3, .int 3] [] (ct_X4_cell_6 l D dA G v w (hOk) (rf G h0 11) (S_X6.f11 S0) x3 b15 3 ((Bd.lit 3 3 (by decide)).w 0 3 (by decide))) rfl rfl (Nat.le_of_ble_eq_true rfl) ⟨rfl, rfl⟩ ⟨Nat.le_of_ble_eq_true rfl, Nat.le_of_ble_eq_true rfl⟩ dX6_fitsMarks_32 (fun x26 v23 w24 p25 => ?_)
          rw [p25.1, p25.2.1]
          refine J_iload_n E dX6_fitsMarks_35 2 rfl ?_
          refine J_aload_n E dX6_fitsMarks_36 0 rfl ?_
          refine J_getR E in_X6 rfl (S_X6.h S0) 11 (by decide) wd217 rfl dX6_fitsMarks_37 ?_
          refine J_iload_n E dX6_fitsMarks_40 3 rfl ?_
          refine J_iconst E 1 dX6_fitsMarks_41 (by decide) ?_
          refine J_callVNI E cal_X4_cell wd751 rfl (S_X4.h (S_X6.f11 S0)) [.int x3, .int 1] [.int x_1, .int x26] (ct_X4_cell_6 l D dA G v w (hOk) (rf G h0 11) (S_X6.f11 S0) x3 b15 1 ((Bd.lit 1 1 (by decide)).w 0 3 (by decide))) rfl rfl (Nat.le_of_ble_eq_true rfl) ⟨rfl, rfl⟩ ⟨Nat.le_of_ble_eq_true rfl, Nat.le_of_ble_eq_true rfl⟩ dX6_fitsMarks_42 (fun x30 v27 w28 p29 => ?_)
          rw [p29.1, p29.2.1]
          refine J_aload_n E dX6_fitsMarks_45 0 rfl ?_
          refine J_getR E in_X6 rfl (S_X6.h S0) 11 (by decide) wd217 rfl dX6_fitsMarks_46 ?_
          refine J_iload_n E dX6_fitsMarks_49 3 rfl ?_
          refine J_iconst E 2 dX6_fitsMarks_50 (by decide) ?_
          refine J_callVNI E cal_X4_cell wd751 rfl (S_X4.h (S_X6.f11 S0)) [.int x3, .int 2] [.int x30, .int x_1, .int x26] (ct_X4_cell_6 l D dA G v w (hOk) (rf G h0 11) (S_X6.f11 S0) x3 b15 2 ((Bd.lit 2 2 (by decide)).w 0 3 (by decide))) rfl rfl (Nat.le_of_ble_eq_true rfl) ⟨rfl, rfl⟩ ⟨Nat.le_of_ble_eq_true rfl, Nat.le_of_ble_eq_true rfl⟩ dX6_fitsMarks_51 (fun x34 v31 w32 p33 => ?_)
          rw [p33.1, p33.2.1]
          refine J_callSNI E cal_X5_oneLifts wd542 [.int x_1, .int x30, .int x34] [.int x26] (ct_X5_oneLifts l D dA G v w (hOk) x_1 x30 x34) rfl rfl (Nat.le_of_ble_eq_true rfl) ⟨rfl, rfl⟩ ⟨Nat.le_of_ble_eq_true rfl, Nat.le_of_ble_eq_true rfl⟩ dX6_fitsMarks_54 (fun x38 v35 w36 p37 => ?_)
          rw [p37.1, p37.2.1]
          refine J_icmp_eq E 62 dX6_fitsMarks_57 (by decide) (fun c39 => ?_) (fun c39 => ?_)
          · exact J.sub [0, 1, 2, 3] rfl (J62 b1 b2 b15)
          · refine J_iconst E 0 dX6_fitsMarks_60 (by decide) ?_
            exact J_zret E hr (Bd.z (Bd.lit 0 0 (by decide)) (by decide)) dX6_fitsMarks_61 ⟨rfl, rfl, ((Bd.lit 0 0 (by decide)).w 0 1 (by decide)), trivial⟩
  refine J_iconst E 0 dX6_fitsMarks_0 (by decide) ?_
  refine J_istore_n E [(3, .int 0), (0, .ref h0), (1, .int x_0), (2, .int x_1)] dX6_fitsMarks_1 rfl (by decide) rfl ?_
  exact J.sub [1, 2, 3, 0] rfl (J2 7 bx_0 bx_1 0 ((Bd.lit 0 0 (by decide)).w 0 6 (by decide)) (Mu.start _ (Bd.lit 0 0 (by decide)) (by decide)))

abbrev rm_X6_fittingOneKinds : Room := { frames := 3, cells := 0, slots := 0, locals := 67 }
set_option maxHeartbeats 4000000 in
set_option maxRecDepth 100000 in
theorem ct_X6_fittingOneKinds (l : Launch) (D : va_G) (dA : Nat → ClassId) (G : Gm) (v : Mv) (w : Mw) (hOk : Ok G v w) (h0 : Nat) (S0 : S_X6 G h0) (x_0 : Int32) (bx_0 : Bd x_0 0 6) : CtI l yX6_fittingOneKinds cX6_fittingOneKinds 4 (some .int) rm_X6_fittingOneKinds D dA G [.ref h0, .int x_0] v w (fun r v1 w1 => v1 = v ∧ w1 = w ∧ Bd r 0 63 ∧ True) := by
  refine CtI.of RX6 [(0, .ref h0), (1, .int x_0)] (Nat.le_of_ble_eq_true rfl) rfl (by decide) rfl ?_
  intro p e s m args below meth c E hr
  have J4 : ∀ n : Nat, Bd x_0 0 6 → ∀ x2 : Int32, Bd x2 0 63 → ∀ x4 : Int32, Bd x4 0 6 → Mu x4 6 n → J p l e rm_X6_fittingOneKinds s m args below meth c 0 0 (MQ below (QcI D dA G (fun r v1 w1 => v1 = v ∧ w1 = w ∧ Bd r 0 63 ∧ True)) args s 0 0 (dm G)) D dA G (dm G) s.heap 4 v w [(0, .ref h0), (1, .int x_0), (2, .int x2), (3, .int x4)] 4 [] := by
    intro n
    induction n with
    | zero => intro b1 x2 b3 x4 b5 hm; exact hm.zero b5 (by decide)
    | succ n ih4 =>
      intro b1 x2 b3 x4 b5 hmu4
      have J25 : Bd x_0 0 6 → ∀ x7 : Int32, Bd x7 0 63 → Bd x4 0 5 → J p l e rm_X6_fittingOneKinds s m args below meth c 0 0 (MQ below (QcI D dA G (fun r v1 w1 => v1 = v ∧ w1 = w ∧ Bd r 0 63 ∧ True)) args s 0 0 (dm G)) D dA G (dm G) s.heap 4 v w [(0, .ref h0), (1, .int x_0), (2, .int x7), (3, .int x4)] 25 [] := by
        intro b6 x7 b8 b9
        refine J_iinc E 3 1 (fun z => [(3, .int z), (0, .ref h0), (1, .int x_0), (2, .int x7)]) dX6_fittingOneKinds_25 rfl (by decide) (by decide) (fun _ => rfl) (fun x10 e11 => ?_)
        have b12 : Bd x10 1 6 := (Bd.add e11 b9 (Bd.lit 1 1 (by decide)) (by decide)).w _ _ (by decide)
        refine J_goto E 4 dX6_fittingOneKinds_28 (by decide) ?_
        exact J.sub [1, 2, 3, 0] rfl (ih4 b6 x7 b8 x10 (b12.w 0 6 (by decide)) (Mu.step hmu4 e11 b9 (Bd.lit 1 1 (by decide)) (by decide)))
      refine J_iload_n E dX6_fittingOneKinds_4 3 rfl ?_
      refine J_bipush E 6 dX6_fittingOneKinds_5 (by decide) ?_
      refine J_icmp_ge E 31 dX6_fittingOneKinds_7 (by decide) (fun c13 => ?_) (fun c13 => ?_)
      · have b14 : Bd x4 6 6 := Bd.le_r c13 (Bd.lit 6 6 (by decide)) b5 6 (by decide)
        refine J_iload_n E dX6_fittingOneKinds_31 2 rfl ?_
        exact J_iret E hr dX6_fittingOneKinds_32 ⟨rfl, rfl, b3, trivial⟩
      · have b15 : Bd x4 0 5 := Bd.lt_l (nle c13) b5 (Bd.lit 6 6 (by decide)) 5 (by decide)
        refine J_aload_n E dX6_fittingOneKinds_10 0 rfl ?_
        refine J_iload_n E dX6_fittingOneKinds_11 1 rfl ?_
        refine J_iload_n E dX6_fittingOneKinds_12 3 rfl ?_
        refine J_callVI E cal_X6_fitsMarks wd826 rfl (S_X6.h S0) [.int x_0, .int x4] [] (ct_X6_fitsMarks l D dA G v w (hOk) h0 S0 x_0 b1 x4 b15) rfl rfl (Nat.le_of_ble_eq_true rfl) ⟨rfl, rfl⟩ ⟨Nat.le_of_ble_eq_true rfl, Nat.le_of_ble_eq_true rfl⟩ dX6_fittingOneKinds_13 (fun x19 v16 w17 p18 => ?_)
        rw [p18.1, p18.2.1]
        have b20 : Bd x19 0 1 := p18.2.2.1
        refine J_if_eq E 25 dX6_fittingOneKinds_16 (by decide) (fun c21 => ?_) (fun c21 => ?_)
        · have b22 : Bd x19 0 0 := Bd.eq_l c21 b20 (Bd.lit 0 0 (by decide)) 0 0 (by decide)
          exact J.sub [0, 1, 2, 3] rfl (J25 b1 x2 b3 b15)
        · have b23 : Bd x19 1 1 := (Bd.ne_lo c21 b20 (Bd.lit 0 0 (by decide))).w _ _ (by decide)
          refine J_iload_n E dX6_fittingOneKinds_19 2 rfl ?_
          refine J_iconst E 1 dX6_fittingOneKinds_20 (by decide) ?_
          refine J_iload_n E dX6_fittingOneKinds_21 3 rfl ?_
          refine J_ishl E dX6_fittingOneKinds_22 (fun x24 e25 => ?_)
          have b26 : Bd x24 1 32 := Bd.shl1 e25 b15 5 (by decide)
          refine J_ior E dX6_fittingOneKinds_23 (fun x27 e28 => ?_)
          have b29 : Bd x27 0 63 := Bd.or e28 b3 b26 6 (by decide)
          refine J_istore_n E [(2, .int x27), (0, .ref h0), (1, .int x_0), (3, .int x4)] dX6_fittingOneKinds_24 rfl (by decide) rfl ?_
          exact J.sub [1, 2, 0, 3] rfl (J25 b1 x27 b29 b15)
  refine J_iconst E 0 dX6_fittingOneKinds_0 (by decide) ?_
  refine J_istore_n E [(2, .int 0), (0, .ref h0), (1, .int x_0)] dX6_fittingOneKinds_1 rfl (by decide) rfl ?_
  refine J_iconst E 0 dX6_fittingOneKinds_2 (by decide) ?_
  refine J_istore_n E [(3, .int 0), (2, .int 0), (0, .ref h0), (1, .int x_0)] dX6_fittingOneKinds_3 rfl (by decide) rfl ?_
  exact J.sub [2, 3, 1, 0] rfl (J4 7 bx_0 0 ((Bd.lit 0 0 (by decide)).w 0 63 (by decide)) 0 ((Bd.lit 0 0 (by decide)).w 0 6 (by decide)) (Mu.start _ (Bd.lit 0 0 (by decide)) (by decide)))

abbrev rm_X6_mixInto : Room := { frames := 2, cells := 0, slots := 0, locals := 43 }
set_option maxHeartbeats 4000000 in
set_option maxRecDepth 100000 in
theorem ct_X6_mixInto (l : Launch) (D : va_G) (dA : Nat → ClassId) (G : Gm) (v : Mv) (w : Mw) (hOk : Ok G v w) (h0 : Nat) (S0 : S_X6 G h0) (y_0 : Int64) : CtL l yX6_mixInto cX6_mixInto 7 (some .long) rm_X6_mixInto D dA G [.ref h0, .long y_0] v w (fun _ v1 w1 => v1 = v ∧ w1 = w ∧ True) := by
  refine CtL.of RX6 [(0, .ref h0), (1, .long y_0)] (Nat.le_of_ble_eq_true rfl) rfl (by decide) rfl ?_
  intro p e s m args below meth c E hr
  have J53 : ∀ n : Nat, ∀ y1 : Int64, ∀ x2 : Int32, Bd x2 0 7 → Mu x2 7 n → J p l e rm_X6_mixInto s m args below meth c 0 0 (MQ below (QcL D dA G (fun _ v1 w1 => v1 = v ∧ w1 = w ∧ True)) args s 0 0 (dm G)) D dA G (dm G) s.heap 7 v w [(0, .ref h0), (3, .long y1), (5, .int x2)] 53 [] := by
    intro n
    induction n with
    | zero => intro y1 x2 b3 hm; exact hm.zero b3 (by decide)
    | succ n ih53 =>
      intro y1 x2 b3 hmu53
      have J65 : ∀ n : Nat, ∀ y4 : Int64, Bd x2 0 6 → ∀ x6 : Int32, Bd x6 0 5 → Mu x6 5 n → J p l e rm_X6_mixInto s m args below meth c 0 0 (MQ below (QcL D dA G (fun _ v1 w1 => v1 = v ∧ w1 = w ∧ True)) args s 0 0 (dm G)) D dA G (dm G) s.heap 7 v w [(0, .ref h0), (3, .long y4), (5, .int x2), (6, .int x6)] 65 [] := by
        intro n
        induction n with
        | zero => intro y4 b5 x6 b7 hm; exact hm.zero b7 (by decide)
        | succ n ih65 =>
          intro y4 b5 x6 b7 hmu65
          refine J_iload E dX6_mixInto_65 3 rfl ?_
          refine J_iconst E 4 dX6_mixInto_67 (by decide) ?_
          refine J_icmp_gt E 93 dX6_mixInto_68 (by decide) (fun c8 => ?_) (fun c8 => ?_)
          · have b9 : Bd x6 5 5 := Bd.lt_r c8 (Bd.lit 4 4 (by decide)) b7 5 (by decide)
            refine J_iinc E 2 1 (fun z => [(5, .int z), (0, .ref h0), (3, .long y4), (6, .int x6)]) dX6_mixInto_93 rfl (by decide) (by decide) (fun _ => rfl) (fun x10 e11 => ?_)
            have b12 : Bd x10 1 7 := (Bd.add e11 b5 (Bd.lit 1 1 (by decide)) (by decide)).w _ _ (by decide)
            refine J_goto E 53 dX6_mixInto_96 (by decide) ?_
            exact J.sub [1, 2, 0] rfl (ih53 y4 x10 (b12.w 0 7 (by decide)) (Mu.step hmu53 e11 b5 (Bd.lit 1 1 (by decide)) (by decide)))
          · have b13 : Bd x6 0 4 := Bd.le_l (nlt c8) b7 (Bd.lit 4 4 (by decide)) 4 (by decide)
            refine J_ldc2 E wd918 dX6_mixInto_71 ?_
            refine J_lload_n E dX6_mixInto_74 1 rfl ?_
            refine J_lmul E dX6_mixInto_75 (fun y14 e15 => ?_)
            refine J_aload_n E dX6_mixInto_76 0 rfl ?_
            refine J_iload E dX6_mixInto_77 2 rfl ?_
            refine J_iload E dX6_mixInto_79 3 rfl ?_
            refine J_callVI E cal_X6_factOfOne wd919 rfl (S_X6.h S0) [.int x2, .int x6] [.long y14] (ct_X6_factOfOne l D dA G v w (hOk) h0 S0 x2 b5 x6 b13) rfl rfl (Nat.le_of_ble_eq_true rfl) ⟨rfl, rfl⟩ ⟨Nat.le_of_ble_eq_true rfl, Nat.le_of_ble_eq_true rfl⟩ dX6_mixInto_81 (fun x19 v16 w17 p18 => ?_)
            rw [p18.1, p18.2.1]
            refine J_i2l E dX6_mixInto_84 (fun y20 e21 => ?_)
            refine J_ladd E dX6_mixInto_85 (fun y22 e23 => ?_)
            refine J_lstore_n E [(3, .long y22), (0, .ref h0), (5, .int x2), (6, .int x6)] dX6_mixInto_86 rfl (by decide) rfl ?_
            refine J_iinc E 3 1 (fun z => [(6, .int z), (3, .long y22), (0, .ref h0), (5, .int x2)]) dX6_mixInto_87 rfl (by decide) (by decide) (fun _ => rfl) (fun x24 e25 => ?_)
            have b26 : Bd x24 1 5 := (Bd.add e25 b13 (Bd.lit 1 1 (by decide)) (by decide)).w _ _ (by decide)
            refine J_goto E 65 dX6_mixInto_90 (by decide) ?_
            exact J.sub [2, 1, 3, 0] rfl (ih65 y22 b5 x24 (b26.w 0 5 (by decide)) (Mu.step hmu65 e25 b13 (Bd.lit 1 1 (by decide)) (by decide)))
      refine J_iload E dX6_mixInto_53 2 rfl ?_
      refine J_aload_n E dX6_mixInto_55 0 rfl ?_
      refine J_getI E in_X6 rfl (S_X6.h S0) 3 (by decide) wd201 rfl dX6_mixInto_56 (fun x27 e28 => ?_)
      have b29 : Bd x27 0 7 := Ok.fd hOk e28 (S_X6.h S0) rfl
      refine J_icmp_ge E 99 dX6_mixInto_59 (by decide) (fun c30 => ?_) (fun c30 => ?_)
      · refine J_aload_n E dX6_mixInto_99 0 rfl ?_
        refine J_getR E in_X6 rfl (S_X6.h S0) 9 (by decide) wd213 rfl dX6_mixInto_100 ?_
        refine J_lload_n E dX6_mixInto_103 1 rfl ?_
        refine J_callVNL E cal_X4_mixInto wd920 rfl (S_X4.h (S_X6.f9 S0)) [.long y1] [] (ct_X4_mixInto_5 l D dA G v w (hOk) (rf G h0 9) (S_X6.f9 S0) y1) rfl rfl (Nat.le_of_ble_eq_true rfl) ⟨rfl, rfl⟩ ⟨Nat.le_of_ble_eq_true rfl, Nat.le_of_ble_eq_true rfl⟩ dX6_mixInto_104 (fun y34 v31 w32 p33 => ?_)
        rw [p33.1, p33.2.1]
        refine J_lstore_n E [(3, .long y34), (0, .ref h0), (5, .int x2)] dX6_mixInto_107 rfl (by decide) rfl ?_
        refine J_aload_n E dX6_mixInto_108 1 rfl ?_
        refine J_getR E in_X6 rfl (S_X6.h S0) 10 (by decide) wd215 rfl dX6_mixInto_109 ?_
        refine J_lload_n E dX6_mixInto_112 0 rfl ?_
        refine J_callVNL E cal_X4_mixInto wd920 rfl (S_X4.h (S_X6.f10 S0)) [.long y34] [] (ct_X4_mixInto_6 l D dA G v w (hOk) (rf G h0 10) (S_X6.f10 S0) y34) rfl rfl (Nat.le_of_ble_eq_true rfl) ⟨rfl, rfl⟩ ⟨Nat.le_of_ble_eq_true rfl, Nat.le_of_ble_eq_true rfl⟩ dX6_mixInto_113 (fun y38 v35 w36 p37 => ?_)
        rw [p37.1, p37.2.1]
        refine J_lstore_n E [(3, .long y38), (0, .ref h0), (5, .int x2)] dX6_mixInto_116 rfl (by decide) rfl ?_
        refine J_aload_n E dX6_mixInto_117 1 rfl ?_
        refine J_getR E in_X6 rfl (S_X6.h S0) 11 (by decide) wd217 rfl dX6_mixInto_118 ?_
        refine J_lload_n E dX6_mixInto_121 0 rfl ?_
        refine J_callVNL E cal_X4_mixInto wd920 rfl (S_X4.h (S_X6.f11 S0)) [.long y38] [] (ct_X4_mixInto_6 l D dA G v w (hOk) (rf G h0 11) (S_X6.f11 S0) y38) rfl rfl (Nat.le_of_ble_eq_true rfl) ⟨rfl, rfl⟩ ⟨Nat.le_of_ble_eq_true rfl, Nat.le_of_ble_eq_true rfl⟩ dX6_mixInto_122 (fun y42 v39 w40 p41 => ?_)
        rw [p41.1, p41.2.1]
        exact J_lret E hr dX6_mixInto_125 ⟨rfl, rfl, trivial⟩
      · have b43 : Bd x2 0 6 := Bd.lt_l (nle c30) b3 b29 6 (by decide)
        have b44 : Bd x27 1 7 := Bd.lt_r (nle c30) b3 b29 1 (by decide)
        refine J_iconst E 0 dX6_mixInto_62 (by decide) ?_
        refine J_istore E [(6, .int 0), (0, .ref h0), (3, .long y1), (5, .int x2)] dX6_mixInto_63 (by decide) rfl ?_
        exact J.sub [1, 2, 3, 0] rfl (J65 6 y1 b43 0 ((Bd.lit 0 0 (by decide)).w 0 5 (by decide)) (Mu.start _ (Bd.lit 0 0 (by decide)) (by decide)))
  have J5 : ∀ n : Nat, ∀ y45 : Int64, ∀ x46 : Int32, Bd x46 0 7 → Mu x46 7 n → J p l e rm_X6_mixInto s m args below meth c 0 0 (MQ below (QcL D dA G (fun _ v1 w1 => v1 = v ∧ w1 = w ∧ True)) args s 0 0 (dm G)) D dA G (dm G) s.heap 7 v w [(0, .ref h0), (3, .long y45), (5, .int x46)] 5 [] := by
    intro n
    induction n with
    | zero => intro y45 x46 b47 hm; exact hm.zero b47 (by decide)
    | succ n ih5 =>
      intro y45 x46 b47 hmu5
      refine J_iload E dX6_mixInto_5 2 rfl ?_
      refine J_aload_n E dX6_mixInto_7 0 rfl ?_
      refine J_getI E in_X6 rfl (S_X6.h S0) 0 (by decide) wd191 rfl dX6_mixInto_8 (fun x48 e49 => ?_)
      have b50 : Bd x48 0 7 := Ok.fd hOk e49 (S_X6.h S0) rfl
      refine J_icmp_ge E 50 dX6_mixInto_11 (by decide) (fun c51 => ?_) (fun c51 => ?_)
      · refine J_iconst E 0 dX6_mixInto_50 (by decide) ?_
        refine J_istore E [(5, .int 0), (0, .ref h0), (3, .long y45)] dX6_mixInto_51 (by decide) rfl ?_
        exact J.sub [1, 2, 0] rfl (J53 8 y45 0 ((Bd.lit 0 0 (by decide)).w 0 7 (by decide)) (Mu.start _ (Bd.lit 0 0 (by decide)) (by decide)))
      · have b52 : Bd x46 0 6 := Bd.lt_l (nle c51) b47 b50 6 (by decide)
        have b53 : Bd x48 1 7 := Bd.lt_r (nle c51) b47 b50 1 (by decide)
        refine J_ldc2 E wd918 dX6_mixInto_14 ?_
        refine J_lload_n E dX6_mixInto_17 1 rfl ?_
        refine J_lmul E dX6_mixInto_18 (fun y54 e55 => ?_)
        refine J_aload_n E dX6_mixInto_19 0 rfl ?_
        refine J_getR E in_X6 rfl (S_X6.h S0) 1 (by decide) wd195 rfl dX6_mixInto_20 ?_
        refine J_iload E dX6_mixInto_23 2 rfl ?_
        refine J_iald1 E (S_X6.f1 S0) (Bd.in b52 (by decide)) dX6_mixInto_25 (fun x56 e57 => ?_)
        refine J_i2l E dX6_mixInto_26 (fun y58 e59 => ?_)
        refine J_ladd E dX6_mixInto_27 (fun y60 e61 => ?_)
        refine J_lstore_n E [(3, .long y60), (0, .ref h0), (5, .int x46)] dX6_mixInto_28 rfl (by decide) rfl ?_
        refine J_ldc2 E wd918 dX6_mixInto_29 ?_
        refine J_lload_n E dX6_mixInto_32 0 rfl ?_
        refine J_lmul E dX6_mixInto_33 (fun y62 e63 => ?_)
        refine J_aload_n E dX6_mixInto_34 1 rfl ?_
        refine J_getR E in_X6 rfl (S_X6.h S0) 2 (by decide) wd197 rfl dX6_mixInto_35 ?_
        refine J_iload E dX6_mixInto_38 2 rfl ?_
        refine J_iald1 E (S_X6.f2 S0) (Bd.in b52 (by decide)) dX6_mixInto_40 (fun x64 e65 => ?_)
        refine J_i2l E dX6_mixInto_41 (fun y66 e67 => ?_)
        refine J_ladd E dX6_mixInto_42 (fun y68 e69 => ?_)
        refine J_lstore_n E [(3, .long y68), (0, .ref h0), (5, .int x46)] dX6_mixInto_43 rfl (by decide) rfl ?_
        refine J_iinc E 2 1 (fun z => [(5, .int z), (3, .long y68), (0, .ref h0)]) dX6_mixInto_44 rfl (by decide) (by decide) (fun _ => rfl) (fun x70 e71 => ?_)
        have b72 : Bd x70 1 7 := (Bd.add e71 b52 (Bd.lit 1 1 (by decide)) (by decide)).w _ _ (by decide)
        refine J_goto E 5 dX6_mixInto_47 (by decide) ?_
        exact J.sub [2, 1, 0] rfl (ih5 y68 x70 (b72.w 0 7 (by decide)) (Mu.step hmu5 e71 b52 (Bd.lit 1 1 (by decide)) (by decide)))
  refine J_lload_n E dX6_mixInto_0 1 rfl ?_
  refine J_lstore_n E [(3, .long y_0), (0, .ref h0), (1, .long y_0)] dX6_mixInto_1 rfl (by decide) rfl ?_
  refine J_iconst E 0 dX6_mixInto_2 (by decide) ?_
  refine J_istore E [(5, .int 0), (3, .long y_0), (0, .ref h0), (1, .long y_0)] dX6_mixInto_3 (by decide) rfl ?_
  exact J.sub [2, 1, 0] rfl (J5 8 y_0 0 ((Bd.lit 0 0 (by decide)).w 0 7 (by decide)) (Mu.start _ (Bd.lit 0 0 (by decide)) (by decide)))

abbrev rm_X7_people : Room := { frames := 2, cells := 0, slots := 0, locals := 41 }
set_option maxHeartbeats 4000000 in
set_option maxRecDepth 100000 in
theorem ct_X7_people (l : Launch) (D : va_G) (dA : Nat → ClassId) (G : Gm) (v : Mv) (w : Mw) (hOk : Ok G v w) (h0 : Nat) (S0 : S_X7 G h0) : CtI l yX7_people cX7_people 2 (some .int) rm_X7_people D dA G [.ref h0] v w (fun r v1 w1 => Ok G v1 w1 ∧ Kp G v v1 ∧ Bd r 0 7 ∧ Fr G [2, 4, 6] v v1) := by
  refine CtI.of RX7 [(0, .ref h0)] (Nat.le_of_ble_eq_true rfl) rfl (by decide) rfl ?_
  intro p e s m args below meth c E hr
  refine J_aload_n E dX7_people_0 0 rfl ?_
  refine J_getR E in_X7 rfl (S_X7.h S0) 0 (by decide) wd308 rfl dX7_people_1 ?_
  refine J_getIN E in_X6 rfl (S_X6.h (S_X7.f0 S0)) 3 (by decide) wd200 rfl dX7_people_4 (fun x1 e2 => ?_)
  have b3 : Bd x1 0 7 := Ok.fd hOk e2 (S_X6.h (S_X7.f0 S0)) rfl
  refine J_istore_n E [(1, .int x1), (0, .ref h0)] dX7_people_7 rfl (by decide) rfl ?_
  refine J_aload_n E dX7_people_8 1 rfl ?_
  refine J_getR E in_X7 rfl (S_X7.h S0) 0 (by decide) wd308 rfl dX7_people_9 ?_
  refine J_callVNV E cal_X6_startAnew wd349 rfl (S_X6.h (S_X7.f0 S0)) [] [] (ct_X6_startAnew l D dA G v w (hOk) (rf G h0 0) (S_X7.f0 S0)) rfl rfl (Nat.le_of_ble_eq_true rfl) ⟨rfl, rfl⟩ ⟨Nat.le_of_ble_eq_true rfl, Nat.le_of_ble_eq_true rfl⟩ dX7_people_12 (fun v4 w5 p6 => ?_)
  have o8 := p6.1
  have k9 : Kp G v v4 := (Kp.rf).tr p6.2.1
  have f10 : Fr G [2, 4, 6] v v4 := Fr.tr Fr.rf (p6.2.2) (by decide)
  refine J_iload_n E dX7_people_15 0 rfl ?_
  exact J_iret E hr dX7_people_16 ⟨o8, k9, b3, f10⟩

abbrev rm_X7_bad : Room := { frames := 0, cells := 0, slots := 0, locals := 0 }
set_option maxHeartbeats 4000000 in
set_option maxRecDepth 100000 in
theorem ct_X7_bad (l : Launch) (D : va_G) (dA : Nat → ClassId) (G : Gm) (v : Mv) (w : Mw) (hOk : Ok G v w) (h0 : Nat) (S0 : S_X7 G h0) : CtI l yX7_bad cX7_bad 1 (some .int) rm_X7_bad D dA G [.ref h0] v w (fun r v1 w1 => Ok G v1 w1 ∧ Kp G v v1 ∧ Bd r (-2) (-2) ∧ Fr G [7] v v1) := by
  refine CtI.of RX7 [(0, .ref h0)] (Nat.le_of_ble_eq_true rfl) rfl (by decide) rfl ?_
  intro p e s m args below meth c E hr
  refine J_aload_n E dX7_bad_0 0 rfl ?_
  refine J_dup E dX7_bad_1 rfl ?_
  refine J_getI E in_X7 rfl (S_X7.h S0) 9 (by decide) wd317 rfl dX7_bad_2 (fun x1 e2 => ?_)
  refine J_iconst E 1 dX7_bad_5 (by decide) ?_
  refine J_iadd E dX7_bad_6 (fun x3 e4 => ?_)
  refine J_pI E in_X7 rfl (S_X7.h S0) 9 (by decide) wd317 tyX7 tyX7_ok nmX7 rfl rfl .int (by decide +kernel) rfl rfl dX7_bad_7 (fun v5 e6 => ?_)
  have o7 : Ok G v5 w := Ok.pf hOk e6 (S_X7.h S0) rfl (Bd.any x3)
  have k8 : Kp G v v5 := Kp.pf Kp.rf e6 (S_X7.h S0) rfl
  have f9 : Fr G [7] v v5 := Fr.st Fr.rf e6 (S_X7.h S0) rfl
  have e10 : x3 = v5 h0 9 := by rw [e6, stv_s]
  refine J_bipush E (-2) dX7_bad_10 (by decide) ?_
  exact J_iret E hr dX7_bad_12 ⟨o7, k8, (Bd.lit (-2) (-2) (by decide)), f9⟩

abbrev rm_X7_full : Room := { frames := 0, cells := 0, slots := 0, locals := 0 }
set_option maxHeartbeats 4000000 in
set_option maxRecDepth 100000 in
theorem ct_X7_full (l : Launch) (D : va_G) (dA : Nat → ClassId) (G : Gm) (v : Mv) (w : Mw) (hOk : Ok G v w) (h0 : Nat) (S0 : S_X7 G h0) : CtI l yX7_full cX7_full 1 (some .int) rm_X7_full D dA G [.ref h0] v w (fun r v1 w1 => Ok G v1 w1 ∧ Kp G v v1 ∧ Bd r (-4) (-4) ∧ Fr G [7] v v1) := by
  refine CtI.of RX7 [(0, .ref h0)] (Nat.le_of_ble_eq_true rfl) rfl (by decide) rfl ?_
  intro p e s m args below meth c E hr
  refine J_aload_n E dX7_full_0 0 rfl ?_
  refine J_dup E dX7_full_1 rfl ?_
  refine J_getI E in_X7 rfl (S_X7.h S0) 11 (by decide) wd319 rfl dX7_full_2 (fun x1 e2 => ?_)
  refine J_iconst E 1 dX7_full_5 (by decide) ?_
  refine J_iadd E dX7_full_6 (fun x3 e4 => ?_)
  refine J_pI E in_X7 rfl (S_X7.h S0) 11 (by decide) wd319 tyX7 tyX7_ok nmX7 rfl rfl .int (by decide +kernel) rfl rfl dX7_full_7 (fun v5 e6 => ?_)
  have o7 : Ok G v5 w := Ok.pf hOk e6 (S_X7.h S0) rfl (Bd.any x3)
  have k8 : Kp G v v5 := Kp.pf Kp.rf e6 (S_X7.h S0) rfl
  have f9 : Fr G [7] v v5 := Fr.st Fr.rf e6 (S_X7.h S0) rfl
  have e10 : x3 = v5 h0 11 := by rw [e6, stv_s]
  refine J_bipush E (-4) dX7_full_10 (by decide) ?_
  exact J_iret E hr dX7_full_12 ⟨o7, k8, (Bd.lit (-4) (-4) (by decide)), f9⟩

abbrev rm_X7_thing : Room := { frames := 1, cells := 0, slots := 0, locals := 23 }
set_option maxHeartbeats 4000000 in
set_option maxRecDepth 100000 in
theorem ct_X7_thing (l : Launch) (D : va_G) (dA : Nat → ClassId) (G : Gm) (v : Mv) (w : Mw) (hOk : Ok G v w) (h0 : Nat) (S0 : S_X7 G h0) (x_0 : Int32) (x_1 : Int32) : CtI l yX7_thing cX7_thing 3 (some .int) rm_X7_thing D dA G [.ref h0, .int x_0, .int x_1] v w (fun r v1 w1 => Ok G v1 w1 ∧ Kp G v v1 ∧ True ∧ Fr G [6, 7, 107] v v1) := by
  refine CtI.of RX7 [(0, .ref h0), (1, .int x_0), (2, .int x_1)] (Nat.le_of_ble_eq_true rfl) rfl (by decide) rfl ?_
  intro p e s m args below meth c E hr
  have J19 :  J p l e rm_X7_thing s m args below meth c 0 0 (MQ below (QcI D dA G (fun r v1 w1 => Ok G v1 w1 ∧ Kp G v v1 ∧ True ∧ Fr G [6, 7, 107] v v1)) args s 0 0 (dm G)) D dA G (dm G) s.heap 3 v w [(0, .ref h0)] 19 [] := by
    refine J_aload_n E dX7_thing_19 0 rfl ?_
    refine J_callVI E cal_X7_bad wd364 rfl (S_X7.h S0) [] [] (ct_X7_bad l D dA G v w (hOk) h0 S0) rfl rfl (Nat.le_of_ble_eq_true rfl) ⟨rfl, rfl⟩ ⟨Nat.le_of_ble_eq_true rfl, Nat.le_of_ble_eq_true rfl⟩ dX7_thing_20 (fun x4 v1 w2 p3 => ?_)
    have o5 := p3.1
    have k6 : Kp G v v1 := (Kp.rf).tr p3.2.1
    have f7 : Fr G [6, 7, 107] v v1 := Fr.tr Fr.rf (p3.2.2.2) (by decide)
    have b8 : Bd x4 (-2) (-2) := p3.2.2.1
    exact J_iret E hr dX7_thing_23 ⟨o5, k6, trivial, f7⟩
  refine J_iload_n E dX7_thing_0 1 rfl ?_
  refine J_iconst E 0 dX7_thing_1 (by decide) ?_
  refine J_iconst E 5 dX7_thing_2 (by decide) ?_
  refine J_callSI E cal_X7_isWithin wd361 [.int x_0, .int 0, .int 5] [] (ct_X7_isWithin l D dA G v w (hOk) x_0 0 5) rfl rfl (Nat.le_of_ble_eq_true rfl) ⟨rfl, rfl⟩ ⟨Nat.le_of_ble_eq_true rfl, Nat.le_of_ble_eq_true rfl⟩ dX7_thing_3 (fun x12 v9 w10 p11 => ?_)
  rw [p11.1, p11.2.1]
  have b13 : Bd x12 0 1 := p11.2.2.1
  refine J_if_eq E 19 dX7_thing_6 (by decide) (fun c14 => ?_) (fun c14 => ?_)
  · have b15 : Bd x12 0 0 := Bd.eq_l c14 b13 (Bd.lit 0 0 (by decide)) 0 0 (by decide)
    have g16 : ¬ (0 ≤ x_0 ∧ x_0 ≤ 5) := (p11.2.2.2.2).resolve_left (fun h9 => h9 c14)
    exact J.sub [0] rfl (J19)
  · have b17 : Bd x12 1 1 := (Bd.ne_lo c14 b13 (Bd.lit 0 0 (by decide))).w _ _ (by decide)
    have g18 := (p11.2.2.2.1).resolve_left c14
    have b19 : Bd x_0 0 I1 := Bd.le_r g18.1 (Bd.lit 0 0 (by decide)) (Bd.any x_0) 0 (by decide)
    have b20 : Bd x_0 0 5 := Bd.le_l g18.2 b19 (Bd.lit 5 5 (by decide)) 5 (by decide)
    refine J_iload_n E dX7_thing_9 2 rfl ?_
    refine J_iconst E 1 dX7_thing_10 (by decide) ?_
    refine J_bipush E 30 dX7_thing_11 (by decide) ?_
    refine J_callSI E cal_X7_isWithin wd361 [.int x_1, .int 1, .int 30] [] (ct_X7_isWithin l D dA G v w (hOk) x_1 1 30) rfl rfl (Nat.le_of_ble_eq_true rfl) ⟨rfl, rfl⟩ ⟨Nat.le_of_ble_eq_true rfl, Nat.le_of_ble_eq_true rfl⟩ dX7_thing_13 (fun x24 v21 w22 p23 => ?_)
    rw [p23.1, p23.2.1]
    have b25 : Bd x24 0 1 := p23.2.2.1
    refine J_if_ne E 24 dX7_thing_16 (by decide) (fun c26 => ?_) (fun c26 => ?_)
    · have b27 : Bd x24 1 1 := (Bd.ne_lo c26 b25 (Bd.lit 0 0 (by decide))).w _ _ (by decide)
      have g28 := (p23.2.2.2.1).resolve_left c26
      have b29 : Bd x_1 1 I1 := Bd.le_r g28.1 (Bd.lit 1 1 (by decide)) (Bd.any x_1) 1 (by decide)
      have b30 : Bd x_1 1 30 := Bd.le_l g28.2 b29 (Bd.lit 30 30 (by decide)) 30 (by decide)
      refine J_aload_n E dX7_thing_24 0 rfl ?_
      refine J_getR E in_X7 rfl (S_X7.h S0) 0 (by decide) wd308 rfl dX7_thing_25 ?_
      refine J_getIN E in_X6 rfl (S_X6.h (S_X7.f0 S0)) 0 (by decide) wd193 rfl dX7_thing_28 (fun x31 e32 => ?_)
      have b33 : Bd x31 0 7 := Ok.fd hOk e32 (S_X6.h (S_X7.f0 S0)) rfl
      refine J_bipush E 7 dX7_thing_31 (by decide) ?_
      refine J_icmp_lt E 41 dX7_thing_33 (by decide) (fun c34 => ?_) (fun c34 => ?_)
      · have b35 : Bd x31 0 6 := Bd.lt_l c34 b33 (Bd.lit 7 7 (by decide)) 6 (by decide)
        refine J_aload_n E dX7_thing_41 0 rfl ?_
        refine J_getR E in_X7 rfl (S_X7.h S0) 0 (by decide) wd308 rfl dX7_thing_42 ?_
        refine J_iload_n E dX7_thing_45 1 rfl ?_
        refine J_iload_n E dX7_thing_46 2 rfl ?_
        refine J_callVNI E cal_X6_addThing wd372 rfl (S_X6.h (S_X7.f0 S0)) [.int x_0, .int x_1] [] (ct_X6_addThing l D dA G v w (hOk) (rf G h0 0) (S_X7.f0 S0) x_0 b20 x_1 b30 x31 (e32) b35) rfl rfl (Nat.le_of_ble_eq_true rfl) ⟨rfl, rfl⟩ ⟨Nat.le_of_ble_eq_true rfl, Nat.le_of_ble_eq_true rfl⟩ dX7_thing_47 (fun x39 v36 w37 p38 => ?_)
        have o40 := p38.1
        have k41 : Kp G v v36 := (Kp.rf).tr p38.2.1
        have f42 : Fr G [6, 7, 107] v v36 := Fr.tr Fr.rf (p38.2.2.2) (by decide)
        have b43 : Bd x39 0 6 := p38.2.2.1
        exact J_iret E hr dX7_thing_50 ⟨o40, k41, trivial, f42⟩
      · have b44 : Bd x31 7 7 := Bd.le_r (nlt c34) (Bd.lit 7 7 (by decide)) b33 7 (by decide)
        refine J_aload_n E dX7_thing_36 0 rfl ?_
        refine J_callVI E cal_X7_full wd368 rfl (S_X7.h S0) [] [] (ct_X7_full l D dA G v w (hOk) h0 S0) rfl rfl (Nat.le_of_ble_eq_true rfl) ⟨rfl, rfl⟩ ⟨Nat.le_of_ble_eq_true rfl, Nat.le_of_ble_eq_true rfl⟩ dX7_thing_37 (fun x48 v45 w46 p47 => ?_)
        have o49 := p47.1
        have k50 : Kp G v v45 := (Kp.rf).tr p47.2.1
        have f51 : Fr G [6, 7, 107] v v45 := Fr.tr Fr.rf (p47.2.2.2) (by decide)
        have b52 : Bd x48 (-4) (-4) := p47.2.2.1
        exact J_iret E hr dX7_thing_40 ⟨o49, k50, trivial, f51⟩
    · have b53 : Bd x24 0 0 := Bd.eq_l c26 b25 (Bd.lit 0 0 (by decide)) 0 0 (by decide)
      have g54 : ¬ (1 ≤ x_1 ∧ x_1 ≤ 30) := (p23.2.2.2.2).resolve_left (fun h9 => h9 c26)
      exact J.sub [0] rfl (J19)

abbrev rm_X7_one : Room := { frames := 1, cells := 0, slots := 0, locals := 24 }
set_option maxHeartbeats 4000000 in
set_option maxRecDepth 100000 in
theorem ct_X7_one (l : Launch) (D : va_G) (dA : Nat → ClassId) (G : Gm) (v : Mv) (w : Mw) (hOk : Ok G v w) (h0 : Nat) (S0 : S_X7 G h0) (x_0 : Int32) (x_1 : Int32) (x_2 : Int32) : CtI l yX7_one cX7_one 4 (some .int) rm_X7_one D dA G [.ref h0, .int x_0, .int x_1, .int x_2] v w (fun r v1 w1 => Ok G v1 w1 ∧ Kp G v v1 ∧ True ∧ Fr G [2, 6, 7, 107] v v1) := by
  refine CtI.of RX7 [(0, .ref h0), (1, .int x_0), (2, .int x_1), (3, .int x_2)] (Nat.le_of_ble_eq_true rfl) rfl (by decide) rfl ?_
  intro p e s m args below meth c E hr
  have J29 :  J p l e rm_X7_one s m args below meth c 0 0 (MQ below (QcI D dA G (fun r v1 w1 => Ok G v1 w1 ∧ Kp G v v1 ∧ True ∧ Fr G [2, 6, 7, 107] v v1)) args s 0 0 (dm G)) D dA G (dm G) s.heap 4 v w [(0, .ref h0)] 29 [] := by
    refine J_aload_n E dX7_one_29 0 rfl ?_
    refine J_callVI E cal_X7_bad wd364 rfl (S_X7.h S0) [] [] (ct_X7_bad l D dA G v w (hOk) h0 S0) rfl rfl (Nat.le_of_ble_eq_true rfl) ⟨rfl, rfl⟩ ⟨Nat.le_of_ble_eq_true rfl, Nat.le_of_ble_eq_true rfl⟩ dX7_one_30 (fun x4 v1 w2 p3 => ?_)
    have o5 := p3.1
    have k6 : Kp G v v1 := (Kp.rf).tr p3.2.1
    have f7 : Fr G [2, 6, 7, 107] v v1 := Fr.tr Fr.rf (p3.2.2.2) (by decide)
    have b8 : Bd x4 (-2) (-2) := p3.2.2.1
    exact J_iret E hr dX7_one_33 ⟨o5, k6, trivial, f7⟩
  refine J_iload_n E dX7_one_0 1 rfl ?_
  refine J_iconst E 0 dX7_one_1 (by decide) ?_
  refine J_iconst E 5 dX7_one_2 (by decide) ?_
  refine J_callSI E cal_X7_isWithin wd361 [.int x_0, .int 0, .int 5] [] (ct_X7_isWithin l D dA G v w (hOk) x_0 0 5) rfl rfl (Nat.le_of_ble_eq_true rfl) ⟨rfl, rfl⟩ ⟨Nat.le_of_ble_eq_true rfl, Nat.le_of_ble_eq_true rfl⟩ dX7_one_3 (fun x12 v9 w10 p11 => ?_)
  rw [p11.1, p11.2.1]
  have b13 : Bd x12 0 1 := p11.2.2.1
  refine J_if_eq E 29 dX7_one_6 (by decide) (fun c14 => ?_) (fun c14 => ?_)
  · have b15 : Bd x12 0 0 := Bd.eq_l c14 b13 (Bd.lit 0 0 (by decide)) 0 0 (by decide)
    have g16 : ¬ (0 ≤ x_0 ∧ x_0 ≤ 5) := (p11.2.2.2.2).resolve_left (fun h9 => h9 c14)
    exact J.sub [0] rfl (J29)
  · have b17 : Bd x12 1 1 := (Bd.ne_lo c14 b13 (Bd.lit 0 0 (by decide))).w _ _ (by decide)
    have g18 := (p11.2.2.2.1).resolve_left c14
    have b19 : Bd x_0 0 I1 := Bd.le_r g18.1 (Bd.lit 0 0 (by decide)) (Bd.any x_0) 0 (by decide)
    have b20 : Bd x_0 0 5 := Bd.le_l g18.2 b19 (Bd.lit 5 5 (by decide)) 5 (by decide)
    refine J_iload_n E dX7_one_9 2 rfl ?_
    refine J_iconst E 1 dX7_one_10 (by decide) ?_
    refine J_bipush E 9 dX7_one_11 (by decide) ?_
    refine J_callSI E cal_X7_isWithin wd361 [.int x_1, .int 1, .int 9] [] (ct_X7_isWithin l D dA G v w (hOk) x_1 1 9) rfl rfl (Nat.le_of_ble_eq_true rfl) ⟨rfl, rfl⟩ ⟨Nat.le_of_ble_eq_true rfl, Nat.le_of_ble_eq_true rfl⟩ dX7_one_13 (fun x24 v21 w22 p23 => ?_)
    rw [p23.1, p23.2.1]
    have b25 : Bd x24 0 1 := p23.2.2.1
    refine J_if_eq E 29 dX7_one_16 (by decide) (fun c26 => ?_) (fun c26 => ?_)
    · have b27 : Bd x24 0 0 := Bd.eq_l c26 b25 (Bd.lit 0 0 (by decide)) 0 0 (by decide)
      have g28 : ¬ (1 ≤ x_1 ∧ x_1 ≤ 9) := (p23.2.2.2.2).resolve_left (fun h9 => h9 c26)
      exact J.sub [0] rfl (J29)
    · have b29 : Bd x24 1 1 := (Bd.ne_lo c26 b25 (Bd.lit 0 0 (by decide))).w _ _ (by decide)
      have g30 := (p23.2.2.2.1).resolve_left c26
      have b31 : Bd x_1 1 I1 := Bd.le_r g30.1 (Bd.lit 1 1 (by decide)) (Bd.any x_1) 1 (by decide)
      have b32 : Bd x_1 1 9 := Bd.le_l g30.2 b31 (Bd.lit 9 9 (by decide)) 9 (by decide)
      refine J_iload_n E dX7_one_19 3 rfl ?_
      refine J_iconst E 0 dX7_one_20 (by decide) ?_
      refine J_bipush E 99 dX7_one_21 (by decide) ?_
      refine J_callSI E cal_X7_isWithin wd361 [.int x_2, .int 0, .int 99] [] (ct_X7_isWithin l D dA G v w (hOk) x_2 0 99) rfl rfl (Nat.le_of_ble_eq_true rfl) ⟨rfl, rfl⟩ ⟨Nat.le_of_ble_eq_true rfl, Nat.le_of_ble_eq_true rfl⟩ dX7_one_23 (fun x36 v33 w34 p35 => ?_)
      rw [p35.1, p35.2.1]
      have b37 : Bd x36 0 1 := p35.2.2.1
      refine J_if_ne E 34 dX7_one_26 (by decide) (fun c38 => ?_) (fun c38 => ?_)
      · have b39 : Bd x36 1 1 := (Bd.ne_lo c38 b37 (Bd.lit 0 0 (by decide))).w _ _ (by decide)
        have g40 := (p35.2.2.2.1).resolve_left c38
        have b41 : Bd x_2 0 I1 := Bd.le_r g40.1 (Bd.lit 0 0 (by decide)) (Bd.any x_2) 0 (by decide)
        have b42 : Bd x_2 0 99 := Bd.le_l g40.2 b41 (Bd.lit 99 99 (by decide)) 99 (by decide)
        refine J_aload_n E dX7_one_34 0 rfl ?_
        refine J_getR E in_X7 rfl (S_X7.h S0) 0 (by decide) wd308 rfl dX7_one_35 ?_
        refine J_getIN E in_X6 rfl (S_X6.h (S_X7.f0 S0)) 3 (by decide) wd200 rfl dX7_one_38 (fun x43 e44 => ?_)
        have b45 : Bd x43 0 7 := Ok.fd hOk e44 (S_X6.h (S_X7.f0 S0)) rfl
        refine J_bipush E 7 dX7_one_41 (by decide) ?_
        refine J_icmp_lt E 51 dX7_one_43 (by decide) (fun c46 => ?_) (fun c46 => ?_)
        · have b47 : Bd x43 0 6 := Bd.lt_l c46 b45 (Bd.lit 7 7 (by decide)) 6 (by decide)
          refine J_aload_n E dX7_one_51 0 rfl ?_
          refine J_getR E in_X7 rfl (S_X7.h S0) 0 (by decide) wd308 rfl dX7_one_52 ?_
          refine J_iload_n E dX7_one_55 1 rfl ?_
          refine J_iload_n E dX7_one_56 2 rfl ?_
          refine J_iload_n E dX7_one_57 3 rfl ?_
          refine J_callVNI E cal_X6_addOne wd380 rfl (S_X6.h (S_X7.f0 S0)) [.int x_0, .int x_1, .int x_2] [] (ct_X6_addOne l D dA G v w (hOk) (rf G h0 0) (S_X7.f0 S0) x_0 b20 x_1 b32 x_2 b42 x43 (e44) b47) rfl rfl (Nat.le_of_ble_eq_true rfl) ⟨rfl, rfl⟩ ⟨Nat.le_of_ble_eq_true rfl, Nat.le_of_ble_eq_true rfl⟩ dX7_one_58 (fun x51 v48 w49 p50 => ?_)
          have o52 := p50.1
          have k53 : Kp G v v48 := (Kp.rf).tr p50.2.1
          have f54 : Fr G [2, 6, 7, 107] v v48 := Fr.tr Fr.rf (p50.2.2.2) (by decide)
          have b55 : Bd x51 0 6 := p50.2.2.1
          exact J_iret E hr dX7_one_61 ⟨o52, k53, trivial, f54⟩
        · have b56 : Bd x43 7 7 := Bd.le_r (nlt c46) (Bd.lit 7 7 (by decide)) b45 7 (by decide)
          refine J_aload_n E dX7_one_46 0 rfl ?_
          refine J_callVI E cal_X7_full wd368 rfl (S_X7.h S0) [] [] (ct_X7_full l D dA G v w (hOk) h0 S0) rfl rfl (Nat.le_of_ble_eq_true rfl) ⟨rfl, rfl⟩ ⟨Nat.le_of_ble_eq_true rfl, Nat.le_of_ble_eq_true rfl⟩ dX7_one_47 (fun x60 v57 w58 p59 => ?_)
          have o61 := p59.1
          have k62 : Kp G v v57 := (Kp.rf).tr p59.2.1
          have f63 : Fr G [2, 6, 7, 107] v v57 := Fr.tr Fr.rf (p59.2.2.2) (by decide)
          have b64 : Bd x60 (-4) (-4) := p59.2.2.1
          exact J_iret E hr dX7_one_50 ⟨o61, k62, trivial, f63⟩
      · have b65 : Bd x36 0 0 := Bd.eq_l c38 b37 (Bd.lit 0 0 (by decide)) 0 0 (by decide)
        have g66 : ¬ (0 ≤ x_2 ∧ x_2 ≤ 99) := (p35.2.2.2.2).resolve_left (fun h9 => h9 c38)
        exact J.sub [0] rfl (J29)

abbrev rm_X7_type : Room := { frames := 1, cells := 0, slots := 0, locals := 22 }
set_option maxHeartbeats 4000000 in
set_option maxRecDepth 100000 in
theorem ct_X7_type (l : Launch) (D : va_G) (dA : Nat → ClassId) (G : Gm) (v : Mv) (w : Mw) (hOk : Ok G v w) (h0 : Nat) (S0 : S_X7 G h0) (x_0 : Int32) : CtI l yX7_type cX7_type 2 (some .int) rm_X7_type D dA G [.ref h0, .int x_0] v w (fun r v1 w1 => Ok G v1 w1 ∧ Kx G (fun a k => a = rf G h0 1 ∧ k = 1) v v1 ∧ True ∧ Fr G [3, 7, 250] v v1) := by
  refine CtI.of RX7 [(0, .ref h0), (1, .int x_0)] (Nat.le_of_ble_eq_true rfl) rfl (by decide) rfl ?_
  intro p e s m args below meth c E hr
  refine J_iload_n E dX7_type_0 1 rfl ?_
  refine J_iconst E 0 dX7_type_1 (by decide) ?_
  refine J_bipush E 127 dX7_type_2 (by decide) ?_
  refine J_callSI E cal_X7_isWithin wd361 [.int x_0, .int 0, .int 127] [] (ct_X7_isWithin l D dA G v w (hOk) x_0 0 127) rfl rfl (Nat.le_of_ble_eq_true rfl) ⟨rfl, rfl⟩ ⟨Nat.le_of_ble_eq_true rfl, Nat.le_of_ble_eq_true rfl⟩ dX7_type_4 (fun x4 v1 w2 p3 => ?_)
  rw [p3.1, p3.2.1]
  have b5 : Bd x4 0 1 := p3.2.2.1
  refine J_if_ne E 15 dX7_type_7 (by decide) (fun c6 => ?_) (fun c6 => ?_)
  · have b7 : Bd x4 1 1 := (Bd.ne_lo c6 b5 (Bd.lit 0 0 (by decide))).w _ _ (by decide)
    have g8 := (p3.2.2.2.1).resolve_left c6
    have b9 : Bd x_0 0 I1 := Bd.le_r g8.1 (Bd.lit 0 0 (by decide)) (Bd.any x_0) 0 (by decide)
    have b10 : Bd x_0 0 127 := Bd.le_l g8.2 b9 (Bd.lit 127 127 (by decide)) 127 (by decide)
    refine J_aload_n E dX7_type_15 0 rfl ?_
    refine J_getR E in_X7 rfl (S_X7.h S0) 1 (by decide) wd309 rfl dX7_type_16 ?_
    refine J_getIN E in_X3 rfl (S_X3.h (S_X7.f1 S0)) 1 (by decide) wd254 rfl dX7_type_19 (fun x11 e12 => ?_)
    have b13 : Bd x11 0 150 := Ok.fd hOk e12 (S_X3.h (S_X7.f1 S0)) rfl
    refine J_sipush E 150 dX7_type_22 (by decide) ?_
    refine J_icmp_lt E 33 dX7_type_25 (by decide) (fun c14 => ?_) (fun c14 => ?_)
    · have b15 : Bd x11 0 149 := Bd.lt_l c14 b13 (Bd.lit 150 150 (by decide)) 149 (by decide)
      refine J_aload_n E dX7_type_33 0 rfl ?_
      refine J_getR E in_X7 rfl (S_X7.h S0) 1 (by decide) wd309 rfl dX7_type_34 ?_
      refine J_iload_n E dX7_type_37 1 rfl ?_
      refine J_callVNI E cal_X3_append wd388 rfl (S_X3.h (S_X7.f1 S0)) [.int x_0] [] (ct_X3_append l D dA G v w (hOk) (rf G h0 1) (S_X7.f1 S0) x_0 b10 x11 (e12) b15) rfl rfl (Nat.le_of_ble_eq_true rfl) ⟨rfl, rfl⟩ ⟨Nat.le_of_ble_eq_true rfl, Nat.le_of_ble_eq_true rfl⟩ dX7_type_38 (fun x19 v16 w17 p18 => ?_)
      have o20 := p18.1
      have k21 : Kx G (fun a k => a = rf G h0 1 ∧ k = 1) v v16 := (Kx.rf).tr p18.2.1
      have f22 : Fr G [3, 7, 250] v v16 := Fr.tr Fr.rf (p18.2.2.2) (by decide)
      have b23 : Bd x19 1 150 := p18.2.2.1
      exact J_iret E hr dX7_type_41 ⟨o20, k21, trivial, f22⟩
    · have b24 : Bd x11 150 150 := Bd.le_r (nlt c14) (Bd.lit 150 150 (by decide)) b13 150 (by decide)
      refine J_aload_n E dX7_type_28 0 rfl ?_
      refine J_callVI E cal_X7_full wd368 rfl (S_X7.h S0) [] [] (ct_X7_full l D dA G v w (hOk) h0 S0) rfl rfl (Nat.le_of_ble_eq_true rfl) ⟨rfl, rfl⟩ ⟨Nat.le_of_ble_eq_true rfl, Nat.le_of_ble_eq_true rfl⟩ dX7_type_29 (fun x28 v25 w26 p27 => ?_)
      have o29 := p27.1
      have k30 : Kx G (fun a k => a = rf G h0 1 ∧ k = 1) v v25 := (Kx.rf).trp p27.2.1
      have f31 : Fr G [3, 7, 250] v v25 := Fr.tr Fr.rf (p27.2.2.2) (by decide)
      have b32 : Bd x28 (-4) (-4) := p27.2.2.1
      exact J_iret E hr dX7_type_32 ⟨o29, k30, trivial, f31⟩
  · have b33 : Bd x4 0 0 := Bd.eq_l c6 b5 (Bd.lit 0 0 (by decide)) 0 0 (by decide)
    have g34 : ¬ (0 ≤ x_0 ∧ x_0 ≤ 127) := (p3.2.2.2.2).resolve_left (fun h9 => h9 c6)
    refine J_aload_n E dX7_type_10 0 rfl ?_
    refine J_callVI E cal_X7_bad wd364 rfl (S_X7.h S0) [] [] (ct_X7_bad l D dA G v w (hOk) h0 S0) rfl rfl (Nat.le_of_ble_eq_true rfl) ⟨rfl, rfl⟩ ⟨Nat.le_of_ble_eq_true rfl, Nat.le_of_ble_eq_true rfl⟩ dX7_type_11 (fun x38 v35 w36 p37 => ?_)
    have o39 := p37.1
    have k40 : Kx G (fun a k => a = rf G h0 1 ∧ k = 1) v v35 := (Kx.rf).trp p37.2.1
    have f41 : Fr G [3, 7, 250] v v35 := Fr.tr Fr.rf (p37.2.2.2) (by decide)
    have b42 : Bd x38 (-2) (-2) := p37.2.2.1
    exact J_iret E hr dX7_type_14 ⟨o39, k40, trivial, f41⟩

abbrev rm_X7_clear : Room := { frames := 0, cells := 0, slots := 0, locals := 0 }
set_option maxHeartbeats 4000000 in
set_option maxRecDepth 100000 in
theorem ct_X7_clear (l : Launch) (D : va_G) (dA : Nat → ClassId) (G : Gm) (v : Mv) (w : Mw) (hOk : Ok G v w) (h0 : Nat) (S0 : S_X7 G h0) : CtI l yX7_clear cX7_clear 2 (some .int) rm_X7_clear D dA G [.ref h0] v w (fun r v1 w1 => Ok G v1 w1 ∧ Kx G (fun a k => a = rf G h0 1 ∧ k = 1) v v1 ∧ Bd r 0 150 ∧ Fr G [3] v v1) := by
  refine CtI.of RX7 [(0, .ref h0)] (Nat.le_of_ble_eq_true rfl) rfl (by decide) rfl ?_
  intro p e s m args below meth c E hr
  refine J_aload_n E dX7_clear_0 0 rfl ?_
  refine J_getR E in_X7 rfl (S_X7.h S0) 1 (by decide) wd309 rfl dX7_clear_1 ?_
  refine J_getIN E in_X3 rfl (S_X3.h (S_X7.f1 S0)) 1 (by decide) wd254 rfl dX7_clear_4 (fun x1 e2 => ?_)
  have b3 : Bd x1 0 150 := Ok.fd hOk e2 (S_X3.h (S_X7.f1 S0)) rfl
  refine J_istore_n E [(1, .int x1), (0, .ref h0)] dX7_clear_7 rfl (by decide) rfl ?_
  refine J_aload_n E dX7_clear_8 1 rfl ?_
  refine J_getR E in_X7 rfl (S_X7.h S0) 1 (by decide) wd309 rfl dX7_clear_9 ?_
  refine J_iconst E 0 dX7_clear_12 (by decide) ?_
  refine J_pIN E in_X3 rfl (S_X3.h (S_X7.f1 S0)) 1 (by decide) wd254 tyX3 tyX3_ok nmX3 rfl rfl .int (by decide +kernel) rfl rfl dX7_clear_13 (fun v4 e5 => ?_)
  have o6 : Ok G v4 w := Ok.pf hOk e5 (S_X3.h (S_X7.f1 S0)) rfl ((Bd.lit 0 0 (by decide)).w 0 150 (by decide))
  have k7 : Kx G (fun a k => a = rf G h0 1 ∧ k = 1) v v4 := Kx.here Kx.rf e5 ⟨rfl, rfl⟩
  have f8 : Fr G [3] v v4 := Fr.st Fr.rf e5 (S_X3.h (S_X7.f1 S0)) rfl
  have e9 : (0 : Int32) = v4 (rf G h0 1) 1 := by rw [e5, stv_s]
  refine J_iload_n E dX7_clear_16 0 rfl ?_
  exact J_iret E hr dX7_clear_17 ⟨o6, k7, b3, f8⟩

abbrev rm_X7_no : Room := { frames := 0, cells := 0, slots := 0, locals := 0 }
set_option maxHeartbeats 4000000 in
set_option maxRecDepth 100000 in
theorem ct_X7_no (l : Launch) (D : va_G) (dA : Nat → ClassId) (G : Gm) (v : Mv) (w : Mw) (hOk : Ok G v w) (h0 : Nat) (S0 : S_X7 G h0) : CtI l yX7_no cX7_no 1 (some .int) rm_X7_no D dA G [.ref h0] v w (fun r v1 w1 => Ok G v1 w1 ∧ Kp G v v1 ∧ Bd r (-3) (-3) ∧ Fr G [7] v v1) := by
  refine CtI.of RX7 [(0, .ref h0)] (Nat.le_of_ble_eq_true rfl) rfl (by decide) rfl ?_
  intro p e s m args below meth c E hr
  refine J_aload_n E dX7_no_0 0 rfl ?_
  refine J_dup E dX7_no_1 rfl ?_
  refine J_getI E in_X7 rfl (S_X7.h S0) 10 (by decide) wd318 rfl dX7_no_2 (fun x1 e2 => ?_)
  refine J_iconst E 1 dX7_no_5 (by decide) ?_
  refine J_iadd E dX7_no_6 (fun x3 e4 => ?_)
  refine J_pI E in_X7 rfl (S_X7.h S0) 10 (by decide) wd318 tyX7 tyX7_ok nmX7 rfl rfl .int (by decide +kernel) rfl rfl dX7_no_7 (fun v5 e6 => ?_)
  have o7 : Ok G v5 w := Ok.pf hOk e6 (S_X7.h S0) rfl (Bd.any x3)
  have k8 : Kp G v v5 := Kp.pf Kp.rf e6 (S_X7.h S0) rfl
  have f9 : Fr G [7] v v5 := Fr.st Fr.rf e6 (S_X7.h S0) rfl
  have e10 : x3 = v5 h0 10 := by rw [e6, stv_s]
  refine J_bipush E (-3) dX7_no_10 (by decide) ?_
  exact J_iret E hr dX7_no_12 ⟨o7, k8, (Bd.lit (-3) (-3) (by decide)), f9⟩

abbrev rm_X7_owns : Room := { frames := 4, cells := 0, slots := 0, locals := 91 }
set_option maxHeartbeats 4000000 in
set_option maxRecDepth 100000 in
theorem ct_X7_owns (l : Launch) (D : va_G) (dA : Nat → ClassId) (G : Gm) (v : Mv) (w : Mw) (hOk : Ok G v w) (h0 : Nat) (S0 : S_X7 G h0) (x_0 : Int32) (x_1 : Int32) : CtI l yX7_owns cX7_owns 3 (some .int) rm_X7_owns D dA G [.ref h0, .int x_0, .int x_1] v w (fun r v1 w1 => Ok G v1 w1 ∧ Kp G v v1 ∧ True ∧ Fr G [2, 6, 7, 107, 40108] v v1) := by
  refine CtI.of RX7 [(0, .ref h0), (1, .int x_0), (2, .int x_1)] (Nat.le_of_ble_eq_true rfl) rfl (by decide) rfl ?_
  intro p e s m args below meth c E hr
  have J50 :  J p l e rm_X7_owns s m args below meth c 0 0 (MQ below (QcI D dA G (fun r v1 w1 => Ok G v1 w1 ∧ Kp G v v1 ∧ True ∧ Fr G [2, 6, 7, 107, 40108] v v1)) args s 0 0 (dm G)) D dA G (dm G) s.heap 3 v w [(0, .ref h0)] 50 [] := by
    refine J_aload_n E dX7_owns_50 0 rfl ?_
    refine J_callVI E cal_X7_no wd591 rfl (S_X7.h S0) [] [] (ct_X7_no l D dA G v w (hOk) h0 S0) rfl rfl (Nat.le_of_ble_eq_true rfl) ⟨rfl, rfl⟩ ⟨Nat.le_of_ble_eq_true rfl, Nat.le_of_ble_eq_true rfl⟩ dX7_owns_51 (fun x4 v1 w2 p3 => ?_)
    have o5 := p3.1
    have k6 : Kp G v v1 := (Kp.rf).tr p3.2.1
    have f7 : Fr G [2, 6, 7, 107, 40108] v v1 := Fr.tr Fr.rf (p3.2.2.2) (by decide)
    have b8 : Bd x4 (-3) (-3) := p3.2.2.1
    exact J_iret E hr dX7_owns_54 ⟨o5, k6, trivial, f7⟩
  have J22 :  J p l e rm_X7_owns s m args below meth c 0 0 (MQ below (QcI D dA G (fun r v1 w1 => Ok G v1 w1 ∧ Kp G v v1 ∧ True ∧ Fr G [2, 6, 7, 107, 40108] v v1)) args s 0 0 (dm G)) D dA G (dm G) s.heap 3 v w [(0, .ref h0)] 22 [] := by
    refine J_aload_n E dX7_owns_22 0 rfl ?_
    refine J_callVI E cal_X7_bad wd364 rfl (S_X7.h S0) [] [] (ct_X7_bad l D dA G v w (hOk) h0 S0) rfl rfl (Nat.le_of_ble_eq_true rfl) ⟨rfl, rfl⟩ ⟨Nat.le_of_ble_eq_true rfl, Nat.le_of_ble_eq_true rfl⟩ dX7_owns_23 (fun x12 v9 w10 p11 => ?_)
    have o13 := p11.1
    have k14 : Kp G v v9 := (Kp.rf).tr p11.2.1
    have f15 : Fr G [2, 6, 7, 107, 40108] v v9 := Fr.tr Fr.rf (p11.2.2.2) (by decide)
    have b16 : Bd x12 (-2) (-2) := p11.2.2.1
    exact J_iret E hr dX7_owns_26 ⟨o13, k14, trivial, f15⟩
  refine J_aload_n E dX7_owns_0 0 rfl ?_
  refine J_getR E in_X7 rfl (S_X7.h S0) 0 (by decide) wd308 rfl dX7_owns_1 ?_
  refine J_iload_n E dX7_owns_4 1 rfl ?_
  refine J_callVNI E cal_X6_hasOne wd584 rfl (S_X6.h (S_X7.f0 S0)) [.int x_0] [] (ct_X6_hasOne l D dA G v w (hOk) (rf G h0 0) (S_X7.f0 S0) x_0) rfl rfl (Nat.le_of_ble_eq_true rfl) ⟨rfl, rfl⟩ ⟨Nat.le_of_ble_eq_true rfl, Nat.le_of_ble_eq_true rfl⟩ dX7_owns_5 (fun x20 v17 w18 p19 => ?_)
  rw [p19.1, p19.2.1]
  have b21 : Bd x20 0 1 := p19.2.2.1
  refine J_if_eq E 22 dX7_owns_8 (by decide) (fun c22 => ?_) (fun c22 => ?_)
  · have b23 : Bd x20 0 0 := Bd.eq_l c22 b21 (Bd.lit 0 0 (by decide)) 0 0 (by decide)
    exact J.sub [0] rfl (J22)
  · have b24 : Bd x20 1 1 := (Bd.ne_lo c22 b21 (Bd.lit 0 0 (by decide))).w _ _ (by decide)
    have b25 : Bd x_0 0 6 := (p19.2.2.2).resolve_left c22
    refine J_aload_n E dX7_owns_11 0 rfl ?_
    refine J_getR E in_X7 rfl (S_X7.h S0) 0 (by decide) wd308 rfl dX7_owns_12 ?_
    refine J_iload_n E dX7_owns_15 2 rfl ?_
    refine J_callVNI E cal_X6_hasThing wd588 rfl (S_X6.h (S_X7.f0 S0)) [.int x_1] [] (ct_X6_hasThing l D dA G v w (hOk) (rf G h0 0) (S_X7.f0 S0) x_1) rfl rfl (Nat.le_of_ble_eq_true rfl) ⟨rfl, rfl⟩ ⟨Nat.le_of_ble_eq_true rfl, Nat.le_of_ble_eq_true rfl⟩ dX7_owns_16 (fun x29 v26 w27 p28 => ?_)
    rw [p28.1, p28.2.1]
    have b30 : Bd x29 0 1 := p28.2.2.1
    refine J_if_ne E 27 dX7_owns_19 (by decide) (fun c31 => ?_) (fun c31 => ?_)
    · have b32 : Bd x29 1 1 := (Bd.ne_lo c31 b30 (Bd.lit 0 0 (by decide))).w _ _ (by decide)
      have b33 : Bd x_1 0 6 := (p28.2.2.2).resolve_left c31
      refine J_aload_n E dX7_owns_27 0 rfl ?_
      refine J_getR E in_X7 rfl (S_X7.h S0) 0 (by decide) wd308 rfl dX7_owns_28 ?_
      refine J_iload_n E dX7_owns_31 1 rfl ?_
      refine J_callVNI E cal_X6_mayGet wd589 rfl (S_X6.h (S_X7.f0 S0)) [.int x_0] [] (ct_X6_mayGet l D dA G v w (hOk) (rf G h0 0) (S_X7.f0 S0) x_0 b25) rfl rfl (Nat.le_of_ble_eq_true rfl) ⟨rfl, rfl⟩ ⟨Nat.le_of_ble_eq_true rfl, Nat.le_of_ble_eq_true rfl⟩ dX7_owns_32 (fun x37 v34 w35 p36 => ?_)
      rw [p36.1, p36.2.1]
      have b38 : Bd x37 0 1 := p36.2.2.1
      refine J_if_eq E 50 dX7_owns_35 (by decide) (fun c39 => ?_) (fun c39 => ?_)
      · have b40 : Bd x37 0 0 := Bd.eq_l c39 b38 (Bd.lit 0 0 (by decide)) 0 0 (by decide)
        exact J.sub [0] rfl (J50)
      · have b41 : Bd x37 1 1 := (Bd.ne_lo c39 b38 (Bd.lit 0 0 (by decide))).w _ _ (by decide)
        refine J_aload_n E dX7_owns_38 0 rfl ?_
        refine J_getR E in_X7 rfl (S_X7.h S0) 0 (by decide) wd308 rfl dX7_owns_39 ?_
        refine J_iload_n E dX7_owns_42 2 rfl ?_
        refine J_callVNI E cal_X6_ownerOf wd590 rfl (S_X6.h (S_X7.f0 S0)) [.int x_1] [] (ct_X6_ownerOf l D dA G v w (hOk) (rf G h0 0) (S_X7.f0 S0) x_1 b33) rfl rfl (Nat.le_of_ble_eq_true rfl) ⟨rfl, rfl⟩ ⟨Nat.le_of_ble_eq_true rfl, Nat.le_of_ble_eq_true rfl⟩ dX7_owns_43 (fun x45 v42 w43 p44 => ?_)
        rw [p44.1, p44.2.1]
        refine J_iconst E (-1) dX7_owns_46 (by decide) ?_
        refine J_icmp_eq E 55 dX7_owns_47 (by decide) (fun c46 => ?_) (fun c46 => ?_)
        · have b47 : Bd x45 (-1) (-1) := Bd.eq_l c46 (Bd.any x45) (Bd.lit (-1) (-1) (by decide)) (-1) (-1) (by decide)
          refine J_aload_n E dX7_owns_55 0 rfl ?_
          refine J_getR E in_X7 rfl (S_X7.h S0) 0 (by decide) wd308 rfl dX7_owns_56 ?_
          refine J_callVNV E cal_X6_remember wd595 rfl (S_X6.h (S_X7.f0 S0)) [] [] (ct_X6_remember l D dA G v w (hOk) (rf G h0 0) (S_X7.f0 S0)) rfl rfl (Nat.le_of_ble_eq_true rfl) ⟨rfl, rfl⟩ ⟨Nat.le_of_ble_eq_true rfl, Nat.le_of_ble_eq_true rfl⟩ dX7_owns_59 (fun v48 w49 p50 => ?_)
          have o52 := p50.1
          have k53 : Kp G v v48 := (Kp.rf).tr p50.2.1
          have f54 : Fr G [2, 6, 7, 107, 40108] v v48 := Fr.tr Fr.rf (p50.2.2) (by decide)
          refine J_aload_n E dX7_owns_62 0 rfl ?_
          refine J_getR E in_X7 rfl (S_X7.h S0) 0 (by decide) wd308 rfl dX7_owns_63 ?_
          refine J_getRN E in_X6 rfl (S_X6.h (S_X7.f0 S0)) 6 (by decide) wd209 rfl dX7_owns_66 ?_
          refine J_getRN E in_X2 rfl (S_X2.h (S_X6.f6 (S_X7.f0 S0))) 1 (by decide) wd155 rfl dX7_owns_69 ?_
          refine J_iload_n E dX7_owns_72 1 rfl ?_
          refine J_iload_n E dX7_owns_73 2 rfl ?_
          refine J_iast1 E (S_X2.f1 (S_X6.f6 (S_X7.f0 S0))) (Bd.in b25 (by decide)) dX7_owns_74 (fun v55 e56 => ?_)
          have o57 : Ok G v55 w49 := by rw [e56]; exact Ok.sv o52 (S_X2.f1 (S_X6.f6 (S_X7.f0 S0))) b25 b33 0 7 (by decide) (by decide +kernel)
          have k58 : Kp G v v55 := by rw [e56]; exact Kp.sv k53 (S_X2.f1 (S_X6.f6 (S_X7.f0 S0))) b25 0 7 0 6 (by decide) (by decide +kernel)
          have f59 : Fr G [2, 6, 7, 107, 40108] v v55 := Fr.st f54 e56 (S_X2.f1 (S_X6.f6 (S_X7.f0 S0))) rfl
          refine J_aload_n E dX7_owns_75 0 rfl ?_
          refine J_getR E in_X7 rfl (S_X7.h S0) 0 (by decide) wd308 rfl dX7_owns_76 ?_
          refine J_iload_n E dX7_owns_79 2 rfl ?_
          refine J_iload_n E dX7_owns_80 1 rfl ?_
          refine J_iconst E 1 dX7_owns_81 (by decide) ?_
          refine J_callVNI E cal_X6_holdsFor wd599 rfl (S_X6.h (S_X7.f0 S0)) [.int x_1, .int x_0, .int 1] [] (ct_X6_holdsFor l D dA G v55 w49 (o57) (rf G h0 0) (S_X7.f0 S0) x_1 b33 x_0 b25 1 ((Bd.lit 1 1 (by decide)).w 1 60 (by decide))) rfl rfl (Nat.le_of_ble_eq_true rfl) ⟨rfl, rfl⟩ ⟨Nat.le_of_ble_eq_true rfl, Nat.le_of_ble_eq_true rfl⟩ dX7_owns_82 (fun x63 v60 w61 p62 => ?_)
          rw [p62.1, p62.2.1]
          have b64 : Bd x63 0 60 := p62.2.2.1
          exact J_iret E hr dX7_owns_85 ⟨o57, k58, trivial, f59⟩
        · exact J.sub [0] rfl (J50)
    · have b65 : Bd x29 0 0 := Bd.eq_l c31 b30 (Bd.lit 0 0 (by decide)) 0 0 (by decide)
      exact J.sub [0] rfl (J22)

abbrev rm_X7_leaves : Room := { frames := 2, cells := 0, slots := 0, locals := 44 }
set_option maxHeartbeats 4000000 in
set_option maxRecDepth 100000 in
theorem ct_X7_leaves (l : Launch) (D : va_G) (dA : Nat → ClassId) (G : Gm) (v : Mv) (w : Mw) (hOk : Ok G v w) (h0 : Nat) (S0 : S_X7 G h0) (x_0 : Int32) : CtI l yX7_leaves cX7_leaves 3 (some .int) rm_X7_leaves D dA G [.ref h0, .int x_0] v w (fun r v1 w1 => Ok G v1 w1 ∧ Kp G v v1 ∧ True ∧ Fr G [2, 6, 7, 107, 40108] v v1) := by
  refine CtI.of RX7 [(0, .ref h0), (1, .int x_0)] (Nat.le_of_ble_eq_true rfl) rfl (by decide) rfl ?_
  intro p e s m args below meth c E hr
  refine J_aload_n E dX7_leaves_0 0 rfl ?_
  refine J_getR E in_X7 rfl (S_X7.h S0) 0 (by decide) wd308 rfl dX7_leaves_1 ?_
  refine J_iload_n E dX7_leaves_4 1 rfl ?_
  refine J_callVNI E cal_X6_hasOne wd584 rfl (S_X6.h (S_X7.f0 S0)) [.int x_0] [] (ct_X6_hasOne l D dA G v w (hOk) (rf G h0 0) (S_X7.f0 S0) x_0) rfl rfl (Nat.le_of_ble_eq_true rfl) ⟨rfl, rfl⟩ ⟨Nat.le_of_ble_eq_true rfl, Nat.le_of_ble_eq_true rfl⟩ dX7_leaves_5 (fun x4 v1 w2 p3 => ?_)
  rw [p3.1, p3.2.1]
  have b5 : Bd x4 0 1 := p3.2.2.1
  refine J_if_ne E 16 dX7_leaves_8 (by decide) (fun c6 => ?_) (fun c6 => ?_)
  · have b7 : Bd x4 1 1 := (Bd.ne_lo c6 b5 (Bd.lit 0 0 (by decide))).w _ _ (by decide)
    have b8 : Bd x_0 0 6 := (p3.2.2.2).resolve_left c6
    refine J_aload_n E dX7_leaves_16 0 rfl ?_
    refine J_getR E in_X7 rfl (S_X7.h S0) 0 (by decide) wd308 rfl dX7_leaves_17 ?_
    refine J_getRN E in_X6 rfl (S_X6.h (S_X7.f0 S0)) 6 (by decide) wd209 rfl dX7_leaves_20 ?_
    refine J_getRN E in_X2 rfl (S_X2.h (S_X6.f6 (S_X7.f0 S0))) 1 (by decide) wd155 rfl dX7_leaves_23 ?_
    refine J_iload_n E dX7_leaves_26 1 rfl ?_
    refine J_iald1 E (S_X2.f1 (S_X6.f6 (S_X7.f0 S0))) (Bd.in b8 (by decide)) dX7_leaves_27 (fun x9 e10 => ?_)
    refine J_istore_n E [(2, .int x9), (0, .ref h0), (1, .int x_0)] dX7_leaves_28 rfl (by decide) rfl ?_
    refine J_iload_n E dX7_leaves_29 0 rfl ?_
    refine J_iconst E (-1) dX7_leaves_30 (by decide) ?_
    refine J_icmp_ne E 39 dX7_leaves_31 (by decide) (fun c11 => ?_) (fun c11 => ?_)
    · refine J_aload_n E dX7_leaves_39 1 rfl ?_
      refine J_getR E in_X7 rfl (S_X7.h S0) 0 (by decide) wd308 rfl dX7_leaves_40 ?_
      refine J_callVNV E cal_X6_remember wd595 rfl (S_X6.h (S_X7.f0 S0)) [] [] (ct_X6_remember l D dA G v w (hOk) (rf G h0 0) (S_X7.f0 S0)) rfl rfl (Nat.le_of_ble_eq_true rfl) ⟨rfl, rfl⟩ ⟨Nat.le_of_ble_eq_true rfl, Nat.le_of_ble_eq_true rfl⟩ dX7_leaves_43 (fun v12 w13 p14 => ?_)
      have o16 := p14.1
      have k17 : Kp G v v12 := (Kp.rf).tr p14.2.1
      have f18 : Fr G [2, 6, 7, 107, 40108] v v12 := Fr.tr Fr.rf (p14.2.2) (by decide)
      refine J_aload_n E dX7_leaves_46 1 rfl ?_
      refine J_getR E in_X7 rfl (S_X7.h S0) 0 (by decide) wd308 rfl dX7_leaves_47 ?_
      refine J_getRN E in_X6 rfl (S_X6.h (S_X7.f0 S0)) 6 (by decide) wd209 rfl dX7_leaves_50 ?_
      refine J_getRN E in_X2 rfl (S_X2.h (S_X6.f6 (S_X7.f0 S0))) 1 (by decide) wd155 rfl dX7_leaves_53 ?_
      refine J_iload_n E dX7_leaves_56 2 rfl ?_
      refine J_iconst E (-1) dX7_leaves_57 (by decide) ?_
      refine J_iast1 E (S_X2.f1 (S_X6.f6 (S_X7.f0 S0))) (Bd.in b8 (by decide)) dX7_leaves_58 (fun v19 e20 => ?_)
      have o21 : Ok G v19 w13 := by rw [e20]; exact Ok.sv o16 (S_X2.f1 (S_X6.f6 (S_X7.f0 S0))) b8 (Bd.lit (-1) (-1) (by decide)) 0 7 (by decide) (by decide +kernel)
      have k22 : Kp G v v19 := by rw [e20]; exact Kp.sv k17 (S_X2.f1 (S_X6.f6 (S_X7.f0 S0))) b8 0 7 (-1) (-1) (by decide) (by decide +kernel)
      have f23 : Fr G [2, 6, 7, 107, 40108] v v19 := Fr.st f18 e20 (S_X2.f1 (S_X6.f6 (S_X7.f0 S0))) rfl
      refine J_iload_n E dX7_leaves_59 0 rfl ?_
      exact J_iret E hr dX7_leaves_60 ⟨o21, k22, trivial, f23⟩
    · have b24 : Bd x9 (-1) (-1) := Bd.eq_l c11 (Bd.any x9) (Bd.lit (-1) (-1) (by decide)) (-1) (-1) (by decide)
      refine J_aload_n E dX7_leaves_34 1 rfl ?_
      refine J_callVI E cal_X7_no wd591 rfl (S_X7.h S0) [] [] (ct_X7_no l D dA G v w (hOk) h0 S0) rfl rfl (Nat.le_of_ble_eq_true rfl) ⟨rfl, rfl⟩ ⟨Nat.le_of_ble_eq_true rfl, Nat.le_of_ble_eq_true rfl⟩ dX7_leaves_35 (fun x28 v25 w26 p27 => ?_)
      have o29 := p27.1
      have k30 : Kp G v v25 := (Kp.rf).tr p27.2.1
      have f31 : Fr G [2, 6, 7, 107, 40108] v v25 := Fr.tr Fr.rf (p27.2.2.2) (by decide)
      have b32 : Bd x28 (-3) (-3) := p27.2.2.1
      exact J_iret E hr dX7_leaves_38 ⟨o29, k30, trivial, f31⟩
  · have b33 : Bd x4 0 0 := Bd.eq_l c6 b5 (Bd.lit 0 0 (by decide)) 0 0 (by decide)
    refine J_aload_n E dX7_leaves_11 0 rfl ?_
    refine J_callVI E cal_X7_bad wd364 rfl (S_X7.h S0) [] [] (ct_X7_bad l D dA G v w (hOk) h0 S0) rfl rfl (Nat.le_of_ble_eq_true rfl) ⟨rfl, rfl⟩ ⟨Nat.le_of_ble_eq_true rfl, Nat.le_of_ble_eq_true rfl⟩ dX7_leaves_12 (fun x37 v34 w35 p36 => ?_)
    have o38 := p36.1
    have k39 : Kp G v v34 := (Kp.rf).tr p36.2.1
    have f40 : Fr G [2, 6, 7, 107, 40108] v v34 := Fr.tr Fr.rf (p36.2.2.2) (by decide)
    have b41 : Bd x37 (-2) (-2) := p36.2.2.1
    exact J_iret E hr dX7_leaves_15 ⟨o38, k39, trivial, f40⟩

abbrev rm_X7_years : Room := { frames := 4, cells := 0, slots := 0, locals := 92 }
set_option maxHeartbeats 4000000 in
set_option maxRecDepth 100000 in
theorem ct_X7_years (l : Launch) (D : va_G) (dA : Nat → ClassId) (G : Gm) (v : Mv) (w : Mw) (hOk : Ok G v w) (h0 : Nat) (S0 : S_X7 G h0) (x_0 : Int32) : CtI l yX7_years cX7_years 2 (some .int) rm_X7_years D dA G [.ref h0, .int x_0] v w (fun r v1 w1 => Ok G v1 w1 ∧ Kp G v v1 ∧ True ∧ Fr G [2, 6, 7, 107, 40108] v v1) := by
  refine CtI.of RX7 [(0, .ref h0), (1, .int x_0)] (Nat.le_of_ble_eq_true rfl) rfl (by decide) rfl ?_
  intro p e s m args below meth c E hr
  have J38 : ∀ (v1 : Mv) (w2 : Mw), Ok G v1 w2 → Kp G v v1 → Fr G [2, 6, 7, 107, 40108] v v1 → Bd x_0 1 60 → J p l e rm_X7_years s m args below meth c 0 0 (MQ below (QcI D dA G (fun r v1 w1 => Ok G v1 w1 ∧ Kp G v v1 ∧ True ∧ Fr G [2, 6, 7, 107, 40108] v v1)) args s 0 0 (dm G)) D dA G (dm G) s.heap 2 v1 w2 [(0, .ref h0), (1, .int x_0)] 38 [] := by
    intro v1 w2 o3 k4 f5 b6
    refine J_aload_n E dX7_years_38 0 rfl ?_
    refine J_getR E in_X7 rfl (S_X7.h S0) 0 (by decide) wd308 rfl dX7_years_39 ?_
    refine J_aload_n E dX7_years_42 0 rfl ?_
    refine J_getR E in_X7 rfl (S_X7.h S0) 0 (by decide) wd308 rfl dX7_years_43 ?_
    refine J_getRN E in_X6 rfl (S_X6.h (S_X7.f0 S0)) 6 (by decide) wd209 rfl dX7_years_46 ?_
    refine J_iload_n E dX7_years_49 1 rfl ?_
    refine J_sipush E 999 dX7_years_50 (by decide) ?_
    refine J_callVNV E cal_X6_passYears wd620 rfl (S_X6.h (S_X7.f0 S0)) [.ref (rf G (rf G h0 0) 6), .int x_0, .int 999] [] (ct_X6_passYears l D dA G v1 w2 (o3) (rf G h0 0) (S_X7.f0 S0) (rf G (rf G h0 0) 6) (S_X6.f6 (S_X7.f0 S0)) x_0 (b6.w 0 99 (by decide)) 999 ((Bd.lit 999 999 (by decide)).w 999 1059 (by decide))) rfl rfl (Nat.le_of_ble_eq_true rfl) ⟨rfl, rfl⟩ ⟨Nat.le_of_ble_eq_true rfl, Nat.le_of_ble_eq_true rfl⟩ dX7_years_53 (fun v7 w8 p9 => ?_)
    have o11 := p9.1
    have k12 : Kp G v v7 := (k4).tr p9.2.1
    have f13 : Fr G [2, 6, 7, 107, 40108] v v7 := Fr.tr f5 (p9.2.2) (by decide)
    refine J_aload_n E dX7_years_56 0 rfl ?_
    refine J_getR E in_X7 rfl (S_X7.h S0) 0 (by decide) wd308 rfl dX7_years_57 ?_
    refine J_getRN E in_X6 rfl (S_X6.h (S_X7.f0 S0)) 6 (by decide) wd209 rfl dX7_years_60 ?_
    refine J_callVNI E cal_X2_countHere wd621 rfl (S_X2.h (S_X6.f6 (S_X7.f0 S0))) [] [] (ct_X2_countHere l D dA G v7 w8 (o11) (rf G (rf G h0 0) 6) (S_X6.f6 (S_X7.f0 S0))) rfl rfl (Nat.le_of_ble_eq_true rfl) ⟨rfl, rfl⟩ ⟨Nat.le_of_ble_eq_true rfl, Nat.le_of_ble_eq_true rfl⟩ dX7_years_63 (fun x17 v14 w15 p16 => ?_)
    rw [p16.1, p16.2.1]
    exact J_iret E hr dX7_years_66 ⟨o11, k12, trivial, f13⟩
  refine J_iload_n E dX7_years_0 1 rfl ?_
  refine J_iconst E 1 dX7_years_1 (by decide) ?_
  refine J_bipush E 60 dX7_years_2 (by decide) ?_
  refine J_callSI E cal_X7_isWithin wd361 [.int x_0, .int 1, .int 60] [] (ct_X7_isWithin l D dA G v w (hOk) x_0 1 60) rfl rfl (Nat.le_of_ble_eq_true rfl) ⟨rfl, rfl⟩ ⟨Nat.le_of_ble_eq_true rfl, Nat.le_of_ble_eq_true rfl⟩ dX7_years_4 (fun x21 v18 w19 p20 => ?_)
  rw [p20.1, p20.2.1]
  have b22 : Bd x21 0 1 := p20.2.2.1
  refine J_if_ne E 15 dX7_years_7 (by decide) (fun c23 => ?_) (fun c23 => ?_)
  · have b24 : Bd x21 1 1 := (Bd.ne_lo c23 b22 (Bd.lit 0 0 (by decide))).w _ _ (by decide)
    have g25 := (p20.2.2.2.1).resolve_left c23
    have b26 : Bd x_0 1 I1 := Bd.le_r g25.1 (Bd.lit 1 1 (by decide)) (Bd.any x_0) 1 (by decide)
    have b27 : Bd x_0 1 60 := Bd.le_l g25.2 b26 (Bd.lit 60 60 (by decide)) 60 (by decide)
    refine J_aload_n E dX7_years_15 0 rfl ?_
    refine J_getR E in_X7 rfl (S_X7.h S0) 0 (by decide) wd308 rfl dX7_years_16 ?_
    refine J_getRN E in_X6 rfl (S_X6.h (S_X7.f0 S0)) 6 (by decide) wd209 rfl dX7_years_19 ?_
    refine J_getIN E in_X2 rfl (S_X2.h (S_X6.f6 (S_X7.f0 S0))) 3 (by decide) wd161 rfl dX7_years_22 (fun x28 e29 => ?_)
    refine J_sipush E 999 dX7_years_25 (by decide) ?_
    refine J_icmp_ge E 38 dX7_years_28 (by decide) (fun c30 => ?_) (fun c30 => ?_)
    · have b31 : Bd x28 999 I1 := Bd.le_r c30 (Bd.lit 999 999 (by decide)) (Bd.any x28) 999 (by decide)
      exact J.sub [0, 1] rfl (J38 v w (hOk) (Kp.rf) Fr.rf b27)
    · have b32 : Bd x28 I0 998 := Bd.lt_l (nle c30) (Bd.any x28) (Bd.lit 999 999 (by decide)) 998 (by decide)
      refine J_aload_n E dX7_years_31 0 rfl ?_
      refine J_getR E in_X7 rfl (S_X7.h S0) 0 (by decide) wd308 rfl dX7_years_32 ?_
      refine J_callVNV E cal_X6_remember wd595 rfl (S_X6.h (S_X7.f0 S0)) [] [] (ct_X6_remember l D dA G v w (hOk) (rf G h0 0) (S_X7.f0 S0)) rfl rfl (Nat.le_of_ble_eq_true rfl) ⟨rfl, rfl⟩ ⟨Nat.le_of_ble_eq_true rfl, Nat.le_of_ble_eq_true rfl⟩ dX7_years_35 (fun v33 w34 p35 => ?_)
      have o37 := p35.1
      have k38 : Kp G v v33 := (Kp.rf).tr p35.2.1
      have f39 : Fr G [2, 6, 7, 107, 40108] v v33 := Fr.tr Fr.rf (p35.2.2) (by decide)
      exact J.sub [0, 1] rfl (J38 v33 w34 (o37) (k38) f39 b27)
  · have b40 : Bd x21 0 0 := Bd.eq_l c23 b22 (Bd.lit 0 0 (by decide)) 0 0 (by decide)
    have g41 : ¬ (1 ≤ x_0 ∧ x_0 ≤ 60) := (p20.2.2.2.2).resolve_left (fun h9 => h9 c23)
    refine J_aload_n E dX7_years_10 0 rfl ?_
    refine J_callVI E cal_X7_bad wd364 rfl (S_X7.h S0) [] [] (ct_X7_bad l D dA G v w (hOk) h0 S0) rfl rfl (Nat.le_of_ble_eq_true rfl) ⟨rfl, rfl⟩ ⟨Nat.le_of_ble_eq_true rfl, Nat.le_of_ble_eq_true rfl⟩ dX7_years_11 (fun x45 v42 w43 p44 => ?_)
    have o46 := p44.1
    have k47 : Kp G v v42 := (Kp.rf).tr p44.2.1
    have f48 : Fr G [2, 6, 7, 107, 40108] v v42 := Fr.tr Fr.rf (p44.2.2.2) (by decide)
    have b49 : Bd x45 (-2) (-2) := p44.2.2.1
    exact J_iret E hr dX7_years_14 ⟨o46, k47, trivial, f48⟩

abbrev rm_X7_undo : Room := { frames := 2, cells := 0, slots := 0, locals := 42 }
set_option maxHeartbeats 4000000 in
set_option maxRecDepth 100000 in
theorem ct_X7_undo (l : Launch) (D : va_G) (dA : Nat → ClassId) (G : Gm) (v : Mv) (w : Mw) (hOk : Ok G v w) (h0 : Nat) (S0 : S_X7 G h0) : CtI l yX7_undo cX7_undo 1 (some .int) rm_X7_undo D dA G [.ref h0] v w (fun r v1 w1 => Ok G v1 w1 ∧ Kp G v v1 ∧ True ∧ Fr G [2, 6, 7, 107] v v1) := by
  refine CtI.of RX7 [(0, .ref h0)] (Nat.le_of_ble_eq_true rfl) rfl (by decide) rfl ?_
  intro p e s m args below meth c E hr
  refine J_aload_n E dX7_undo_0 0 rfl ?_
  refine J_getR E in_X7 rfl (S_X7.h S0) 0 (by decide) wd308 rfl dX7_undo_1 ?_
  refine J_getIN E in_X6 rfl (S_X6.h (S_X7.f0 S0)) 8 (by decide) wd212 rfl dX7_undo_4 (fun x1 e2 => ?_)
  have b3 : Bd x1 0 8 := Ok.fd hOk e2 (S_X6.h (S_X7.f0 S0)) rfl
  refine J_if_gt E 15 dX7_undo_7 (by decide) (fun c4 => ?_) (fun c4 => ?_)
  · have b5 : Bd x1 1 8 := Bd.lt_r c4 (Bd.lit 0 0 (by decide)) b3 1 (by decide)
    refine J_aload_n E dX7_undo_15 0 rfl ?_
    refine J_getR E in_X7 rfl (S_X7.h S0) 0 (by decide) wd308 rfl dX7_undo_16 ?_
    refine J_callVNV E cal_X6_bringBack wd635 rfl (S_X6.h (S_X7.f0 S0)) [] [] (ct_X6_bringBack l D dA G v w (hOk) (rf G h0 0) (S_X7.f0 S0) x1 (e2) b5) rfl rfl (Nat.le_of_ble_eq_true rfl) ⟨rfl, rfl⟩ ⟨Nat.le_of_ble_eq_true rfl, Nat.le_of_ble_eq_true rfl⟩ dX7_undo_19 (fun v6 w7 p8 => ?_)
    have o10 := p8.1
    have k11 : Kp G v v6 := (Kp.rf).tr p8.2.1
    have f12 : Fr G [2, 6, 7, 107] v v6 := Fr.tr Fr.rf (p8.2.2) (by decide)
    refine J_aload_n E dX7_undo_22 0 rfl ?_
    refine J_getR E in_X7 rfl (S_X7.h S0) 0 (by decide) wd308 rfl dX7_undo_23 ?_
    refine J_getRN E in_X6 rfl (S_X6.h (S_X7.f0 S0)) 6 (by decide) wd209 rfl dX7_undo_26 ?_
    refine J_getIN E in_X2 rfl (S_X2.h (S_X6.f6 (S_X7.f0 S0))) 3 (by decide) wd161 rfl dX7_undo_29 (fun x13 e14 => ?_)
    exact J_iret E hr dX7_undo_32 ⟨o10, k11, trivial, f12⟩
  · have b15 : Bd x1 0 0 := Bd.le_l (nlt c4) b3 (Bd.lit 0 0 (by decide)) 0 (by decide)
    refine J_aload_n E dX7_undo_10 0 rfl ?_
    refine J_callVI E cal_X7_no wd591 rfl (S_X7.h S0) [] [] (ct_X7_no l D dA G v w (hOk) h0 S0) rfl rfl (Nat.le_of_ble_eq_true rfl) ⟨rfl, rfl⟩ ⟨Nat.le_of_ble_eq_true rfl, Nat.le_of_ble_eq_true rfl⟩ dX7_undo_11 (fun x19 v16 w17 p18 => ?_)
    have o20 := p18.1
    have k21 : Kp G v v16 := (Kp.rf).tr p18.2.1
    have f22 : Fr G [2, 6, 7, 107] v v16 := Fr.tr Fr.rf (p18.2.2.2) (by decide)
    have b23 : Bd x19 (-3) (-3) := p18.2.2.1
    exact J_iret E hr dX7_undo_14 ⟨o20, k21, trivial, f22⟩
