def K_X8_look_c1 (G : Gm) (w : Mw) (h0 : Nat) (v9 : Mv) (x12 : Int32) : Int32 × Mv :=
  (x12, v9)
def K_X8_look_e (G : Gm) (w : Mw) (v : Mv) (h0 : Nat) (x_0 : Int32) : Int32 × Mv :=
  if (F_X8_isThing G w v h0 x_0) = (0 : Int32) then (K_X8_look_c1 G w h0 ((F_X8_bad G w v h0).2) ((F_X8_bad G w v h0).1)) else (((F_X8_partBy G w v h0 (F_X8_kindsOf G w v h0 x_0 (1 : Int32)) (v (rf G h0 1) (Int32.toNatClampNeg ((13 : Int32) + x_0))) (60 : Int32) (1 : Int32)), v))
def F_X8_look (G : Gm) (w : Mw) (v : Mv) (h0 : Nat) (x_0 : Int32) : Int32 × Mv := K_X8_look_e G w v h0 x_0
set_option maxRecDepth 100000 in
theorem kx_X8_look_1 {G : Gm} {w : Mw} {v : Mv} {h0 : Nat} {x_0 : Int32} {v9 : Mv} {x12 : Int32} {x4 : Int32} (a0 : x4 = F_X8_isThing G w v h0 x_0) (a1 : x12 = (F_X8_bad G w v h0).1) (a2 : v9 = (F_X8_bad G w v h0).2) (k0 : x4 = (0 : Int32)) : K_X8_look_e G w v h0 x_0 = K_X8_look_c1 G w h0 v9 x12 := by
  subst a2; subst a1; subst a0; first | rw [K_X8_look_e, if_pos k0] | simp only [K_X8_look_e, if_pos k0]
set_option maxRecDepth 100000 in
theorem kx_X8_look_2 {G : Gm} {w : Mw} {h0 : Nat} {v9 : Mv} {x12 : Int32}   : K_X8_look_c1 G w h0 v9 x12 = (x12, v9) := by
  first | rw [K_X8_look_c1] | simp only [K_X8_look_c1]
set_option maxRecDepth 100000 in
theorem kx_X8_look_3 {G : Gm} {w : Mw} {v : Mv} {h0 : Nat} {x_0 : Int32} {x35 : Int32} {x27 : Int32} {x24 : Int32} {x30 : Int32} {x4 : Int32} (a0 : x4 = F_X8_isThing G w v h0 x_0) (a1 : x24 = F_X8_kindsOf G w v h0 x_0 (1 : Int32)) (a2 : x27 = (13 : Int32) + x_0) (a3 : x30 = v (rf G h0 1) (Int32.toNatClampNeg x27)) (a4 : x35 = F_X8_partBy G w v h0 x24 x30 (60 : Int32) (1 : Int32)) (k0 : ¬ (x4 = (0 : Int32))) : K_X8_look_e G w v h0 x_0 = (x35, v) := by
  subst a4; subst a3; subst a2; subst a1; subst a0; first | rw [K_X8_look_e, if_neg k0] | simp only [K_X8_look_e, if_neg k0]
abbrev rm_X8_look : Room := { frames := 2, cells := 0, slots := 0, locals := 57 }
set_option maxHeartbeats 4000000 in
set_option maxRecDepth 100000 in
theorem ct_X8_look (l : Launch) (D : va_G) (dA : Nat → ClassId) (G : Gm) (v : Mv) (w : Mw) (hOk : Ok G v w) (h0 : Nat) (S0 : S_X8 G h0) (x_0 : Int32) : CtI l yX8_look cX8_look 2 (some .int) rm_X8_look D dA G [.ref h0, .int x_0] v w (fun r v1 w1 => Ok G v1 w1 ∧ Kp G v v1 ∧ True ∧ (w1 = w ∧ (r, v1) = F_X8_look G w v h0 x_0) ∧ Fr G [103] v v1) := by
  refine CtI.of RX8 [(0, .ref h0), (1, .int x_0)] (Nat.le_of_ble_eq_true rfl) rfl (by decide) rfl ?_
  intro p e s m args below meth c E hr
  have hK : K_X8_look_e G w v h0 x_0 = F_X8_look G w v h0 x_0 := rfl
  refine J_aload_n E dX8_look_0 0 rfl ?_
  refine J_iload_n E dX8_look_1 1 rfl ?_
  refine J_callVI E cal_X8_isThing wd1124 rfl (S_X8.h S0) [.int x_0] [] (ct_X8_isThing l D dA G v w (hOk) h0 S0 x_0) rfl rfl (Nat.le_of_ble_eq_true rfl) ⟨rfl, rfl⟩ ⟨Nat.le_of_ble_eq_true rfl, Nat.le_of_ble_eq_true rfl⟩ dX8_look_2 (fun x4 v1 w2 p3 => ?_)
  rw [p3.1, p3.2.1]
  have b5 : Bd x4 0 1 := p3.2.2.1
  have e6 : x4 = F_X8_isThing G w v h0 x_0 := (p3.2.2.2.2)
  refine J_if_eq E 33 dX8_look_5 (by decide) (fun c7 => ?_) (fun c7 => ?_)
  · have b8 : Bd x4 0 0 := Bd.eq_l c7 b5 (Bd.lit 0 0 (by decide)) 0 0 (by decide)
    refine J_aload_n E dX8_look_33 0 rfl ?_
    refine J_callVI E cal_X8_bad wd999 rfl (S_X8.h S0) [] [] (ct_X8_bad l D dA G v w (hOk) h0 S0) rfl rfl (Nat.le_of_ble_eq_true rfl) ⟨rfl, rfl⟩ ⟨Nat.le_of_ble_eq_true rfl, Nat.le_of_ble_eq_true rfl⟩ dX8_look_34 (fun x12 v9 w10 p11 => ?_)
    have ew9 : w = w10 := p11.2.2.2.1.1.symm
    subst ew9
    have o13 := p11.1
    have k14 : Kp G v v9 := (Kp.rf).tr p11.2.1
    have f15 : Fr G [103] v v9 := Fr.tr Fr.rf (p11.2.2.2.2) (by decide)
    have b16 : Bd x12 (-2) (-2) := p11.2.2.1
    have e17 : x12 = (F_X8_bad G w v h0).1 := congrArg Prod.fst (p11.2.2.2.1).2
    have e18 : v9 = (F_X8_bad G w v h0).2 := congrArg Prod.snd (p11.2.2.2.1).2
    have hK : K_X8_look_c1 G w h0 v9 x12 = F_X8_look G w v h0 x_0 := ((kx_X8_look_1 (e6) (e17) (e18) (c7)).symm.trans hK)
    exact J_iret E hr dX8_look_37 ⟨o13, k14, trivial, ⟨⟨rfl, ((kx_X8_look_2).symm.trans hK)⟩, f15⟩⟩
  · have b19 : Bd x4 1 1 := (Bd.ne_lo c7 b5 (Bd.lit 0 0 (by decide))).w _ _ (by decide)
    have b20 : Bd x_0 0 6 := (p3.2.2.2.1).resolve_left c7
    refine J_aload_n E dX8_look_8 0 rfl ?_
    refine J_aload_n E dX8_look_9 0 rfl ?_
    refine J_iload_n E dX8_look_10 1 rfl ?_
    refine J_iconst E 1 dX8_look_11 (by decide) ?_
    refine J_callVI E cal_X8_kindsOf wd1272 rfl (S_X8.h S0) [.int x_0, .int 1] [.ref h0] (ct_X8_kindsOf l D dA G v w (hOk) h0 S0 x_0 b20 1 ((Bd.lit 1 1 (by decide)).w 0 1 (by decide))) rfl rfl (Nat.le_of_ble_eq_true rfl) ⟨rfl, rfl⟩ ⟨Nat.le_of_ble_eq_true rfl, Nat.le_of_ble_eq_true rfl⟩ dX8_look_12 (fun x24 v21 w22 p23 => ?_)
    rw [p23.1, p23.2.1]
    have b25 : Bd x24 0 127 := p23.2.2.1
    have e26 : x24 = F_X8_kindsOf G w v h0 x_0 (1 : Int32) := (p23.2.2.2)
    refine J_aload_n E dX8_look_15 0 rfl ?_
    refine J_getR E in_X8 rfl (S_X8.h S0) 1 (by decide) wd936 rfl dX8_look_16 ?_
    refine J_bipush E 13 dX8_look_19 (by decide) ?_
    refine J_iload_n E dX8_look_21 1 rfl ?_
    refine J_iadd E dX8_look_22 (fun x27 e28 => ?_)
    have b29 : Bd x27 13 19 := (Bd.add e28 (Bd.lit 13 13 (by decide)) b20 (by decide)).w _ _ (by decide)
    refine J_iald1 E (S_X8.f1 S0) (Bd.in b29 (by decide)) dX8_look_23 (fun x30 e31 => ?_)
    refine J_bipush E 60 dX8_look_24 (by decide) ?_
    refine J_iconst E 1 dX8_look_26 (by decide) ?_
    refine J_callVI E cal_X8_partBy wd1284 rfl (S_X8.h S0) [.int x24, .int x30, .int 60, .int 1] [] (ct_X8_partBy l D dA G v w (hOk) h0 S0 x24 x30 60 ((Bd.lit 60 60 (by decide)).w 60 99 (by decide)) 1 ((Bd.lit 1 1 (by decide)).w 0 1 (by decide))) rfl rfl (Nat.le_of_ble_eq_true rfl) ⟨rfl, rfl⟩ ⟨Nat.le_of_ble_eq_true rfl, Nat.le_of_ble_eq_true rfl⟩ dX8_look_27 (fun x35 v32 w33 p34 => ?_)
    rw [p34.1, p34.2.1]
    have b36 : Bd x35 (-1) 99 := p34.2.2.1
    have e37 : x35 = F_X8_partBy G w v h0 x24 x30 (60 : Int32) (1 : Int32) := (p34.2.2.2)
    refine J_goto E 37 dX8_look_30 (by decide) ?_
    exact J_iret E hr dX8_look_37 ⟨hOk, Kp.rf, trivial, ⟨⟨rfl, ((kx_X8_look_3 (e6) (e26) (e28) (e31) (e37) (c7)).symm.trans hK)⟩, Fr.rf⟩⟩

def K_X8_ask_c1 (G : Gm) (w : Mw) (h0 : Nat) (v9 : Mv) (x12 : Int32) : Int32 × Mv :=
  (x12, v9)
def K_X8_ask_e (G : Gm) (w : Mw) (v : Mv) (h0 : Nat) (x_0 : Int32) : Int32 × Mv :=
  if (F_X8_isOne G w v h0 x_0) = (0 : Int32) then (K_X8_ask_c1 G w h0 ((F_X8_bad G w v h0).2) ((F_X8_bad G w v h0).1)) else (((F_X8_partBy G w v h0 (F_X8_kindsOf G w v h0 x_0 (0 : Int32)) (v (rf G h0 1) (Int32.toNatClampNeg ((27 : Int32) + x_0))) (99 : Int32) (0 : Int32)), v))
def F_X8_ask (G : Gm) (w : Mw) (v : Mv) (h0 : Nat) (x_0 : Int32) : Int32 × Mv := K_X8_ask_e G w v h0 x_0
set_option maxRecDepth 100000 in
theorem kx_X8_ask_1 {G : Gm} {w : Mw} {v : Mv} {h0 : Nat} {x_0 : Int32} {v9 : Mv} {x12 : Int32} {x4 : Int32} (a0 : x4 = F_X8_isOne G w v h0 x_0) (a1 : x12 = (F_X8_bad G w v h0).1) (a2 : v9 = (F_X8_bad G w v h0).2) (k0 : x4 = (0 : Int32)) : K_X8_ask_e G w v h0 x_0 = K_X8_ask_c1 G w h0 v9 x12 := by
  subst a2; subst a1; subst a0; first | rw [K_X8_ask_e, if_pos k0] | simp only [K_X8_ask_e, if_pos k0]
set_option maxRecDepth 100000 in
theorem kx_X8_ask_2 {G : Gm} {w : Mw} {h0 : Nat} {v9 : Mv} {x12 : Int32}   : K_X8_ask_c1 G w h0 v9 x12 = (x12, v9) := by
  first | rw [K_X8_ask_c1] | simp only [K_X8_ask_c1]
set_option maxRecDepth 100000 in
theorem kx_X8_ask_3 {G : Gm} {w : Mw} {v : Mv} {h0 : Nat} {x_0 : Int32} {x35 : Int32} {x27 : Int32} {x24 : Int32} {x30 : Int32} {x4 : Int32} (a0 : x4 = F_X8_isOne G w v h0 x_0) (a1 : x24 = F_X8_kindsOf G w v h0 x_0 (0 : Int32)) (a2 : x27 = (27 : Int32) + x_0) (a3 : x30 = v (rf G h0 1) (Int32.toNatClampNeg x27)) (a4 : x35 = F_X8_partBy G w v h0 x24 x30 (99 : Int32) (0 : Int32)) (k0 : ¬ (x4 = (0 : Int32))) : K_X8_ask_e G w v h0 x_0 = (x35, v) := by
  subst a4; subst a3; subst a2; subst a1; subst a0; first | rw [K_X8_ask_e, if_neg k0] | simp only [K_X8_ask_e, if_neg k0]
abbrev rm_X8_ask : Room := { frames := 2, cells := 0, slots := 0, locals := 57 }
set_option maxHeartbeats 4000000 in
set_option maxRecDepth 100000 in
theorem ct_X8_ask (l : Launch) (D : va_G) (dA : Nat → ClassId) (G : Gm) (v : Mv) (w : Mw) (hOk : Ok G v w) (h0 : Nat) (S0 : S_X8 G h0) (x_0 : Int32) : CtI l yX8_ask cX8_ask 2 (some .int) rm_X8_ask D dA G [.ref h0, .int x_0] v w (fun r v1 w1 => Ok G v1 w1 ∧ Kp G v v1 ∧ True ∧ (w1 = w ∧ (r, v1) = F_X8_ask G w v h0 x_0) ∧ Fr G [103] v v1) := by
  refine CtI.of RX8 [(0, .ref h0), (1, .int x_0)] (Nat.le_of_ble_eq_true rfl) rfl (by decide) rfl ?_
  intro p e s m args below meth c E hr
  have hK : K_X8_ask_e G w v h0 x_0 = F_X8_ask G w v h0 x_0 := rfl
  refine J_aload_n E dX8_ask_0 0 rfl ?_
  refine J_iload_n E dX8_ask_1 1 rfl ?_
  refine J_callVI E cal_X8_isOne wd1120 rfl (S_X8.h S0) [.int x_0] [] (ct_X8_isOne l D dA G v w (hOk) h0 S0 x_0) rfl rfl (Nat.le_of_ble_eq_true rfl) ⟨rfl, rfl⟩ ⟨Nat.le_of_ble_eq_true rfl, Nat.le_of_ble_eq_true rfl⟩ dX8_ask_2 (fun x4 v1 w2 p3 => ?_)
  rw [p3.1, p3.2.1]
  have b5 : Bd x4 0 1 := p3.2.2.1
  have e6 : x4 = F_X8_isOne G w v h0 x_0 := (p3.2.2.2.2)
  refine J_if_eq E 33 dX8_ask_5 (by decide) (fun c7 => ?_) (fun c7 => ?_)
  · have b8 : Bd x4 0 0 := Bd.eq_l c7 b5 (Bd.lit 0 0 (by decide)) 0 0 (by decide)
    refine J_aload_n E dX8_ask_33 0 rfl ?_
    refine J_callVI E cal_X8_bad wd999 rfl (S_X8.h S0) [] [] (ct_X8_bad l D dA G v w (hOk) h0 S0) rfl rfl (Nat.le_of_ble_eq_true rfl) ⟨rfl, rfl⟩ ⟨Nat.le_of_ble_eq_true rfl, Nat.le_of_ble_eq_true rfl⟩ dX8_ask_34 (fun x12 v9 w10 p11 => ?_)
    have ew9 : w = w10 := p11.2.2.2.1.1.symm
    subst ew9
    have o13 := p11.1
    have k14 : Kp G v v9 := (Kp.rf).tr p11.2.1
    have f15 : Fr G [103] v v9 := Fr.tr Fr.rf (p11.2.2.2.2) (by decide)
    have b16 : Bd x12 (-2) (-2) := p11.2.2.1
    have e17 : x12 = (F_X8_bad G w v h0).1 := congrArg Prod.fst (p11.2.2.2.1).2
    have e18 : v9 = (F_X8_bad G w v h0).2 := congrArg Prod.snd (p11.2.2.2.1).2
    have hK : K_X8_ask_c1 G w h0 v9 x12 = F_X8_ask G w v h0 x_0 := ((kx_X8_ask_1 (e6) (e17) (e18) (c7)).symm.trans hK)
    exact J_iret E hr dX8_ask_37 ⟨o13, k14, trivial, ⟨⟨rfl, ((kx_X8_ask_2).symm.trans hK)⟩, f15⟩⟩
  · have b19 : Bd x4 1 1 := (Bd.ne_lo c7 b5 (Bd.lit 0 0 (by decide))).w _ _ (by decide)
    have b20 : Bd x_0 0 6 := (p3.2.2.2.1).resolve_left c7
    refine J_aload_n E dX8_ask_8 0 rfl ?_
    refine J_aload_n E dX8_ask_9 0 rfl ?_
    refine J_iload_n E dX8_ask_10 1 rfl ?_
    refine J_iconst E 0 dX8_ask_11 (by decide) ?_
    refine J_callVI E cal_X8_kindsOf wd1272 rfl (S_X8.h S0) [.int x_0, .int 0] [.ref h0] (ct_X8_kindsOf l D dA G v w (hOk) h0 S0 x_0 b20 0 ((Bd.lit 0 0 (by decide)).w 0 1 (by decide))) rfl rfl (Nat.le_of_ble_eq_true rfl) ⟨rfl, rfl⟩ ⟨Nat.le_of_ble_eq_true rfl, Nat.le_of_ble_eq_true rfl⟩ dX8_ask_12 (fun x24 v21 w22 p23 => ?_)
    rw [p23.1, p23.2.1]
    have b25 : Bd x24 0 127 := p23.2.2.1
    have e26 : x24 = F_X8_kindsOf G w v h0 x_0 (0 : Int32) := (p23.2.2.2)
    refine J_aload_n E dX8_ask_15 0 rfl ?_
    refine J_getR E in_X8 rfl (S_X8.h S0) 1 (by decide) wd936 rfl dX8_ask_16 ?_
    refine J_bipush E 27 dX8_ask_19 (by decide) ?_
    refine J_iload_n E dX8_ask_21 1 rfl ?_
    refine J_iadd E dX8_ask_22 (fun x27 e28 => ?_)
    have b29 : Bd x27 27 33 := (Bd.add e28 (Bd.lit 27 27 (by decide)) b20 (by decide)).w _ _ (by decide)
    refine J_iald1 E (S_X8.f1 S0) (Bd.in b29 (by decide)) dX8_ask_23 (fun x30 e31 => ?_)
    refine J_bipush E 99 dX8_ask_24 (by decide) ?_
    refine J_iconst E 0 dX8_ask_26 (by decide) ?_
    refine J_callVI E cal_X8_partBy wd1284 rfl (S_X8.h S0) [.int x24, .int x30, .int 99, .int 0] [] (ct_X8_partBy l D dA G v w (hOk) h0 S0 x24 x30 99 ((Bd.lit 99 99 (by decide)).w 60 99 (by decide)) 0 ((Bd.lit 0 0 (by decide)).w 0 1 (by decide))) rfl rfl (Nat.le_of_ble_eq_true rfl) ⟨rfl, rfl⟩ ⟨Nat.le_of_ble_eq_true rfl, Nat.le_of_ble_eq_true rfl⟩ dX8_ask_27 (fun x35 v32 w33 p34 => ?_)
    rw [p34.1, p34.2.1]
    have b36 : Bd x35 (-1) 99 := p34.2.2.1
    have e37 : x35 = F_X8_partBy G w v h0 x24 x30 (99 : Int32) (0 : Int32) := (p34.2.2.2)
    refine J_goto E 37 dX8_ask_30 (by decide) ?_
    exact J_iret E hr dX8_ask_37 ⟨hOk, Kp.rf, trivial, ⟨⟨rfl, ((kx_X8_ask_3 (e6) (e26) (e28) (e31) (e37) (c7)).symm.trans hK)⟩, Fr.rf⟩⟩

abbrev rm_X8_gets : Room := { frames := 0, cells := 0, slots := 0, locals := 0 }
set_option maxHeartbeats 4000000 in
set_option maxRecDepth 100000 in
theorem ct_X8_gets (l : Launch) (D : va_G) (dA : Nat → ClassId) (G : Gm) (v : Mv) (w : Mw) (hOk : Ok G v w) (x_0 : Int32) (bx_0 : Bd x_0 0 1) (x_1 : Int32) (bx_1 : Bd x_1 0 1) (x_2 : Int32) (bx_2 : Bd x_2 0 1) (x_3 : Int32) (bx_3 : Bd x_3 0 1) (x_4 : Int32) (bx_4 : Bd x_4 0 1) : CtI l yX8_gets cX8_gets 5 (some .int) rm_X8_gets D dA G [.int x_0, .int x_1, .int x_2, .int x_3, .int x_4] v w (fun r v1 w1 => v1 = v ∧ w1 = w ∧ Bd r (-3) 5 ∧ True) := by
  refine CtI.of RX8 [(0, .int x_0), (1, .int x_1), (2, .int x_2), (3, .int x_3), (4, .int x_4)] (Nat.le_of_ble_eq_true rfl) rfl (by decide) rfl ?_
  intro p e s m args below meth c E hr
  refine J_iload_n E dX8_gets_0 0 rfl ?_
  refine J_if_ne E 18 dX8_gets_1 (by decide) (fun c1 => ?_) (fun c1 => ?_)
  · have b2 : Bd x_0 1 1 := (Bd.ne_lo c1 bx_0 (Bd.lit 0 0 (by decide))).w _ _ (by decide)
    refine J_iload_n E dX8_gets_18 1 rfl ?_
    refine J_if_eq E 34 dX8_gets_19 (by decide) (fun c3 => ?_) (fun c3 => ?_)
    · have b4 : Bd x_1 0 0 := Bd.eq_l c3 bx_1 (Bd.lit 0 0 (by decide)) 0 0 (by decide)
      refine J_iload_n E dX8_gets_34 2 rfl ?_
      refine J_if_eq E 42 dX8_gets_35 (by decide) (fun c5 => ?_) (fun c5 => ?_)
      · have b6 : Bd x_2 0 0 := Bd.eq_l c5 bx_2 (Bd.lit 0 0 (by decide)) 0 0 (by decide)
        refine J_bipush E (-2) dX8_gets_42 (by decide) ?_
        exact J_iret E hr dX8_gets_44 ⟨rfl, rfl, ((Bd.lit (-2) (-2) (by decide)).w (-3) 5 (by decide)), trivial⟩
      · have b7 : Bd x_2 1 1 := (Bd.ne_lo c5 bx_2 (Bd.lit 0 0 (by decide))).w _ _ (by decide)
        refine J_iconst E 5 dX8_gets_38 (by decide) ?_
        refine J_goto E 44 dX8_gets_39 (by decide) ?_
        exact J_iret E hr dX8_gets_44 ⟨rfl, rfl, ((Bd.lit 5 5 (by decide)).w (-3) 5 (by decide)), trivial⟩
    · have b8 : Bd x_1 1 1 := (Bd.ne_lo c3 bx_1 (Bd.lit 0 0 (by decide))).w _ _ (by decide)
      refine J_iload E dX8_gets_22 4 rfl ?_
      refine J_if_eq E 31 dX8_gets_24 (by decide) (fun c9 => ?_) (fun c9 => ?_)
      · have b10 : Bd x_4 0 0 := Bd.eq_l c9 bx_4 (Bd.lit 0 0 (by decide)) 0 0 (by decide)
        refine J_bipush E (-3) dX8_gets_31 (by decide) ?_
        exact J_iret E hr dX8_gets_33 ⟨rfl, rfl, ((Bd.lit (-3) (-3) (by decide)).w (-3) 5 (by decide)), trivial⟩
      · have b11 : Bd x_4 1 1 := (Bd.ne_lo c9 bx_4 (Bd.lit 0 0 (by decide))).w _ _ (by decide)
        refine J_iconst E 3 dX8_gets_27 (by decide) ?_
        refine J_goto E 33 dX8_gets_28 (by decide) ?_
        exact J_iret E hr dX8_gets_33 ⟨rfl, rfl, ((Bd.lit 3 3 (by decide)).w (-3) 5 (by decide)), trivial⟩
  · have b12 : Bd x_0 0 0 := Bd.eq_l c1 bx_0 (Bd.lit 0 0 (by decide)) 0 0 (by decide)
    refine J_iload_n E dX8_gets_4 1 rfl ?_
    refine J_if_eq E 16 dX8_gets_5 (by decide) (fun c13 => ?_) (fun c13 => ?_)
    · have b14 : Bd x_1 0 0 := Bd.eq_l c13 bx_1 (Bd.lit 0 0 (by decide)) 0 0 (by decide)
      refine J_iconst E 0 dX8_gets_16 (by decide) ?_
      exact J_iret E hr dX8_gets_17 ⟨rfl, rfl, ((Bd.lit 0 0 (by decide)).w (-3) 5 (by decide)), trivial⟩
    · have b15 : Bd x_1 1 1 := (Bd.ne_lo c13 bx_1 (Bd.lit 0 0 (by decide))).w _ _ (by decide)
      refine J_iload_n E dX8_gets_8 3 rfl ?_
      refine J_if_ne E 16 dX8_gets_9 (by decide) (fun c16 => ?_) (fun c16 => ?_)
      · have b17 : Bd x_3 1 1 := (Bd.ne_lo c16 bx_3 (Bd.lit 0 0 (by decide))).w _ _ (by decide)
        refine J_iconst E 0 dX8_gets_16 (by decide) ?_
        exact J_iret E hr dX8_gets_17 ⟨rfl, rfl, ((Bd.lit 0 0 (by decide)).w (-3) 5 (by decide)), trivial⟩
      · have b18 : Bd x_3 0 0 := Bd.eq_l c16 bx_3 (Bd.lit 0 0 (by decide)) 0 0 (by decide)
        refine J_iconst E 1 dX8_gets_12 (by decide) ?_
        refine J_goto E 17 dX8_gets_13 (by decide) ?_
        exact J_iret E hr dX8_gets_17 ⟨rfl, rfl, ((Bd.lit 1 1 (by decide)).w (-3) 5 (by decide)), trivial⟩

abbrev rm_X8_tries : Room := { frames := 4, cells := 0, slots := 0, locals := 87 }
set_option maxHeartbeats 4000000 in
set_option maxRecDepth 100000 in
theorem ct_X8_tries (l : Launch) (D : va_G) (dA : Nat → ClassId) (G : Gm) (v : Mv) (w : Mw) (hOk : Ok G v w) (h0 : Nat) (S0 : S_X8 G h0) (x_0 : Int32) (x_1 : Int32) (x_2 : Int32) : CtI l yX8_tries cX8_tries 13 (some .int) rm_X8_tries D dA G [.ref h0, .int x_0, .int x_1, .int x_2] v w (fun r v1 w1 => Ok G v1 w1 ∧ Kp G v v1 ∧ True ∧ Fr G [103] v v1) := by
  refine CtI.of RX8 [(0, .ref h0), (1, .int x_0), (2, .int x_1), (3, .int x_2)] (Nat.le_of_ble_eq_true rfl) rfl (by decide) rfl ?_
  intro p e s m args below meth c E hr
  have J109 : ∀ n109 : Nat, ∀ x1 : Int32, Bd x1 0 1 → ∀ x3 : Int32, Bd x3 0 1 → ∀ x5 : Int32, Bd x5 0 1 → ∀ x7 : Int32, Bd x7 0 15 → ∀ x9 : Int32, Bd x9 0 4 → Mu x9 4 n109 → J p l e rm_X8_tries s m args below meth c 0 0 (MQ below (QcI D dA G (fun r v1 w1 => Ok G v1 w1 ∧ Kp G v v1 ∧ True ∧ Fr G [103] v v1)) args s 0 0 (dm G)) D dA G (dm G) s.heap 13 v w [(5, .int x1), (6, .int x3), (7, .int x5), (8, .int x7), (9, .int x9)] 109 [] := by
    intro n109
    induction n109 with
    | zero => intro x1 b2 x3 b4 x5 b6 x7 b8 x9 b10 hm; exact hm.zero b10 (by decide)
    | succ n109 ih109 =>
      intro x1 b2 x3 b4 x5 b6 x7 b8 x9 b10 hmu109
      have J239 : Bd x1 0 1 → Bd x3 0 1 → Bd x5 0 1 → Bd x9 0 3 → ∀ x15 : Int32, Bd x15 0 8 → ∀ x17 : Int32, Bd x17 0 15 → J p l e rm_X8_tries s m args below meth c 0 0 (MQ below (QcI D dA G (fun r v1 w1 => Ok G v1 w1 ∧ Kp G v v1 ∧ True ∧ Fr G [103] v v1)) args s 0 0 (dm G)) D dA G (dm G) s.heap 13 v w [(5, .int x1), (6, .int x3), (7, .int x5), (9, .int x9)] 239 [.int x15, .int x17] := by
        intro b11 b12 b13 b14 x15 b16 x17 b18
        refine J_ior E dX8_tries_239 (fun x19 e20 => ?_)
        have b21 : Bd x19 0 15 := Bd.or e20 b18 b16 4 (by decide)
        refine J_istore E [(8, .int x19), (5, .int x1), (6, .int x3), (7, .int x5), (9, .int x9)] dX8_tries_240 (by decide) rfl ?_
        refine J_iinc E 4 1 (fun z => [(9, .int z), (8, .int x19), (5, .int x1), (6, .int x3), (7, .int x5)]) dX8_tries_242 rfl (by decide) (by decide) (fun _ => rfl) (fun x22 e23 => ?_)
        have b24 : Bd x22 1 4 := (Bd.add e23 b14 (Bd.lit 1 1 (by decide)) (by decide)).w _ _ (by decide)
        refine J_goto E 109 dX8_tries_245 (by decide) ?_
        exact J.sub [2, 3, 4, 1, 0] rfl (ih109 x1 b11 x3 b12 x5 b13 x19 b21 x22 (b24.w 0 4 (by decide)) (Mu.step hmu109 e23 b14 (Bd.lit 1 1 (by decide)) (by decide)))
      have J222 : Bd x1 0 1 → Bd x3 0 1 → Bd x5 0 1 → Bd x7 0 15 → Bd x9 0 3 → ∀ x30 : Int32, Bd x30 0 1 → J p l e rm_X8_tries s m args below meth c 0 0 (MQ below (QcI D dA G (fun r v1 w1 => Ok G v1 w1 ∧ Kp G v v1 ∧ True ∧ Fr G [103] v v1)) args s 0 0 (dm G)) D dA G (dm G) s.heap 13 v w [(5, .int x1), (6, .int x3), (7, .int x5), (8, .int x7), (9, .int x9)] 222 [.int x30] := by
        intro b25 b26 b27 b28 b29 x30 b31
        refine J_istore E [(12, .int x30), (5, .int x1), (6, .int x3), (7, .int x5), (8, .int x7), (9, .int x9)] dX8_tries_222 (by decide) rfl ?_
        refine J_iload E dX8_tries_224 4 rfl ?_
        refine J_iload E dX8_tries_226 0 rfl ?_
        refine J_if_eq E 238 dX8_tries_228 (by decide) (fun c32 => ?_) (fun c32 => ?_)
        · have b33 : Bd x30 0 0 := Bd.eq_l c32 b31 (Bd.lit 0 0 (by decide)) 0 0 (by decide)
          refine J_iconst E 0 dX8_tries_238 (by decide) ?_
          exact J.sub [1, 2, 3, 5] rfl (J239 b25 b26 b27 b29 0 ((Bd.lit 0 0 (by decide)).w 0 8 (by decide)) x7 b28)
        · have b34 : Bd x30 1 1 := (Bd.ne_lo c32 b31 (Bd.lit 0 0 (by decide))).w _ _ (by decide)
          refine J_iconst E 1 dX8_tries_231 (by decide) ?_
          refine J_iload E dX8_tries_232 5 rfl ?_
          refine J_ishl E dX8_tries_234 (fun x35 e36 => ?_)
          have b37 : Bd x35 1 8 := Bd.shl1 e36 b29 3 (by decide)
          refine J_goto E 239 dX8_tries_235 (by decide) ?_
          exact J.sub [1, 2, 3, 5] rfl (J239 b25 b26 b27 b29 x35 (b37.w 0 8 (by decide)) x7 b28)
      have J221 : Bd x1 0 1 → Bd x3 0 1 → Bd x5 0 1 → Bd x7 0 15 → Bd x9 0 3 → J p l e rm_X8_tries s m args below meth c 0 0 (MQ below (QcI D dA G (fun r v1 w1 => Ok G v1 w1 ∧ Kp G v v1 ∧ True ∧ Fr G [103] v v1)) args s 0 0 (dm G)) D dA G (dm G) s.heap 13 v w [(5, .int x1), (6, .int x3), (7, .int x5), (8, .int x7), (9, .int x9)] 221 [] := by
        intro b38 b39 b40 b41 b42
        refine J_iconst E 0 dX8_tries_221 (by decide) ?_
        exact J.sub [0, 1, 2, 3, 4] rfl (J222 b38 b39 b40 b41 b42 0 ((Bd.lit 0 0 (by decide)).w 0 1 (by decide)))
      have J203 : Bd x1 0 1 → Bd x3 0 1 → Bd x5 0 1 → Bd x7 0 15 → Bd x9 0 3 → ∀ x48 : Int32, Bd x48 0 1 → ∀ x50 : Int32, Bd x50 0 1 → ∀ x52 : Int32, Bd x52 (-3) 5 → J p l e rm_X8_tries s m args below meth c 0 0 (MQ below (QcI D dA G (fun r v1 w1 => Ok G v1 w1 ∧ Kp G v v1 ∧ True ∧ Fr G [103] v v1)) args s 0 0 (dm G)) D dA G (dm G) s.heap 13 v w [(5, .int x1), (6, .int x3), (7, .int x5), (8, .int x7), (9, .int x9), (10, .int x48)] 203 [.int x50, .int x52] := by
        intro b43 b44 b45 b46 b47 x48 b49 x50 b51 x52 b53
        refine J_iload E dX8_tries_203 5 rfl ?_
        refine J_iload E dX8_tries_205 1 rfl ?_
        refine J_iload E dX8_tries_207 0 rfl ?_
        refine J_iload E dX8_tries_209 2 rfl ?_
        refine J_callSI E cal_X8_gets wd1296 [.int x50, .int x48, .int x3, .int x1, .int x5] [.int x52] (ct_X8_gets l D dA G v w (hOk) x50 b51 x48 b49 x3 b44 x1 b43 x5 b45) rfl rfl (Nat.le_of_ble_eq_true rfl) ⟨rfl, rfl⟩ ⟨Nat.le_of_ble_eq_true rfl, Nat.le_of_ble_eq_true rfl⟩ dX8_tries_211 (fun x57 v54 w55 p56 => ?_)
        rw [p56.1, p56.2.1]
        have b58 : Bd x57 (-3) 5 := p56.2.2.1
        refine J_icmp_lt E 221 dX8_tries_214 (by decide) (fun c59 => ?_) (fun c59 => ?_)
        · have b60 : Bd x52 (-3) 4 := Bd.lt_l c59 b53 b58 4 (by decide)
          have b61 : Bd x57 (-2) 5 := Bd.lt_r c59 b53 b58 (-2) (by decide)
          exact J.sub [0, 1, 2, 3, 4] rfl (J221 b43 b44 b45 b46 b47)
        · refine J_iconst E 1 dX8_tries_217 (by decide) ?_
          refine J_goto E 222 dX8_tries_218 (by decide) ?_
          exact J.sub [0, 1, 2, 3, 4] rfl (J222 b43 b44 b45 b46 b47 1 ((Bd.lit 1 1 (by decide)).w 0 1 (by decide)))
      have J173 : Bd x1 0 1 → Bd x3 0 1 → Bd x5 0 1 → Bd x7 0 15 → Bd x9 0 3 → ∀ x67 : Int32, Bd x67 0 1 → ∀ x69 : Int32, Bd x69 0 1 → ∀ x71 : Int32, Bd x71 0 1 → J p l e rm_X8_tries s m args below meth c 0 0 (MQ below (QcI D dA G (fun r v1 w1 => Ok G v1 w1 ∧ Kp G v v1 ∧ True ∧ Fr G [103] v v1)) args s 0 0 (dm G)) D dA G (dm G) s.heap 13 v w [(5, .int x1), (6, .int x3), (7, .int x5), (8, .int x7), (9, .int x9), (10, .int x67), (11, .int x69)] 173 [.int x71] := by
        intro b62 b63 b64 b65 b66 x67 b68 x69 b70 x71 b72
        refine J_istore E [(12, .int x71), (5, .int x1), (6, .int x3), (7, .int x5), (8, .int x7), (9, .int x9), (10, .int x67), (11, .int x69)] dX8_tries_173 (by decide) rfl ?_
        refine J_iload E dX8_tries_175 0 rfl ?_
        refine J_if_eq E 221 dX8_tries_177 (by decide) (fun c73 => ?_) (fun c73 => ?_)
        · have b74 : Bd x71 0 0 := Bd.eq_l c73 b72 (Bd.lit 0 0 (by decide)) 0 0 (by decide)
          exact J.sub [1, 2, 3, 4, 5] rfl (J221 b62 b63 b64 b65 b66)
        · have b75 : Bd x71 1 1 := (Bd.ne_lo c73 b72 (Bd.lit 0 0 (by decide))).w _ _ (by decide)
          refine J_iload E dX8_tries_180 7 rfl ?_
          refine J_iload E dX8_tries_182 6 rfl ?_
          refine J_iload E dX8_tries_184 2 rfl ?_
          refine J_iload E dX8_tries_186 1 rfl ?_
          refine J_iload E dX8_tries_188 3 rfl ?_
          refine J_callSI E cal_X8_gets wd1296 [.int x69, .int x67, .int x3, .int x1, .int x5] [] (ct_X8_gets l D dA G v w (hOk) x69 b70 x67 b68 x3 b63 x1 b62 x5 b64) rfl rfl (Nat.le_of_ble_eq_true rfl) ⟨rfl, rfl⟩ ⟨Nat.le_of_ble_eq_true rfl, Nat.le_of_ble_eq_true rfl⟩ dX8_tries_190 (fun x79 v76 w77 p78 => ?_)
          rw [p78.1, p78.2.1]
          have b80 : Bd x79 (-3) 5 := p78.2.2.1
          refine J_iload E dX8_tries_193 7 rfl ?_
          refine J_if_ne E 202 dX8_tries_195 (by decide) (fun c81 => ?_) (fun c81 => ?_)
          · have b82 : Bd x69 1 1 := (Bd.ne_lo c81 b70 (Bd.lit 0 0 (by decide))).w _ _ (by decide)
            refine J_iconst E 0 dX8_tries_202 (by decide) ?_
            exact J.sub [1, 2, 3, 4, 5, 6] rfl (J203 b62 b63 b64 b65 b66 x67 b68 0 ((Bd.lit 0 0 (by decide)).w 0 1 (by decide)) x79 b80)
          · have b83 : Bd x69 0 0 := Bd.eq_l c81 b70 (Bd.lit 0 0 (by decide)) 0 0 (by decide)
            refine J_iconst E 1 dX8_tries_198 (by decide) ?_
            refine J_goto E 203 dX8_tries_199 (by decide) ?_
            exact J.sub [1, 2, 3, 4, 5, 6] rfl (J203 b62 b63 b64 b65 b66 x67 b68 1 ((Bd.lit 1 1 (by decide)).w 0 1 (by decide)) x79 b80)
      have J154 : Bd x1 0 1 → Bd x3 0 1 → Bd x5 0 1 → Bd x7 0 15 → Bd x9 0 3 → ∀ x89 : Int32, Bd x89 0 1 → ∀ x91 : Int32, Bd x91 0 1 → ∀ x93 : Int32, Bd x93 0 1 → ∀ x95 : Int32, Bd x95 (-3) 5 → J p l e rm_X8_tries s m args below meth c 0 0 (MQ below (QcI D dA G (fun r v1 w1 => Ok G v1 w1 ∧ Kp G v v1 ∧ True ∧ Fr G [103] v v1)) args s 0 0 (dm G)) D dA G (dm G) s.heap 13 v w [(5, .int x1), (6, .int x3), (7, .int x5), (8, .int x7), (9, .int x9), (10, .int x89), (11, .int x91)] 154 [.int x93, .int x95] := by
        intro b84 b85 b86 b87 b88 x89 b90 x91 b92 x93 b94 x95 b96
        refine J_iload E dX8_tries_154 6 rfl ?_
        refine J_iload E dX8_tries_156 0 rfl ?_
        refine J_iload E dX8_tries_158 1 rfl ?_
        refine J_iload E dX8_tries_160 2 rfl ?_
        refine J_callSI E cal_X8_gets wd1296 [.int x93, .int x91, .int x1, .int x3, .int x5] [.int x95] (ct_X8_gets l D dA G v w (hOk) x93 b94 x91 b92 x1 b84 x3 b85 x5 b86) rfl rfl (Nat.le_of_ble_eq_true rfl) ⟨rfl, rfl⟩ ⟨Nat.le_of_ble_eq_true rfl, Nat.le_of_ble_eq_true rfl⟩ dX8_tries_162 (fun x100 v97 w98 p99 => ?_)
        rw [p99.1, p99.2.1]
        have b101 : Bd x100 (-3) 5 := p99.2.2.1
        refine J_icmp_lt E 172 dX8_tries_165 (by decide) (fun c102 => ?_) (fun c102 => ?_)
        · have b103 : Bd x95 (-3) 4 := Bd.lt_l c102 b96 b101 4 (by decide)
          have b104 : Bd x100 (-2) 5 := Bd.lt_r c102 b96 b101 (-2) (by decide)
          refine J_iconst E 0 dX8_tries_172 (by decide) ?_
          exact J.sub [0, 1, 2, 3, 4, 5, 6] rfl (J173 b84 b85 b86 b87 b88 x89 b90 x91 b92 0 ((Bd.lit 0 0 (by decide)).w 0 1 (by decide)))
        · refine J_iconst E 1 dX8_tries_168 (by decide) ?_
          refine J_goto E 173 dX8_tries_169 (by decide) ?_
          exact J.sub [0, 1, 2, 3, 4, 5, 6] rfl (J173 b84 b85 b86 b87 b88 x89 b90 x91 b92 1 ((Bd.lit 1 1 (by decide)).w 0 1 (by decide)))
      refine J_iload E dX8_tries_109 4 rfl ?_
      refine J_iconst E 4 dX8_tries_111 (by decide) ?_
      refine J_icmp_ge E 248 dX8_tries_112 (by decide) (fun c105 => ?_) (fun c105 => ?_)
      · have b106 : Bd x9 4 4 := Bd.le_r c105 (Bd.lit 4 4 (by decide)) b10 4 (by decide)
        refine J_iload E dX8_tries_248 3 rfl ?_
        exact J_iret E hr dX8_tries_250 ⟨hOk, Kp.rf, trivial, Fr.rf⟩
      · have b107 : Bd x9 0 3 := Bd.lt_l (nle c105) b10 (Bd.lit 4 4 (by decide)) 3 (by decide)
        refine J_iload E dX8_tries_115 4 rfl ?_
        refine J_iconst E 0 dX8_tries_117 (by decide) ?_
        refine J_callSI E cal_X8_has wd1075 [.int x9, .int 0] [] (ct_X8_has l D dA G v w (hOk) x9 0 ((Bd.lit 0 0 (by decide)).w 0 9 (by decide))) rfl rfl (Nat.le_of_ble_eq_true rfl) ⟨rfl, rfl⟩ ⟨Nat.le_of_ble_eq_true rfl, Nat.le_of_ble_eq_true rfl⟩ dX8_tries_118 (fun x111 v108 w109 p110 => ?_)
        rw [p110.1, p110.2.1]
        have b112 : Bd x111 0 1 := p110.2.2.1
        refine J_istore E [(10, .int x111), (5, .int x1), (6, .int x3), (7, .int x5), (8, .int x7), (9, .int x9)] dX8_tries_121 (by decide) rfl ?_
        refine J_iload E dX8_tries_123 5 rfl ?_
        refine J_iconst E 1 dX8_tries_125 (by decide) ?_
        refine J_callSI E cal_X8_has wd1075 [.int x9, .int 1] [] (ct_X8_has l D dA G v w (hOk) x9 1 ((Bd.lit 1 1 (by decide)).w 0 9 (by decide))) rfl rfl (Nat.le_of_ble_eq_true rfl) ⟨rfl, rfl⟩ ⟨Nat.le_of_ble_eq_true rfl, Nat.le_of_ble_eq_true rfl⟩ dX8_tries_126 (fun x116 v113 w114 p115 => ?_)
        rw [p115.1, p115.2.1]
        have b117 : Bd x116 0 1 := p115.2.2.1
        refine J_istore E [(11, .int x116), (10, .int x111), (5, .int x1), (6, .int x3), (7, .int x5), (8, .int x7), (9, .int x9)] dX8_tries_129 (by decide) rfl ?_
        refine J_iload E dX8_tries_131 1 rfl ?_
        refine J_iload E dX8_tries_133 0 rfl ?_
        refine J_iload E dX8_tries_135 2 rfl ?_
        refine J_iload E dX8_tries_137 3 rfl ?_
        refine J_iload E dX8_tries_139 4 rfl ?_
        refine J_callSI E cal_X8_gets wd1296 [.int x111, .int x116, .int x1, .int x3, .int x5] [] (ct_X8_gets l D dA G v w (hOk) x111 b112 x116 b117 x1 b2 x3 b4 x5 b6) rfl rfl (Nat.le_of_ble_eq_true rfl) ⟨rfl, rfl⟩ ⟨Nat.le_of_ble_eq_true rfl, Nat.le_of_ble_eq_true rfl⟩ dX8_tries_141 (fun x121 v118 w119 p120 => ?_)
        rw [p120.1, p120.2.1]
        have b122 : Bd x121 (-3) 5 := p120.2.2.1
        refine J_iload E dX8_tries_144 1 rfl ?_
        refine J_if_ne E 153 dX8_tries_146 (by decide) (fun c123 => ?_) (fun c123 => ?_)
        · have b124 : Bd x111 1 1 := (Bd.ne_lo c123 b112 (Bd.lit 0 0 (by decide))).w _ _ (by decide)
          refine J_iconst E 0 dX8_tries_153 (by decide) ?_
          exact J.sub [2, 3, 4, 5, 6, 1, 0] rfl (J154 b2 b4 b6 b8 b107 x111 (b124.w 0 1 (by decide)) x116 b117 0 ((Bd.lit 0 0 (by decide)).w 0 1 (by decide)) x121 b122)
        · have b125 : Bd x111 0 0 := Bd.eq_l c123 b112 (Bd.lit 0 0 (by decide)) 0 0 (by decide)
          refine J_iconst E 1 dX8_tries_149 (by decide) ?_
          refine J_goto E 154 dX8_tries_150 (by decide) ?_
          exact J.sub [2, 3, 4, 5, 6, 1, 0] rfl (J154 b2 b4 b6 b8 b107 x111 (b125.w 0 1 (by decide)) x116 b117 1 ((Bd.lit 1 1 (by decide)).w 0 1 (by decide)) x121 b122)
  have J101 : ∀ x126 : Int32, Bd x126 0 1 → ∀ x128 : Int32, Bd x128 0 1 → ∀ x130 : Int32, Bd x130 0 1 → J p l e rm_X8_tries s m args below meth c 0 0 (MQ below (QcI D dA G (fun r v1 w1 => Ok G v1 w1 ∧ Kp G v v1 ∧ True ∧ Fr G [103] v v1)) args s 0 0 (dm G)) D dA G (dm G) s.heap 13 v w [(5, .int x126), (6, .int x128)] 101 [.int x130] := by
    intro x126 b127 x128 b129 x130 b131
    refine J_istore E [(7, .int x130), (5, .int x126), (6, .int x128)] dX8_tries_101 (by decide) rfl ?_
    refine J_iconst E 0 dX8_tries_103 (by decide) ?_
    refine J_istore E [(8, .int 0), (7, .int x130), (5, .int x126), (6, .int x128)] dX8_tries_104 (by decide) rfl ?_
    refine J_iconst E 0 dX8_tries_106 (by decide) ?_
    refine J_istore E [(9, .int 0), (8, .int 0), (7, .int x130), (5, .int x126), (6, .int x128)] dX8_tries_107 (by decide) rfl ?_
    exact J.sub [3, 4, 2, 1, 0] rfl (J109 5 x126 b127 x128 b129 x130 b131 0 ((Bd.lit 0 0 (by decide)).w 0 15 (by decide)) 0 ((Bd.lit 0 0 (by decide)).w 0 4 (by decide)) (Mu.start _ (Bd.lit 0 0 (by decide)) (by decide)))
  have J76 : Bd x_0 0 6 → Bd x_1 0 6 → ∀ x134 : Int32, ∀ x135 : Int32, Bd x135 0 1 → ∀ x137 : Int32, Bd x137 0 1 → J p l e rm_X8_tries s m args below meth c 0 0 (MQ below (QcI D dA G (fun r v1 w1 => Ok G v1 w1 ∧ Kp G v v1 ∧ True ∧ Fr G [103] v v1)) args s 0 0 (dm G)) D dA G (dm G) s.heap 13 v w [(0, .ref h0), (1, .int x_0), (2, .int x_1), (4, .int x134), (5, .int x135)] 76 [.int x137] := by
    intro b132 b133 x134 x135 b136 x137 b138
    refine J_istore E [(6, .int x137), (0, .ref h0), (1, .int x_0), (2, .int x_1), (4, .int x134), (5, .int x135)] dX8_tries_76 (by decide) rfl ?_
    refine J_aload_n E dX8_tries_78 1 rfl ?_
    refine J_iload_n E dX8_tries_79 2 rfl ?_
    refine J_iconst E 0 dX8_tries_80 (by decide) ?_
    refine J_callVI E cal_X8_liftsIn wd1175 rfl (S_X8.h S0) [.int x_0, .int 0] [] (ct_X8_liftsIn l D dA G v w (hOk) h0 S0 x_0 b132 0 ((Bd.lit 0 0 (by decide)).w 0 60 (by decide))) rfl rfl (Nat.le_of_ble_eq_true rfl) ⟨rfl, rfl⟩ ⟨Nat.le_of_ble_eq_true rfl, Nat.le_of_ble_eq_true rfl⟩ dX8_tries_81 (fun x142 v139 w140 p141 => ?_)
    rw [p141.1, p141.2.1]
    refine J_aload_n E dX8_tries_84 1 rfl ?_
    refine J_iload_n E dX8_tries_85 3 rfl ?_
    refine J_iconst E 0 dX8_tries_86 (by decide) ?_
    refine J_callVI E cal_X8_liftsIn wd1175 rfl (S_X8.h S0) [.int x_1, .int 0] [.int x142] (ct_X8_liftsIn l D dA G v w (hOk) h0 S0 x_1 b133 0 ((Bd.lit 0 0 (by decide)).w 0 60 (by decide))) rfl rfl (Nat.le_of_ble_eq_true rfl) ⟨rfl, rfl⟩ ⟨Nat.le_of_ble_eq_true rfl, Nat.le_of_ble_eq_true rfl⟩ dX8_tries_87 (fun x146 v143 w144 p145 => ?_)
    rw [p145.1, p145.2.1]
    refine J_iadd E dX8_tries_90 (fun x147 e148 => ?_)
    refine J_iload E dX8_tries_91 4 rfl ?_
    refine J_icmp_lt E 100 dX8_tries_93 (by decide) (fun c149 => ?_) (fun c149 => ?_)
    · refine J_iconst E 0 dX8_tries_100 (by decide) ?_
      exact J.sub [5, 0] rfl (J101 x135 b136 x137 b138 0 ((Bd.lit 0 0 (by decide)).w 0 1 (by decide)))
    · refine J_iconst E 1 dX8_tries_96 (by decide) ?_
      refine J_goto E 101 dX8_tries_97 (by decide) ?_
      exact J.sub [5, 0] rfl (J101 x135 b136 x137 b138 1 ((Bd.lit 1 1 (by decide)).w 0 1 (by decide)))
  have J58 : Bd x_0 0 6 → Bd x_1 0 6 → ∀ x152 : Int32, ∀ x153 : Int32, Bd x153 0 1 → J p l e rm_X8_tries s m args below meth c 0 0 (MQ below (QcI D dA G (fun r v1 w1 => Ok G v1 w1 ∧ Kp G v v1 ∧ True ∧ Fr G [103] v v1)) args s 0 0 (dm G)) D dA G (dm G) s.heap 13 v w [(0, .ref h0), (1, .int x_0), (2, .int x_1), (4, .int x152)] 58 [.int x153] := by
    intro b150 b151 x152 x153 b154
    refine J_istore E [(5, .int x153), (0, .ref h0), (1, .int x_0), (2, .int x_1), (4, .int x152)] dX8_tries_58 (by decide) rfl ?_
    refine J_aload_n E dX8_tries_60 1 rfl ?_
    refine J_iload_n E dX8_tries_61 3 rfl ?_
    refine J_iconst E 0 dX8_tries_62 (by decide) ?_
    refine J_callVI E cal_X8_liftsIn wd1175 rfl (S_X8.h S0) [.int x_1, .int 0] [] (ct_X8_liftsIn l D dA G v w (hOk) h0 S0 x_1 b151 0 ((Bd.lit 0 0 (by decide)).w 0 60 (by decide))) rfl rfl (Nat.le_of_ble_eq_true rfl) ⟨rfl, rfl⟩ ⟨Nat.le_of_ble_eq_true rfl, Nat.le_of_ble_eq_true rfl⟩ dX8_tries_63 (fun x158 v155 w156 p157 => ?_)
    rw [p157.1, p157.2.1]
    refine J_iload E dX8_tries_66 4 rfl ?_
    refine J_icmp_lt E 75 dX8_tries_68 (by decide) (fun c159 => ?_) (fun c159 => ?_)
    · refine J_iconst E 0 dX8_tries_75 (by decide) ?_
      exact J.sub [1, 2, 3, 4, 0] rfl (J76 b150 b151 x152 x153 b154 0 ((Bd.lit 0 0 (by decide)).w 0 1 (by decide)))
    · refine J_iconst E 1 dX8_tries_71 (by decide) ?_
      refine J_goto E 76 dX8_tries_72 (by decide) ?_
      exact J.sub [1, 2, 3, 4, 0] rfl (J76 b150 b151 x152 x153 b154 1 ((Bd.lit 1 1 (by decide)).w 0 1 (by decide)))
  have J29 :  J p l e rm_X8_tries s m args below meth c 0 0 (MQ below (QcI D dA G (fun r v1 w1 => Ok G v1 w1 ∧ Kp G v v1 ∧ True ∧ Fr G [103] v v1)) args s 0 0 (dm G)) D dA G (dm G) s.heap 13 v w [(0, .ref h0)] 29 [] := by
    refine J_aload_n E dX8_tries_29 0 rfl ?_
    refine J_callVI E cal_X8_bad wd999 rfl (S_X8.h S0) [] [] (ct_X8_bad l D dA G v w (hOk) h0 S0) rfl rfl (Nat.le_of_ble_eq_true rfl) ⟨rfl, rfl⟩ ⟨Nat.le_of_ble_eq_true rfl, Nat.le_of_ble_eq_true rfl⟩ dX8_tries_30 (fun x163 v160 w161 p162 => ?_)
    have ew9 : w = w161 := p162.2.2.2.1.1.symm
    subst ew9
    have o164 := p162.1
    have k165 : Kp G v v160 := (Kp.rf).tr p162.2.1
    have f166 : Fr G [103] v v160 := Fr.tr Fr.rf (p162.2.2.2.2) (by decide)
    have b167 : Bd x163 (-2) (-2) := p162.2.2.1
    exact J_iret E hr dX8_tries_33 ⟨o164, k165, trivial, f166⟩
  refine J_aload_n E dX8_tries_0 0 rfl ?_
  refine J_iload_n E dX8_tries_1 1 rfl ?_
  refine J_callVI E cal_X8_isOne wd1120 rfl (S_X8.h S0) [.int x_0] [] (ct_X8_isOne l D dA G v w (hOk) h0 S0 x_0) rfl rfl (Nat.le_of_ble_eq_true rfl) ⟨rfl, rfl⟩ ⟨Nat.le_of_ble_eq_true rfl, Nat.le_of_ble_eq_true rfl⟩ dX8_tries_2 (fun x171 v168 w169 p170 => ?_)
  rw [p170.1, p170.2.1]
  have b172 : Bd x171 0 1 := p170.2.2.1
  refine J_if_eq E 29 dX8_tries_5 (by decide) (fun c173 => ?_) (fun c173 => ?_)
  · have b174 : Bd x171 0 0 := Bd.eq_l c173 b172 (Bd.lit 0 0 (by decide)) 0 0 (by decide)
    exact J.sub [0] rfl (J29)
  · have b175 : Bd x171 1 1 := (Bd.ne_lo c173 b172 (Bd.lit 0 0 (by decide))).w _ _ (by decide)
    have b176 : Bd x_0 0 6 := (p170.2.2.2.1).resolve_left c173
    refine J_aload_n E dX8_tries_8 0 rfl ?_
    refine J_iload_n E dX8_tries_9 2 rfl ?_
    refine J_callVI E cal_X8_isOne wd1120 rfl (S_X8.h S0) [.int x_1] [] (ct_X8_isOne l D dA G v w (hOk) h0 S0 x_1) rfl rfl (Nat.le_of_ble_eq_true rfl) ⟨rfl, rfl⟩ ⟨Nat.le_of_ble_eq_true rfl, Nat.le_of_ble_eq_true rfl⟩ dX8_tries_10 (fun x180 v177 w178 p179 => ?_)
    rw [p179.1, p179.2.1]
    have b181 : Bd x180 0 1 := p179.2.2.1
    refine J_if_eq E 29 dX8_tries_13 (by decide) (fun c182 => ?_) (fun c182 => ?_)
    · have b183 : Bd x180 0 0 := Bd.eq_l c182 b181 (Bd.lit 0 0 (by decide)) 0 0 (by decide)
      exact J.sub [0] rfl (J29)
    · have b184 : Bd x180 1 1 := (Bd.ne_lo c182 b181 (Bd.lit 0 0 (by decide))).w _ _ (by decide)
      have b185 : Bd x_1 0 6 := (p179.2.2.2.1).resolve_left c182
      refine J_iload_n E dX8_tries_16 1 rfl ?_
      refine J_iload_n E dX8_tries_17 2 rfl ?_
      refine J_icmp_eq E 29 dX8_tries_18 (by decide) (fun c186 => ?_) (fun c186 => ?_)
      · exact J.sub [0] rfl (J29)
      · refine J_aload_n E dX8_tries_21 0 rfl ?_
        refine J_iload_n E dX8_tries_22 3 rfl ?_
        refine J_callVI E cal_X8_isThing wd1124 rfl (S_X8.h S0) [.int x_2] [] (ct_X8_isThing l D dA G v w (hOk) h0 S0 x_2) rfl rfl (Nat.le_of_ble_eq_true rfl) ⟨rfl, rfl⟩ ⟨Nat.le_of_ble_eq_true rfl, Nat.le_of_ble_eq_true rfl⟩ dX8_tries_23 (fun x190 v187 w188 p189 => ?_)
        rw [p189.1, p189.2.1]
        have b191 : Bd x190 0 1 := p189.2.2.1
        refine J_if_ne E 34 dX8_tries_26 (by decide) (fun c192 => ?_) (fun c192 => ?_)
        · have b193 : Bd x190 1 1 := (Bd.ne_lo c192 b191 (Bd.lit 0 0 (by decide))).w _ _ (by decide)
          have b194 : Bd x_2 0 6 := (p189.2.2.2.1).resolve_left c192
          refine J_aload_n E dX8_tries_34 0 rfl ?_
          refine J_iload_n E dX8_tries_35 3 rfl ?_
          refine J_iconst E 0 dX8_tries_36 (by decide) ?_
          refine J_callVI E cal_X8_weighsIn wd1187 rfl (S_X8.h S0) [.int x_2, .int 0] [] (ct_X8_weighsIn l D dA G v w (hOk) h0 S0 x_2 b194 0 ((Bd.lit 0 0 (by decide)).w 0 60 (by decide))) rfl rfl (Nat.le_of_ble_eq_true rfl) ⟨rfl, rfl⟩ ⟨Nat.le_of_ble_eq_true rfl, Nat.le_of_ble_eq_true rfl⟩ dX8_tries_37 (fun x198 v195 w196 p197 => ?_)
          rw [p197.1, p197.2.1]
          refine J_istore E [(4, .int x198), (0, .ref h0), (1, .int x_0), (2, .int x_1), (3, .int x_2)] dX8_tries_40 (by decide) rfl ?_
          refine J_aload_n E dX8_tries_42 1 rfl ?_
          refine J_iload_n E dX8_tries_43 2 rfl ?_
          refine J_iconst E 0 dX8_tries_44 (by decide) ?_
          refine J_callVI E cal_X8_liftsIn wd1175 rfl (S_X8.h S0) [.int x_0, .int 0] [] (ct_X8_liftsIn l D dA G v w (hOk) h0 S0 x_0 b176 0 ((Bd.lit 0 0 (by decide)).w 0 60 (by decide))) rfl rfl (Nat.le_of_ble_eq_true rfl) ⟨rfl, rfl⟩ ⟨Nat.le_of_ble_eq_true rfl, Nat.le_of_ble_eq_true rfl⟩ dX8_tries_45 (fun x202 v199 w200 p201 => ?_)
          rw [p201.1, p201.2.1]
          refine J_iload E dX8_tries_48 0 rfl ?_
          refine J_icmp_lt E 57 dX8_tries_50 (by decide) (fun c203 => ?_) (fun c203 => ?_)
          · refine J_iconst E 0 dX8_tries_57 (by decide) ?_
            exact J.sub [1, 2, 3, 0] rfl (J58 b176 b185 x198 0 ((Bd.lit 0 0 (by decide)).w 0 1 (by decide)))
          · refine J_iconst E 1 dX8_tries_53 (by decide) ?_
            refine J_goto E 58 dX8_tries_54 (by decide) ?_
            exact J.sub [1, 2, 3, 0] rfl (J58 b176 b185 x198 1 ((Bd.lit 1 1 (by decide)).w 0 1 (by decide)))
        · have b204 : Bd x190 0 0 := Bd.eq_l c192 b191 (Bd.lit 0 0 (by decide)) 0 0 (by decide)
          exact J.sub [0] rfl (J29)

abbrev rm_X8_fraction : Room := { frames := 0, cells := 0, slots := 0, locals := 0 }
set_option maxHeartbeats 4000000 in
set_option maxRecDepth 100000 in
theorem ct_X8_fraction (l : Launch) (D : va_G) (dA : Nat → ClassId) (G : Gm) (v : Mv) (w : Mw) (hOk : Ok G v w) (h0 : Nat) (S0 : S_X8 G h0) (y_0 : Int64) (y_1 : Int64) (hy : ¬ y_1 = 0) : CtV l yX8_fraction cX8_fraction 11 none rm_X8_fraction D dA G [.ref h0, .long y_0, .long y_1] v w (fun v1 w1 => Ok G v1 w1 ∧ Kp G v v1 ∧ Fr G [8] v v1) := by
  refine CtV.of RX8 [(0, .ref h0), (1, .long y_0), (3, .long y_1)] (Nat.le_of_ble_eq_true rfl) rfl (by decide) rfl ?_
  intro p e s m args below meth c E hr
  have J6 : ∀ n : Nat, ∀ a b : Int64, (¬ b = 0 ∨ ¬ a = 0) → b.toInt.natAbs < n → J p l e rm_X8_fraction s m args below meth c 0 0 (MQ below (QcV D dA G (fun v1 w1 => Ok G v1 w1 ∧ Kp G v v1 ∧ Fr G [8] v v1)) args s 0 0 (dm G)) D dA G (dm G) s.heap 11 v w [(0, .ref h0), (1, .long y_0), (3, .long y_1), (5, .long a), (7, .long b)] 6 [] := by
    intro n
    induction n with
    | zero => intro a b _ hm; exact absurd hm (Nat.not_lt_zero _)
    | succ n ih6 =>
      intro a b hab hm
      refine J_lload E dX8_fraction_6 4 rfl ?_
      refine J_lconst E 0 dX8_fraction_8 (by decide) ?_
      refine J_lcmp E dX8_fraction_9 (fun x1 e2 => ?_)
      refine J_if_eq E 31 dX8_fraction_10 (by decide) (fun c3 => ?_) (fun c3 => ?_)
      · have hb0 : b = 0 := (lg_cmp_eq b 0).mp (e2.symm.trans c3)
        have ha0 : ¬ a = 0 := hab.resolve_left (fun q => q hb0)
        refine J_aload_n E dX8_fraction_31 0 rfl ?_
        refine J_lload_n E dX8_fraction_32 1 rfl ?_
        refine J_lload E dX8_fraction_33 3 rfl ?_
        refine J_ldiv E dX8_fraction_35 ha0 (fun y4 e4 => ?_)
        refine J_pL E in_X8 rfl (S_X8.h S0) 15 (by decide) wd950 tyX8 tyX8_ok nmX8 rfl rfl .long (by decide +kernel) rfl rfl dX8_fraction_36 (fun w5 e5 => ?_)
        have o5 : Ok G v w5 := by rw [e5]; exact Ok.stw hOk _ _ _
        refine J_aload_n E dX8_fraction_39 0 rfl ?_
        refine J_lload_n E dX8_fraction_40 2 rfl ?_
        refine J_lload E dX8_fraction_41 3 rfl ?_
        refine J_ldiv E dX8_fraction_43 ha0 (fun y6 e6 => ?_)
        refine J_pL E in_X8 rfl (S_X8.h S0) 16 (by decide) wd951 tyX8 tyX8_ok nmX8 rfl rfl .long (by decide +kernel) rfl rfl dX8_fraction_44 (fun w7 e7 => ?_)
        have o7 : Ok G v w7 := by rw [e7]; exact Ok.stw o5 _ _ _
        exact J_vret E hr dX8_fraction_47 ⟨o7, Kp.rf, Fr.rf⟩
      · have nb : ¬ b = 0 := fun q => c3 (e2.trans ((lg_cmp_eq b 0).mpr q))
        refine J_lload E dX8_fraction_13 3 rfl ?_
        refine J_lload E dX8_fraction_15 4 rfl ?_
        refine J_lrem E dX8_fraction_17 nb (fun r e8 => ?_)
        refine J_lstore E [(9, .long r), (0, .ref h0), (1, .long y_0), (3, .long y_1), (5, .long a), (7, .long b)] dX8_fraction_18 (by decide) rfl ?_
        refine J_lload E dX8_fraction_20 5 rfl ?_
        refine J_lstore E [(5, .long b), (9, .long r), (0, .ref h0), (1, .long y_0), (3, .long y_1), (7, .long b)] dX8_fraction_22 (by decide) rfl ?_
        refine J_lload E dX8_fraction_24 1 rfl ?_
        refine J_lstore E [(7, .long r), (5, .long b), (9, .long r), (0, .ref h0), (1, .long y_0), (3, .long y_1)] dX8_fraction_26 (by decide) rfl ?_
        refine J_goto E 6 dX8_fraction_28 (by decide) ?_
        have hlt := lrem_lt e8 nb
        exact J.sub [3, 4, 5, 1, 0] rfl (ih6 b r (Or.inr nb) (by omega))
  refine J_lload_n E dX8_fraction_0 1 rfl ?_
  refine J_lstore E [(5, .long y_0), (0, .ref h0), (1, .long y_0), (3, .long y_1)] dX8_fraction_1 (by decide) rfl ?_
  refine J_lload_n E dX8_fraction_3 3 rfl ?_
  refine J_lstore E [(7, .long y_1), (5, .long y_0), (0, .ref h0), (1, .long y_0), (3, .long y_1)] dX8_fraction_4 (by decide) rfl ?_
  exact J.sub [2, 3, 4, 1, 0] rfl (J6 (y_1.toInt.natAbs + 1) y_0 y_1 (Or.inl hy) (Nat.lt_succ_self _))

abbrev rm_X8_shout : Room := { frames := 4, cells := 0, slots := 0, locals := 87 }
set_option maxHeartbeats 4000000 in
set_option maxRecDepth 100000 in
theorem ct_X8_shout (l : Launch) (D : va_G) (dA : Nat → ClassId) (G : Gm) (v : Mv) (w : Mw) (hOk : Ok G v w) (h0 : Nat) (S0 : S_X8 G h0) (x_0 : Int32) (x_1 : Int32) (x_2 : Int32) : CtI l yX8_shout cX8_shout 11 (some .int) rm_X8_shout D dA G [.ref h0, .int x_0, .int x_1, .int x_2] v w (fun r v1 w1 => Ok G v1 w1 ∧ Kp G v v1 ∧ True ∧ Fr G [8, 103] v v1) := by
  refine CtI.of RX8 [(0, .ref h0), (1, .int x_0), (2, .int x_1), (3, .int x_2)] (Nat.le_of_ble_eq_true rfl) rfl (by decide) rfl ?_
  intro p e s m args below meth c E hr
  have J66 : ∀ n66 : Nat, Bd x_0 0 6 → Bd x_1 0 6 → Bd x_2 0 10 → ∀ x4 : Int32, Bd x4 (-1) 6 → ∀ y6 : Int64, ∀ y7 : Int64, ∀ x8 : Int32, Bd x8 0 6 → (y7.toInt = 10 ^ x8.toInt.toNat) → Mu x8 6 n66 → J p l e rm_X8_shout s m args below meth c 0 0 (MQ below (QcI D dA G (fun r v1 w1 => Ok G v1 w1 ∧ Kp G v v1 ∧ True ∧ Fr G [8, 103] v v1)) args s 0 0 (dm G)) D dA G (dm G) s.heap 11 v w [(0, .ref h0), (1, .int x_0), (2, .int x_1), (3, .int x_2), (4, .int x4), (5, .long y6), (7, .long y7), (9, .int x8)] 66 [] := by
    intro n66
    induction n66 with
    | zero => intro b1 b2 b3 x4 b5 y6 y7 x8 b9 h10 hm; exact hm.zero b9 (by decide)
    | succ n66 ih66 =>
      intro b1 b2 b3 x4 b5 y6 y7 x8 b9 h10 hmu66
      have J129 : Bd x_0 0 6 → Bd x_1 1 6 → Bd x_2 0 10 → Bd x4 (-1) 6 → Bd x8 0 5 → ∀ y16 : Int64, ∀ y17 : Int64, J p l e rm_X8_shout s m args below meth c 0 0 (MQ below (QcI D dA G (fun r v1 w1 => Ok G v1 w1 ∧ Kp G v v1 ∧ True ∧ Fr G [8, 103] v v1)) args s 0 0 (dm G)) D dA G (dm G) s.heap 11 v w [(0, .ref h0), (1, .int x_0), (2, .int x_1), (3, .int x_2), (4, .int x4), (7, .long y7), (9, .int x8)] 129 [.long y16, .long y17] := by
        intro b11 b12 b13 b14 b15 y16 y17
        refine J_lmul E dX8_shout_129 (fun y18 e19 => ?_)
        refine J_lstore E [(5, .long y18), (0, .ref h0), (1, .int x_0), (2, .int x_1), (3, .int x_2), (4, .int x4), (7, .long y7), (9, .int x8)] dX8_shout_130 (by decide) rfl ?_
        refine J_lload E dX8_shout_132 6 rfl ?_
        refine J_ldc2 E wd1303 dX8_shout_134 ?_
        refine J_lmul E dX8_shout_137 (fun y20 e21 => ?_)
        refine J_lstore E [(7, .long y20), (5, .long y18), (0, .ref h0), (1, .int x_0), (2, .int x_1), (3, .int x_2), (4, .int x4), (9, .int x8)] dX8_shout_138 (by decide) rfl ?_
        refine J_iinc E 7 1 (fun z => [(9, .int z), (7, .long y20), (5, .long y18), (0, .ref h0), (1, .int x_0), (2, .int x_1), (3, .int x_2), (4, .int x4)]) dX8_shout_140 rfl (by decide) (by decide) (fun _ => rfl) (fun x22 e23 => ?_)
        have b24 : Bd x22 1 6 := (Bd.add e23 b15 (Bd.lit 1 1 (by decide)) (by decide)).w _ _ (by decide)
        refine J_goto E 66 dX8_shout_143 (by decide) ?_
        exact J.sub [3, 4, 5, 6, 7, 2, 1, 0] rfl (ih66 b11 (b12.w 0 6 (by decide)) b13 x4 b14 y18 y20 x22 (b24.w 0 6 (by decide)) (p10 h10 e21 e23 b15) (Mu.step hmu66 e23 b15 (Bd.lit 1 1 (by decide)) (by decide)))
      have J98 : Bd x_0 0 6 → Bd x_1 1 6 → Bd x_2 0 10 → Bd x4 (-1) 6 → Bd x8 0 5 → ∀ x30 : Int32, J p l e rm_X8_shout s m args below meth c 0 0 (MQ below (QcI D dA G (fun r v1 w1 => Ok G v1 w1 ∧ Kp G v v1 ∧ True ∧ Fr G [8, 103] v v1)) args s 0 0 (dm G)) D dA G (dm G) s.heap 11 v w [(0, .ref h0), (1, .int x_0), (2, .int x_1), (3, .int x_2), (4, .int x4), (5, .long y6), (7, .long y7), (9, .int x8)] 98 [.int x30] := by
        intro b25 b26 b27 b28 b29 x30
        refine J_istore E [(10, .int x30), (0, .ref h0), (1, .int x_0), (2, .int x_1), (3, .int x_2), (4, .int x4), (5, .long y6), (7, .long y7), (9, .int x8)] dX8_shout_98 (by decide) rfl ?_
        refine J_lload E dX8_shout_100 6 rfl ?_
        refine J_iload E dX8_shout_102 0 rfl ?_
        refine J_iconst E 5 dX8_shout_104 (by decide) ?_
        refine J_icmp_le E 114 dX8_shout_105 (by decide) (fun c31 => ?_) (fun c31 => ?_)
        · have b32 : Bd x30 I0 5 := Bd.le_l c31 (Bd.any x30) (Bd.lit 5 5 (by decide)) 5 (by decide)
          refine J_iload E dX8_shout_114 0 rfl ?_
          refine J_if_le E 128 dX8_shout_116 (by decide) (fun c33 => ?_) (fun c33 => ?_)
          · have b34 : Bd x30 I0 0 := Bd.le_l c33 b32 (Bd.lit 0 0 (by decide)) 0 (by decide)
            refine J_lconst E 0 dX8_shout_128 (by decide) ?_
            exact J.sub [1, 2, 3, 4, 5, 7, 8] rfl (J129 b25 b26 b27 b28 b29 0 y6)
          · have b35 : Bd x30 1 5 := Bd.lt_r (nle c33) (Bd.lit 0 0 (by decide)) b32 1 (by decide)
            refine J_ldc2 E wd1303 dX8_shout_119 ?_
            refine J_iload_n E dX8_shout_122 4 rfl ?_
            refine J_i2l E dX8_shout_123 (fun y36 e37 => ?_)
            refine J_lsub E dX8_shout_124 (fun y38 e39 => ?_)
            refine J_goto E 129 dX8_shout_125 (by decide) ?_
            exact J.sub [1, 2, 3, 4, 5, 7, 8] rfl (J129 b25 b26 b27 b28 b29 y38 y6)
        · have b40 : Bd x30 6 I1 := Bd.lt_r (nle c31) (Bd.lit 5 5 (by decide)) (Bd.any x30) 6 (by decide)
          refine J_ldc2 E wd1303 dX8_shout_108 ?_
          refine J_goto E 129 dX8_shout_111 (by decide) ?_
          exact J.sub [1, 2, 3, 4, 5, 7, 8] rfl (J129 b25 b26 b27 b28 b29 10 y6)
      refine J_iload E dX8_shout_66 7 rfl ?_
      refine J_iload_n E dX8_shout_68 2 rfl ?_
      refine J_icmp_ge E 146 dX8_shout_69 (by decide) (fun c41 => ?_) (fun c41 => ?_)
      · refine J_aload_n E dX8_shout_146 0 rfl ?_
        refine J_lload E dX8_shout_147 5 rfl ?_
        refine J_lload E dX8_shout_149 6 rfl ?_
        refine J_callVV E cal_X8_fraction wd1304 rfl (S_X8.h S0) [.long y6, .long y7] [] (ct_X8_fraction l D dA G v w (hOk) h0 S0 y6 y7 (p10_nz h10)) rfl rfl (Nat.le_of_ble_eq_true rfl) ⟨rfl, rfl⟩ ⟨Nat.le_of_ble_eq_true rfl, Nat.le_of_ble_eq_true rfl⟩ dX8_shout_151 (fun v42 w43 p44 => ?_)
        have o46 := p44.1
        have k47 : Kp G v v42 := (Kp.rf).tr p44.2.1
        have f48 : Fr G [8, 103] v v42 := Fr.tr Fr.rf (p44.2.2) (by decide)
        refine J_iconst E 1 dX8_shout_154 (by decide) ?_
        exact J_iret E hr dX8_shout_155 ⟨o46, k47, trivial, f48⟩
      · have b49 : Bd x8 0 5 := Bd.lt_l (nle c41) b9 b2 5 (by decide)
        have b50 : Bd x_1 1 6 := Bd.lt_r (nle c41) b9 b2 1 (by decide)
        refine J_iload E dX8_shout_72 4 rfl ?_
        refine J_iconst E (-1) dX8_shout_74 (by decide) ?_
        refine J_icmp_ne E 82 dX8_shout_75 (by decide) (fun c51 => ?_) (fun c51 => ?_)
        · have b52 : Bd x4 0 6 := (Bd.ne_lo c51 b5 (Bd.lit (-1) (-1) (by decide))).w _ _ (by decide)
          refine J_aload_n E dX8_shout_82 0 rfl ?_
          refine J_iload E dX8_shout_83 4 rfl ?_
          refine J_iload E dX8_shout_85 7 rfl ?_
          refine J_callVI E cal_X8_weighsIn wd1187 rfl (S_X8.h S0) [.int x4, .int x8] [] (ct_X8_weighsIn l D dA G v w (hOk) h0 S0 x4 b52 x8 (b49.w 0 60 (by decide))) rfl rfl (Nat.le_of_ble_eq_true rfl) ⟨rfl, rfl⟩ ⟨Nat.le_of_ble_eq_true rfl, Nat.le_of_ble_eq_true rfl⟩ dX8_shout_87 (fun x56 v53 w54 p55 => ?_)
          rw [p55.1, p55.2.1]
          refine J_aload_n E dX8_shout_90 0 rfl ?_
          refine J_iload_n E dX8_shout_91 1 rfl ?_
          refine J_iload E dX8_shout_92 7 rfl ?_
          refine J_callVI E cal_X8_liftsIn wd1175 rfl (S_X8.h S0) [.int x_0, .int x8] [.int x56] (ct_X8_liftsIn l D dA G v w (hOk) h0 S0 x_0 b1 x8 (b49.w 0 60 (by decide))) rfl rfl (Nat.le_of_ble_eq_true rfl) ⟨rfl, rfl⟩ ⟨Nat.le_of_ble_eq_true rfl, Nat.le_of_ble_eq_true rfl⟩ dX8_shout_94 (fun x60 v57 w58 p59 => ?_)
          rw [p59.1, p59.2.1]
          refine J_isub E dX8_shout_97 (fun x61 e62 => ?_)
          exact J.sub [0, 1, 2, 3, 4, 5, 6, 7] rfl (J98 b1 b50 b3 (b52.w (-1) 6 (by decide)) b49 x61)
        · have b63 : Bd x4 (-1) (-1) := Bd.eq_l c51 b5 (Bd.lit (-1) (-1) (by decide)) (-1) (-1) (by decide)
          refine J_iconst E 0 dX8_shout_78 (by decide) ?_
          refine J_goto E 98 dX8_shout_79 (by decide) ?_
          exact J.sub [0, 1, 2, 3, 4, 5, 6, 7] rfl (J98 b1 b50 b3 (b63.w (-1) 6 (by decide)) b49 0)
  have J28 :  J p l e rm_X8_shout s m args below meth c 0 0 (MQ below (QcI D dA G (fun r v1 w1 => Ok G v1 w1 ∧ Kp G v v1 ∧ True ∧ Fr G [8, 103] v v1)) args s 0 0 (dm G)) D dA G (dm G) s.heap 11 v w [(0, .ref h0)] 28 [] := by
    refine J_aload_n E dX8_shout_28 0 rfl ?_
    refine J_callVI E cal_X8_bad wd999 rfl (S_X8.h S0) [] [] (ct_X8_bad l D dA G v w (hOk) h0 S0) rfl rfl (Nat.le_of_ble_eq_true rfl) ⟨rfl, rfl⟩ ⟨Nat.le_of_ble_eq_true rfl, Nat.le_of_ble_eq_true rfl⟩ dX8_shout_29 (fun x67 v64 w65 p66 => ?_)
    have ew9 : w = w65 := p66.2.2.2.1.1.symm
    subst ew9
    have o68 := p66.1
    have k69 : Kp G v v64 := (Kp.rf).tr p66.2.1
    have f70 : Fr G [8, 103] v v64 := Fr.tr Fr.rf (p66.2.2.2.2) (by decide)
    have b71 : Bd x67 (-2) (-2) := p66.2.2.1
    exact J_iret E hr dX8_shout_32 ⟨o68, k69, trivial, f70⟩
  refine J_aload_n E dX8_shout_0 0 rfl ?_
  refine J_iload_n E dX8_shout_1 1 rfl ?_
  refine J_callVI E cal_X8_isOne wd1120 rfl (S_X8.h S0) [.int x_0] [] (ct_X8_isOne l D dA G v w (hOk) h0 S0 x_0) rfl rfl (Nat.le_of_ble_eq_true rfl) ⟨rfl, rfl⟩ ⟨Nat.le_of_ble_eq_true rfl, Nat.le_of_ble_eq_true rfl⟩ dX8_shout_2 (fun x75 v72 w73 p74 => ?_)
  rw [p74.1, p74.2.1]
  have b76 : Bd x75 0 1 := p74.2.2.1
  refine J_if_eq E 28 dX8_shout_5 (by decide) (fun c77 => ?_) (fun c77 => ?_)
  · have b78 : Bd x75 0 0 := Bd.eq_l c77 b76 (Bd.lit 0 0 (by decide)) 0 0 (by decide)
    exact J.sub [0] rfl (J28)
  · have b79 : Bd x75 1 1 := (Bd.ne_lo c77 b76 (Bd.lit 0 0 (by decide))).w _ _ (by decide)
    have b80 : Bd x_0 0 6 := (p74.2.2.2.1).resolve_left c77
    refine J_iload_n E dX8_shout_8 2 rfl ?_
    refine J_iconst E 0 dX8_shout_9 (by decide) ?_
    refine J_bipush E 6 dX8_shout_10 (by decide) ?_
    refine J_callSI E cal_X8_in wd996 [.int x_1, .int 0, .int 6] [] (ct_X8_in l D dA G v w (hOk) x_1 0 6) rfl rfl (Nat.le_of_ble_eq_true rfl) ⟨rfl, rfl⟩ ⟨Nat.le_of_ble_eq_true rfl, Nat.le_of_ble_eq_true rfl⟩ dX8_shout_12 (fun x84 v81 w82 p83 => ?_)
    rw [p83.1, p83.2.1]
    have b85 : Bd x84 0 1 := p83.2.2.1
    refine J_if_eq E 28 dX8_shout_15 (by decide) (fun c86 => ?_) (fun c86 => ?_)
    · have b87 : Bd x84 0 0 := Bd.eq_l c86 b85 (Bd.lit 0 0 (by decide)) 0 0 (by decide)
      have g88 : ¬ (0 ≤ x_1 ∧ x_1 ≤ 6) := (p83.2.2.2.2.1).resolve_left (fun h9 => h9 c86)
      exact J.sub [0] rfl (J28)
    · have b89 : Bd x84 1 1 := (Bd.ne_lo c86 b85 (Bd.lit 0 0 (by decide))).w _ _ (by decide)
      have g90 := (p83.2.2.2.1).resolve_left c86
      have b91 : Bd x_1 0 I1 := Bd.le_r g90.1 (Bd.lit 0 0 (by decide)) (Bd.any x_1) 0 (by decide)
      have b92 : Bd x_1 0 6 := Bd.le_l g90.2 b91 (Bd.lit 6 6 (by decide)) 6 (by decide)
      refine J_iload_n E dX8_shout_18 3 rfl ?_
      refine J_iconst E 0 dX8_shout_19 (by decide) ?_
      refine J_bipush E 10 dX8_shout_20 (by decide) ?_
      refine J_callSI E cal_X8_in wd996 [.int x_2, .int 0, .int 10] [] (ct_X8_in l D dA G v w (hOk) x_2 0 10) rfl rfl (Nat.le_of_ble_eq_true rfl) ⟨rfl, rfl⟩ ⟨Nat.le_of_ble_eq_true rfl, Nat.le_of_ble_eq_true rfl⟩ dX8_shout_22 (fun x96 v93 w94 p95 => ?_)
      rw [p95.1, p95.2.1]
      have b97 : Bd x96 0 1 := p95.2.2.1
      refine J_if_ne E 33 dX8_shout_25 (by decide) (fun c98 => ?_) (fun c98 => ?_)
      · have b99 : Bd x96 1 1 := (Bd.ne_lo c98 b97 (Bd.lit 0 0 (by decide))).w _ _ (by decide)
        have g100 := (p95.2.2.2.1).resolve_left c98
        have b101 : Bd x_2 0 I1 := Bd.le_r g100.1 (Bd.lit 0 0 (by decide)) (Bd.any x_2) 0 (by decide)
        have b102 : Bd x_2 0 10 := Bd.le_l g100.2 b101 (Bd.lit 10 10 (by decide)) 10 (by decide)
        refine J_aload_n E dX8_shout_33 0 rfl ?_
        refine J_iload_n E dX8_shout_34 1 rfl ?_
        refine J_callVI E cal_X8_isLost wd1128 rfl (S_X8.h S0) [.int x_0] [] (ct_X8_isLost l D dA G v w (hOk) h0 S0 x_0 b80) rfl rfl (Nat.le_of_ble_eq_true rfl) ⟨rfl, rfl⟩ ⟨Nat.le_of_ble_eq_true rfl, Nat.le_of_ble_eq_true rfl⟩ dX8_shout_35 (fun x106 v103 w104 p105 => ?_)
        rw [p105.1, p105.2.1]
        have b107 : Bd x106 0 1 := p105.2.2.1
        refine J_if_eq E 46 dX8_shout_38 (by decide) (fun c108 => ?_) (fun c108 => ?_)
        · have b109 : Bd x106 0 0 := Bd.eq_l c108 b107 (Bd.lit 0 0 (by decide)) 0 0 (by decide)
          refine J_aload_n E dX8_shout_46 0 rfl ?_
          refine J_getR E in_X8 rfl (S_X8.h S0) 1 (by decide) wd936 rfl dX8_shout_47 ?_
          refine J_bipush E 43 dX8_shout_50 (by decide) ?_
          refine J_iload_n E dX8_shout_52 1 rfl ?_
          refine J_iadd E dX8_shout_53 (fun x110 e111 => ?_)
          have b112 : Bd x110 43 49 := (Bd.add e111 (Bd.lit 43 43 (by decide)) b80 (by decide)).w _ _ (by decide)
          refine J_iald1 E (S_X8.f1 S0) (Bd.in b112 (by decide)) dX8_shout_54 (fun x113 e114 => ?_)
          have b115 : Bd x113 (-1) 6 := Bd.e (Ok.ld hOk (S_X8.f1 S0) b112 43 7 (-1) 6 (by decide) (by decide +kernel)) e114
          refine J_istore E [(4, .int x113), (0, .ref h0), (1, .int x_0), (2, .int x_1), (3, .int x_2)] dX8_shout_55 (by decide) rfl ?_
          refine J_lconst E 1 dX8_shout_57 (by decide) ?_
          refine J_lstore E [(5, .long 1), (4, .int x113), (0, .ref h0), (1, .int x_0), (2, .int x_1), (3, .int x_2)] dX8_shout_58 (by decide) rfl ?_
          refine J_lconst E 1 dX8_shout_60 (by decide) ?_
          refine J_lstore E [(7, .long 1), (5, .long 1), (4, .int x113), (0, .ref h0), (1, .int x_0), (2, .int x_1), (3, .int x_2)] dX8_shout_61 (by decide) rfl ?_
          refine J_iconst E 0 dX8_shout_63 (by decide) ?_
          refine J_istore E [(9, .int 0), (7, .long 1), (5, .long 1), (4, .int x113), (0, .ref h0), (1, .int x_0), (2, .int x_1), (3, .int x_2)] dX8_shout_64 (by decide) rfl ?_
          exact J.sub [4, 5, 6, 7, 3, 2, 1, 0] rfl (J66 7 b80 b92 b102 x113 b115 1 1 0 ((Bd.lit 0 0 (by decide)).w 0 6 (by decide)) p10_0 (Mu.start _ (Bd.lit 0 0 (by decide)) (by decide)))
        · have b116 : Bd x106 1 1 := (Bd.ne_lo c108 b107 (Bd.lit 0 0 (by decide))).w _ _ (by decide)
          refine J_aload_n E dX8_shout_41 0 rfl ?_
          refine J_callVI E cal_X8_no wd1132 rfl (S_X8.h S0) [] [] (ct_X8_no l D dA G v w (hOk) h0 S0) rfl rfl (Nat.le_of_ble_eq_true rfl) ⟨rfl, rfl⟩ ⟨Nat.le_of_ble_eq_true rfl, Nat.le_of_ble_eq_true rfl⟩ dX8_shout_42 (fun x120 v117 w118 p119 => ?_)
          have ew9 : w = w118 := p119.2.2.2.1.1.symm
          subst ew9
          have o121 := p119.1
          have k122 : Kp G v v117 := (Kp.rf).tr p119.2.1
          have f123 : Fr G [8, 103] v v117 := Fr.tr Fr.rf (p119.2.2.2.2) (by decide)
          have b124 : Bd x120 (-3) (-3) := p119.2.2.1
          exact J_iret E hr dX8_shout_45 ⟨o121, k122, trivial, f123⟩
      · have b125 : Bd x96 0 0 := Bd.eq_l c98 b97 (Bd.lit 0 0 (by decide)) 0 0 (by decide)
        have g126 : ¬ (0 ≤ x_2 ∧ x_2 ≤ 10) := (p95.2.2.2.2.1).resolve_left (fun h9 => h9 c98)
        exact J.sub [0] rfl (J28)

abbrev rm_X8_centuries : Room := { frames := 4, cells := 0, slots := 0, locals := 97 }
set_option maxHeartbeats 4000000 in
set_option maxRecDepth 100000 in
theorem ct_X8_centuries (l : Launch) (D : va_G) (dA : Nat → ClassId) (G : Gm) (v : Mv) (w : Mw) (hOk : Ok G v w) (h0 : Nat) (S0 : S_X8 G h0) (x_0 : Int32) (x_1 : Int32) : CtI l yX8_centuries cX8_centuries 9 (some .int) rm_X8_centuries D dA G [.ref h0, .int x_0, .int x_1] v w (fun r v1 w1 => Ok G v1 w1 ∧ Kp G v v1 ∧ True ∧ Fr G [103, 116, 1084] v v1) := by
  refine CtI.of RX8 [(0, .ref h0), (1, .int x_0), (2, .int x_1)] (Nat.le_of_ble_eq_true rfl) rfl (by decide) rfl ?_
  intro p e s m args below meth c E hr
  have J35 : ∀ n35 : Nat, ∀ (v1 : Mv) (w2 : Mw), Ok G v1 w2 → Kp G v v1 → Fr G [103, 116, 1084] v v1 → Bd x_1 0 60 → ∀ y7 : Int64, ∀ x8 : Int32, Bd x8 0 61 → Mu x8 61 n35 → J p l e rm_X8_centuries s m args below meth c 0 0 (MQ below (QcI D dA G (fun r v1 w1 => Ok G v1 w1 ∧ Kp G v v1 ∧ True ∧ Fr G [103, 116, 1084] v v1)) args s 0 0 (dm G)) D dA G (dm G) s.heap 9 v1 w2 [(0, .ref h0), (2, .int x_1), (3, .long y7), (5, .int x8)] 35 [] := by
    intro n35
    induction n35 with
    | zero => intro v1 w2 o3 k4 f5 b6 y7 x8 b9 hm; exact hm.zero b9 (by decide)
    | succ n35 ih35 =>
      intro v1 w2 o3 k4 f5 b6 y7 x8 b9 hmu35
      have J165 : ∀ (v10 : Mv) (w11 : Mw), Ok G v10 w11 → Kp G v v10 → Fr G [103, 116, 1084] v v10 → Bd x_1 1 60 → ∀ y16 : Int64, Bd x8 0 60 → J p l e rm_X8_centuries s m args below meth c 0 0 (MQ below (QcI D dA G (fun r v1 w1 => Ok G v1 w1 ∧ Kp G v v1 ∧ True ∧ Fr G [103, 116, 1084] v v1)) args s 0 0 (dm G)) D dA G (dm G) s.heap 9 v10 w11 [(0, .ref h0), (2, .int x_1), (3, .long y16), (5, .int x8)] 165 [] := by
        intro v10 w11 o12 k13 f14 b15 y16 b17
        refine J_aload_n E dX8_centuries_165 0 rfl ?_
        refine J_iconst E 0 dX8_centuries_166 (by decide) ?_
        refine J_aload_n E dX8_centuries_167 0 rfl ?_
        refine J_getR E in_X8 rfl (S_X8.h S0) 3 (by decide) wd938 rfl dX8_centuries_168 ?_
        refine J_iconst E 0 dX8_centuries_171 (by decide) ?_
        refine J_callVV E cal_X8_passOn wd1090 rfl (S_X8.h S0) [.int 0, .ref (rf G h0 3), .int 0] [] (ct_X8_passOn_0_T_0 l D dA G v10 w11 (o12) h0 S0) rfl rfl (Nat.le_of_ble_eq_true rfl) ⟨rfl, rfl⟩ ⟨Nat.le_of_ble_eq_true rfl, Nat.le_of_ble_eq_true rfl⟩ dX8_centuries_172 (fun v18 w19 p20 => ?_)
        have ew9 : w11 = w19 := p20.2.2.1.1.symm
        subst ew9
        have o22 := p20.1
        have k23 : Kp G v v18 := (k13).tr p20.2.1
        have f24 : Fr G [103, 116, 1084] v v18 := Fr.tr f14 (p20.2.2.2) (by decide)
        refine J_iinc E 3 1 (fun z => [(5, .int z), (0, .ref h0), (2, .int x_1), (3, .long y16)]) dX8_centuries_175 rfl (by decide) (by decide) (fun _ => rfl) (fun x25 e26 => ?_)
        have b27 : Bd x25 1 61 := (Bd.add e26 b17 (Bd.lit 1 1 (by decide)) (by decide)).w _ _ (by decide)
        refine J_goto E 35 dX8_centuries_178 (by decide) ?_
        exact J.sub [1, 2, 3, 0] rfl (ih35 v18 w11 (o22) (k23) f24 (b15.w 0 60 (by decide)) y16 x25 (b27.w 0 61 (by decide)) (Mu.step hmu35 e26 b17 (Bd.lit 1 1 (by decide)) (by decide)))
      have J130 : Bd x_1 1 60 → ∀ y29 : Int64, Bd x8 0 60 → ∀ x31 : Int32, ∀ x32 : Int32, ∀ x33 : Int32, Bd x33 0 1 → (x33 = 0 ∨ Bd x31 0 6) → (x33 = 0 ∨ Bd x32 0 6) → J p l e rm_X8_centuries s m args below meth c 0 0 (MQ below (QcI D dA G (fun r v1 w1 => Ok G v1 w1 ∧ Kp G v v1 ∧ True ∧ Fr G [103, 116, 1084] v v1)) args s 0 0 (dm G)) D dA G (dm G) s.heap 9 v1 w2 [(0, .ref h0), (2, .int x_1), (3, .long y29), (5, .int x8), (6, .int x31), (7, .int x32)] 130 [.int x33] := by
        intro b28 y29 b30 x31 x32 x33 b34 h35 h36
        refine J_istore E [(8, .int x33), (0, .ref h0), (2, .int x_1), (3, .long y29), (5, .int x8), (6, .int x31), (7, .int x32)] dX8_centuries_130 (by decide) rfl ?_
        refine J_iload E dX8_centuries_132 0 rfl ?_
        refine J_if_eq E 165 dX8_centuries_134 (by decide) (fun c37 => ?_) (fun c37 => ?_)
        · have b38 : Bd x33 0 0 := Bd.eq_l c37 b34 (Bd.lit 0 0 (by decide)) 0 0 (by decide)
          exact J.sub [1, 2, 3, 4] rfl (J165 v1 w2 (o3) (k4) f5 b28 y29 b30)
        · have b39 : Bd x33 1 1 := (Bd.ne_lo c37 b34 (Bd.lit 0 0 (by decide))).w _ _ (by decide)
          have b40 : Bd x31 0 6 := h35.resolve_left c37
          have b41 : Bd x32 0 6 := h36.resolve_left c37
          refine J_aload_n E dX8_centuries_137 1 rfl ?_
          refine J_iconst E 0 dX8_centuries_138 (by decide) ?_
          refine J_aload_n E dX8_centuries_139 1 rfl ?_
          refine J_getR E in_X8 rfl (S_X8.h S0) 3 (by decide) wd938 rfl dX8_centuries_140 ?_
          refine J_iconst E 0 dX8_centuries_143 (by decide) ?_
          refine J_iload E dX8_centuries_144 6 rfl ?_
          refine J_callVI E cal_X8_ownerOf wd1078 rfl (S_X8.h S0) [.int 0, .ref (rf G h0 3), .int 0, .int x32] [] (ct_X8_ownerOf_0_T_0 l D dA G v1 w2 (o3) h0 S0 x32 b41) rfl rfl (Nat.le_of_ble_eq_true rfl) ⟨rfl, rfl⟩ ⟨Nat.le_of_ble_eq_true rfl, Nat.le_of_ble_eq_true rfl⟩ dX8_centuries_146 (fun x45 v42 w43 p44 => ?_)
          rw [p44.1, p44.2.1]
          have b46 : Bd x45 (-1) 6 := p44.2.2.1
          refine J_iconst E (-1) dX8_centuries_149 (by decide) ?_
          refine J_icmp_ne E 165 dX8_centuries_150 (by decide) (fun c47 => ?_) (fun c47 => ?_)
          · have b48 : Bd x45 0 6 := (Bd.ne_lo c47 b46 (Bd.lit (-1) (-1) (by decide))).w _ _ (by decide)
            exact J.sub [1, 2, 3, 4] rfl (J165 v1 w2 (o3) (k4) f5 b28 y29 b30)
          · have b49 : Bd x45 (-1) (-1) := Bd.eq_l c47 b46 (Bd.lit (-1) (-1) (by decide)) (-1) (-1) (by decide)
            refine J_aload_n E dX8_centuries_153 1 rfl ?_
            refine J_getR E in_X8 rfl (S_X8.h S0) 3 (by decide) wd938 rfl dX8_centuries_154 ?_
            refine J_bipush E 9 dX8_centuries_157 (by decide) ?_
            refine J_iload E dX8_centuries_159 5 rfl ?_
            refine J_iadd E dX8_centuries_161 (fun x50 e51 => ?_)
            have b52 : Bd x50 9 15 := (Bd.add e51 (Bd.lit 9 9 (by decide)) b40 (by decide)).w _ _ (by decide)
            refine J_iload E dX8_centuries_162 6 rfl ?_
            refine J_iast1 E (S_X8.f3 S0) (Bd.in b52 (by decide)) dX8_centuries_164 (fun v53 e54 => ?_)
            have o55 : Ok G v53 w2 := by rw [e54]; exact Ok.sv o3 (S_X8.f3 S0) b52 b41 9 7 (by decide) (by decide +kernel)
            have k56 : Kp G v v53 := by rw [e54]; exact Kp.sv k4 (S_X8.f3 S0) b52 9 7 0 6 (by decide) (by decide +kernel)
            have f57 : Fr G [103, 116, 1084] v v53 := Fr.st f5 e54 (S_X8.f3 S0) rfl
            exact J.sub [1, 2, 3, 4] rfl (J165 v53 w2 (o55) (k56) f57 b28 y29 b30)
      have J129 : Bd x_1 1 60 → ∀ y59 : Int64, Bd x8 0 60 → ∀ x61 : Int32, ∀ x62 : Int32, J p l e rm_X8_centuries s m args below meth c 0 0 (MQ below (QcI D dA G (fun r v1 w1 => Ok G v1 w1 ∧ Kp G v v1 ∧ True ∧ Fr G [103, 116, 1084] v v1)) args s 0 0 (dm G)) D dA G (dm G) s.heap 9 v1 w2 [(0, .ref h0), (2, .int x_1), (3, .long y59), (5, .int x8), (6, .int x61), (7, .int x62)] 129 [] := by
        intro b58 y59 b60 x61 x62
        refine J_iconst E 0 dX8_centuries_129 (by decide) ?_
        exact J.sub [0, 1, 2, 3, 4, 5] rfl (J130 b58 y59 b60 x61 x62 0 ((Bd.lit 0 0 (by decide)).w 0 1 (by decide)) (Or.inl rfl) (Or.inl rfl))
      refine J_iload E dX8_centuries_35 3 rfl ?_
      refine J_iload_n E dX8_centuries_37 1 rfl ?_
      refine J_icmp_ge E 181 dX8_centuries_38 (by decide) (fun c63 => ?_) (fun c63 => ?_)
      · refine J_aload_n E dX8_centuries_181 0 rfl ?_
        refine J_aload_n E dX8_centuries_182 0 rfl ?_
        refine J_getR E in_X8 rfl (S_X8.h S0) 3 (by decide) wd938 rfl dX8_centuries_183 ?_
        refine J_iconst E 0 dX8_centuries_186 (by decide) ?_
        refine J_callVI E cal_X8_hereOf wd1148 rfl (S_X8.h S0) [.ref (rf G h0 3), .int 0] [] (ct_X8_hereOf_T_0 l D dA G v1 w2 (o3) h0 S0) rfl rfl (Nat.le_of_ble_eq_true rfl) ⟨rfl, rfl⟩ ⟨Nat.le_of_ble_eq_true rfl, Nat.le_of_ble_eq_true rfl⟩ dX8_centuries_187 (fun x67 v64 w65 p66 => ?_)
        rw [p66.1, p66.2.1]
        have b68 : Bd x67 0 127 := p66.2.2.1
        refine J_callSI E cal_X8_bitsOf wd1152 [.int x67] [] (ct_X8_bitsOf l D dA G v1 w2 (o3) x67) rfl rfl (Nat.le_of_ble_eq_true rfl) ⟨rfl, rfl⟩ ⟨Nat.le_of_ble_eq_true rfl, Nat.le_of_ble_eq_true rfl⟩ dX8_centuries_190 (fun x72 v69 w70 p71 => ?_)
        rw [p71.1, p71.2.1]
        exact J_iret E hr dX8_centuries_193 ⟨o3, k4, trivial, f5⟩
      · have b73 : Bd x8 0 59 := Bd.lt_l (nle c63) b9 b6 59 (by decide)
        have b74 : Bd x_1 1 60 := Bd.lt_r (nle c63) b9 b6 1 (by decide)
        refine J_lload_n E dX8_centuries_41 2 rfl ?_
        refine J_ldc2 E wd1313 dX8_centuries_42 ?_
        refine J_lmul E dX8_centuries_45 (fun y75 e76 => ?_)
        refine J_ldc2 E wd1314 dX8_centuries_46 ?_
        refine J_ladd E dX8_centuries_49 (fun y77 e78 => ?_)
        refine J_ldc2 E wd1315 dX8_centuries_50 ?_
        refine J_lrem E dX8_centuries_53 (by decide) (fun y79 e80 => ?_)
        refine J_lstore_n E [(3, .long y79), (0, .ref h0), (2, .int x_1), (5, .int x8)] dX8_centuries_54 rfl (by decide) rfl ?_
        refine J_lload_n E dX8_centuries_55 0 rfl ?_
        refine J_ldc2 E wd1316 dX8_centuries_56 ?_
        refine J_ldiv E dX8_centuries_59 (by decide) (fun y81 e82 => ?_)
        refine J_ldc2 E wd1317 dX8_centuries_60 ?_
        refine J_lrem E dX8_centuries_63 (by decide) (fun y83 e84 => ?_)
        refine J_l2i E dX8_centuries_64 (fun x85 e86 => ?_)
        refine J_istore E [(6, .int x85), (3, .long y79), (0, .ref h0), (2, .int x_1), (5, .int x8)] dX8_centuries_65 (by decide) rfl ?_
        refine J_lload_n E dX8_centuries_67 1 rfl ?_
        refine J_ldc2 E wd1318 dX8_centuries_68 ?_
        refine J_ldiv E dX8_centuries_71 (by decide) (fun y87 e88 => ?_)
        refine J_ldc2 E wd1317 dX8_centuries_72 ?_
        refine J_lrem E dX8_centuries_75 (by decide) (fun y89 e90 => ?_)
        refine J_l2i E dX8_centuries_76 (fun x91 e92 => ?_)
        refine J_istore E [(7, .int x91), (6, .int x85), (3, .long y79), (0, .ref h0), (2, .int x_1), (5, .int x8)] dX8_centuries_77 (by decide) rfl ?_
        refine J_aload_n E dX8_centuries_79 3 rfl ?_
        refine J_iload E dX8_centuries_80 1 rfl ?_
        refine J_callVI E cal_X8_isOne wd1120 rfl (S_X8.h S0) [.int x85] [] (ct_X8_isOne l D dA G v1 w2 (o3) h0 S0 x85) rfl rfl (Nat.le_of_ble_eq_true rfl) ⟨rfl, rfl⟩ ⟨Nat.le_of_ble_eq_true rfl, Nat.le_of_ble_eq_true rfl⟩ dX8_centuries_82 (fun x96 v93 w94 p95 => ?_)
        rw [p95.1, p95.2.1]
        have b97 : Bd x96 0 1 := p95.2.2.1
        refine J_if_eq E 129 dX8_centuries_85 (by decide) (fun c98 => ?_) (fun c98 => ?_)
        · have b99 : Bd x96 0 0 := Bd.eq_l c98 b97 (Bd.lit 0 0 (by decide)) 0 0 (by decide)
          exact J.sub [3, 4, 2, 5, 1, 0] rfl (J129 b74 y79 (b73.w 0 60 (by decide)) x85 x91)
        · have b100 : Bd x96 1 1 := (Bd.ne_lo c98 b97 (Bd.lit 0 0 (by decide))).w _ _ (by decide)
          have b101 : Bd x85 0 6 := (p95.2.2.2.1).resolve_left c98
          refine J_aload_n E dX8_centuries_88 3 rfl ?_
          refine J_iload E dX8_centuries_89 0 rfl ?_
          refine J_callVI E cal_X8_isThing wd1124 rfl (S_X8.h S0) [.int x91] [] (ct_X8_isThing l D dA G v1 w2 (o3) h0 S0 x91) rfl rfl (Nat.le_of_ble_eq_true rfl) ⟨rfl, rfl⟩ ⟨Nat.le_of_ble_eq_true rfl, Nat.le_of_ble_eq_true rfl⟩ dX8_centuries_91 (fun x105 v102 w103 p104 => ?_)
          rw [p104.1, p104.2.1]
          have b106 : Bd x105 0 1 := p104.2.2.1
          refine J_if_eq E 129 dX8_centuries_94 (by decide) (fun c107 => ?_) (fun c107 => ?_)
          · have b108 : Bd x105 0 0 := Bd.eq_l c107 b106 (Bd.lit 0 0 (by decide)) 0 0 (by decide)
            exact J.sub [3, 4, 2, 5, 1, 0] rfl (J129 b74 y79 (b73.w 0 60 (by decide)) x85 x91)
          · have b109 : Bd x105 1 1 := (Bd.ne_lo c107 b106 (Bd.lit 0 0 (by decide))).w _ _ (by decide)
            have b110 : Bd x91 0 6 := (p104.2.2.2.1).resolve_left c107
            refine J_aload_n E dX8_centuries_97 3 rfl ?_
            refine J_getR E in_X8 rfl (S_X8.h S0) 3 (by decide) wd938 rfl dX8_centuries_98 ?_
            refine J_iconst E 1 dX8_centuries_101 (by decide) ?_
            refine J_iald1 E (S_X8.f3 S0) (Bd.in (Bd.lit 1 1 (by decide)) (by decide)) dX8_centuries_102 (fun x111 e112 => ?_)
            have e113 : x111 = v1 (rf G h0 3) 1 := by rw [e112, Bd.ix (Bd.lit 1 1 (by decide)) 1 rfl]
            refine J_iload E dX8_centuries_103 1 rfl ?_
            refine J_callSI E cal_X8_has wd1075 [.int x111, .int x85] [] (ct_X8_has l D dA G v1 w2 (o3) x111 x85 (b101.w 0 9 (by decide))) rfl rfl (Nat.le_of_ble_eq_true rfl) ⟨rfl, rfl⟩ ⟨Nat.le_of_ble_eq_true rfl, Nat.le_of_ble_eq_true rfl⟩ dX8_centuries_105 (fun x117 v114 w115 p116 => ?_)
            rw [p116.1, p116.2.1]
            have b118 : Bd x117 0 1 := p116.2.2.1
            refine J_if_ne E 129 dX8_centuries_108 (by decide) (fun c119 => ?_) (fun c119 => ?_)
            · have b120 : Bd x117 1 1 := (Bd.ne_lo c119 b118 (Bd.lit 0 0 (by decide))).w _ _ (by decide)
              exact J.sub [3, 4, 2, 5, 1, 0] rfl (J129 b74 y79 (b73.w 0 60 (by decide)) x85 x91)
            · have b121 : Bd x117 0 0 := Bd.eq_l c119 b118 (Bd.lit 0 0 (by decide)) 0 0 (by decide)
              refine J_aload_n E dX8_centuries_111 3 rfl ?_
              refine J_getR E in_X8 rfl (S_X8.h S0) 3 (by decide) wd938 rfl dX8_centuries_112 ?_
              refine J_bipush E 9 dX8_centuries_115 (by decide) ?_
              refine J_iload E dX8_centuries_117 1 rfl ?_
              refine J_iadd E dX8_centuries_119 (fun x122 e123 => ?_)
              have b124 : Bd x122 9 15 := (Bd.add e123 (Bd.lit 9 9 (by decide)) b101 (by decide)).w _ _ (by decide)
              refine J_iald1 E (S_X8.f3 S0) (Bd.in b124 (by decide)) dX8_centuries_120 (fun x125 e126 => ?_)
              have b127 : Bd x125 (-1) 6 := Bd.e (Ok.ld o3 (S_X8.f3 S0) b124 9 7 (-1) 6 (by decide) (by decide +kernel)) e126
              refine J_iconst E (-1) dX8_centuries_121 (by decide) ?_
              refine J_icmp_ne E 129 dX8_centuries_122 (by decide) (fun c128 => ?_) (fun c128 => ?_)
              · have b129 : Bd x125 0 6 := (Bd.ne_lo c128 b127 (Bd.lit (-1) (-1) (by decide))).w _ _ (by decide)
                exact J.sub [3, 4, 2, 5, 1, 0] rfl (J129 b74 y79 (b73.w 0 60 (by decide)) x85 x91)
              · have b130 : Bd x125 (-1) (-1) := Bd.eq_l c128 b127 (Bd.lit (-1) (-1) (by decide)) (-1) (-1) (by decide)
                refine J_iconst E 1 dX8_centuries_125 (by decide) ?_
                refine J_goto E 130 dX8_centuries_126 (by decide) ?_
                exact J.sub [3, 4, 2, 5, 1, 0] rfl (J130 b74 y79 (b73.w 0 60 (by decide)) x85 x91 1 ((Bd.lit 1 1 (by decide)).w 0 1 (by decide)) (Or.inr b101) (Or.inr b110))
  have J20 :  J p l e rm_X8_centuries s m args below meth c 0 0 (MQ below (QcI D dA G (fun r v1 w1 => Ok G v1 w1 ∧ Kp G v v1 ∧ True ∧ Fr G [103, 116, 1084] v v1)) args s 0 0 (dm G)) D dA G (dm G) s.heap 9 v w [(0, .ref h0)] 20 [] := by
    refine J_aload_n E dX8_centuries_20 0 rfl ?_
    refine J_callVI E cal_X8_bad wd999 rfl (S_X8.h S0) [] [] (ct_X8_bad l D dA G v w (hOk) h0 S0) rfl rfl (Nat.le_of_ble_eq_true rfl) ⟨rfl, rfl⟩ ⟨Nat.le_of_ble_eq_true rfl, Nat.le_of_ble_eq_true rfl⟩ dX8_centuries_21 (fun x134 v131 w132 p133 => ?_)
    have ew9 : w = w132 := p133.2.2.2.1.1.symm
    subst ew9
    have o135 := p133.1
    have k136 : Kp G v v131 := (Kp.rf).tr p133.2.1
    have f137 : Fr G [103, 116, 1084] v v131 := Fr.tr Fr.rf (p133.2.2.2.2) (by decide)
    have b138 : Bd x134 (-2) (-2) := p133.2.2.1
    exact J_iret E hr dX8_centuries_24 ⟨o135, k136, trivial, f137⟩
  refine J_iload_n E dX8_centuries_0 1 rfl ?_
  refine J_iconst E 0 dX8_centuries_1 (by decide) ?_
  refine J_ldc E wd1312 dX8_centuries_2 ?_
  refine J_callSI E cal_X8_in wd996 [.int x_0, .int 0, .int 999999] [] (ct_X8_in l D dA G v w (hOk) x_0 0 999999) rfl rfl (Nat.le_of_ble_eq_true rfl) ⟨rfl, rfl⟩ ⟨Nat.le_of_ble_eq_true rfl, Nat.le_of_ble_eq_true rfl⟩ dX8_centuries_4 (fun x142 v139 w140 p141 => ?_)
  rw [p141.1, p141.2.1]
  have b143 : Bd x142 0 1 := p141.2.2.1
  refine J_if_eq E 20 dX8_centuries_7 (by decide) (fun c144 => ?_) (fun c144 => ?_)
  · have b145 : Bd x142 0 0 := Bd.eq_l c144 b143 (Bd.lit 0 0 (by decide)) 0 0 (by decide)
    have g146 : ¬ (0 ≤ x_0 ∧ x_0 ≤ 999999) := (p141.2.2.2.2.1).resolve_left (fun h9 => h9 c144)
    exact J.sub [0] rfl (J20)
  · have b147 : Bd x142 1 1 := (Bd.ne_lo c144 b143 (Bd.lit 0 0 (by decide))).w _ _ (by decide)
    have g148 := (p141.2.2.2.1).resolve_left c144
    have b149 : Bd x_0 0 I1 := Bd.le_r g148.1 (Bd.lit 0 0 (by decide)) (Bd.any x_0) 0 (by decide)
    have b150 : Bd x_0 0 999999 := Bd.le_l g148.2 b149 (Bd.lit 999999 999999 (by decide)) 999999 (by decide)
    refine J_iload_n E dX8_centuries_10 2 rfl ?_
    refine J_iconst E 0 dX8_centuries_11 (by decide) ?_
    refine J_bipush E 60 dX8_centuries_12 (by decide) ?_
    refine J_callSI E cal_X8_in wd996 [.int x_1, .int 0, .int 60] [] (ct_X8_in l D dA G v w (hOk) x_1 0 60) rfl rfl (Nat.le_of_ble_eq_true rfl) ⟨rfl, rfl⟩ ⟨Nat.le_of_ble_eq_true rfl, Nat.le_of_ble_eq_true rfl⟩ dX8_centuries_14 (fun x154 v151 w152 p153 => ?_)
    rw [p153.1, p153.2.1]
    have b155 : Bd x154 0 1 := p153.2.2.1
    refine J_if_ne E 25 dX8_centuries_17 (by decide) (fun c156 => ?_) (fun c156 => ?_)
    · have b157 : Bd x154 1 1 := (Bd.ne_lo c156 b155 (Bd.lit 0 0 (by decide))).w _ _ (by decide)
      have g158 := (p153.2.2.2.1).resolve_left c156
      have b159 : Bd x_1 0 I1 := Bd.le_r g158.1 (Bd.lit 0 0 (by decide)) (Bd.any x_1) 0 (by decide)
      have b160 : Bd x_1 0 60 := Bd.le_l g158.2 b159 (Bd.lit 60 60 (by decide)) 60 (by decide)
      refine J_aload_n E dX8_centuries_25 0 rfl ?_
      refine J_callVV E cal_X8_take wd1199 rfl (S_X8.h S0) [] [] (ct_X8_take l D dA G v w (hOk) h0 S0) rfl rfl (Nat.le_of_ble_eq_true rfl) ⟨rfl, rfl⟩ ⟨Nat.le_of_ble_eq_true rfl, Nat.le_of_ble_eq_true rfl⟩ dX8_centuries_26 (fun v161 w162 p163 => ?_)
      have o165 := p163.1
      have k166 : Kp G v v161 := (Kp.rf).tr p163.2.1
      have f167 : Fr G [103, 116, 1084] v v161 := Fr.tr Fr.rf (p163.2.2) (by decide)
      refine J_iload_n E dX8_centuries_29 1 rfl ?_
      refine J_i2l E dX8_centuries_30 (fun y168 e169 => ?_)
      refine J_lstore_n E [(3, .long y168), (0, .ref h0), (1, .int x_0), (2, .int x_1)] dX8_centuries_31 rfl (by decide) rfl ?_
      refine J_iconst E 0 dX8_centuries_32 (by decide) ?_
      refine J_istore E [(5, .int 0), (3, .long y168), (0, .ref h0), (1, .int x_0), (2, .int x_1)] dX8_centuries_33 (by decide) rfl ?_
      exact J.sub [2, 4, 1, 0] rfl (J35 62 v161 w162 (o165) (k166) f167 b160 y168 0 ((Bd.lit 0 0 (by decide)).w 0 61 (by decide)) (Mu.start _ (Bd.lit 0 0 (by decide)) (by decide)))
    · have b170 : Bd x154 0 0 := Bd.eq_l c156 b155 (Bd.lit 0 0 (by decide)) 0 0 (by decide)
      have g171 : ¬ (0 ≤ x_1 ∧ x_1 ≤ 60) := (p153.2.2.2.2.1).resolve_left (fun h9 => h9 c156)
      exact J.sub [0] rfl (J20)

abbrev rm_X8_part : Room := { frames := 1, cells := 0, slots := 0, locals := 22 }
set_option maxHeartbeats 4000000 in
set_option maxRecDepth 100000 in
theorem ct_X8_part (l : Launch) (D : va_G) (dA : Nat → ClassId) (G : Gm) (v : Mv) (w : Mw) (hOk : Ok G v w) (h0 : Nat) (S0 : S_X8 G h0) (x_0 : Int32) : CtL l yX8_part cX8_part 2 (some .long) rm_X8_part D dA G [.ref h0, .int x_0] v w (fun r v1 w1 => Ok G v1 w1 ∧ Kp G v v1 ∧ Fr G [103] v v1) := by
  refine CtL.of RX8 [(0, .ref h0), (1, .int x_0)] (Nat.le_of_ble_eq_true rfl) rfl (by decide) rfl ?_
  intro p e s m args below meth c E hr
  refine J_iload_n E dX8_part_0 1 rfl ?_
  refine J_iconst E 0 dX8_part_1 (by decide) ?_
  refine J_iconst E 1 dX8_part_2 (by decide) ?_
  refine J_callSI E cal_X8_in wd996 [.int x_0, .int 0, .int 1] [] (ct_X8_in l D dA G v w (hOk) x_0 0 1) rfl rfl (Nat.le_of_ble_eq_true rfl) ⟨rfl, rfl⟩ ⟨Nat.le_of_ble_eq_true rfl, Nat.le_of_ble_eq_true rfl⟩ dX8_part_3 (fun x4 v1 w2 p3 => ?_)
  rw [p3.1, p3.2.1]
  have b5 : Bd x4 0 1 := p3.2.2.1
  refine J_if_ne E 15 dX8_part_6 (by decide) (fun c6 => ?_) (fun c6 => ?_)
  · have b7 : Bd x4 1 1 := (Bd.ne_lo c6 b5 (Bd.lit 0 0 (by decide))).w _ _ (by decide)
    have g8 := (p3.2.2.2.1).resolve_left c6
    have b9 : Bd x_0 0 I1 := Bd.le_r g8.1 (Bd.lit 0 0 (by decide)) (Bd.any x_0) 0 (by decide)
    have b10 : Bd x_0 0 1 := Bd.le_l g8.2 b9 (Bd.lit 1 1 (by decide)) 1 (by decide)
    refine J_iload_n E dX8_part_15 1 rfl ?_
    refine J_if_ne E 26 dX8_part_16 (by decide) (fun c11 => ?_) (fun c11 => ?_)
    · have b12 : Bd x_0 1 1 := (Bd.ne_lo c11 b10 (Bd.lit 0 0 (by decide))).w _ _ (by decide)
      refine J_aload_n E dX8_part_26 0 rfl ?_
      refine J_getL E in_X8 rfl (S_X8.h S0) 16 (by decide) wd951 rfl dX8_part_27 (fun y13 e14 => ?_)
      exact J_lret E hr dX8_part_30 ⟨hOk, Kp.rf, Fr.rf⟩
    · have b15 : Bd x_0 0 0 := Bd.eq_l c11 b10 (Bd.lit 0 0 (by decide)) 0 0 (by decide)
      refine J_aload_n E dX8_part_19 0 rfl ?_
      refine J_getL E in_X8 rfl (S_X8.h S0) 15 (by decide) wd950 rfl dX8_part_20 (fun y16 e17 => ?_)
      refine J_goto E 30 dX8_part_23 (by decide) ?_
      exact J_lret E hr dX8_part_30 ⟨hOk, Kp.rf, Fr.rf⟩
  · have b18 : Bd x4 0 0 := Bd.eq_l c6 b5 (Bd.lit 0 0 (by decide)) 0 0 (by decide)
    have g19 : ¬ (0 ≤ x_0 ∧ x_0 ≤ 1) := (p3.2.2.2.2.1).resolve_left (fun h9 => h9 c6)
    refine J_aload_n E dX8_part_9 0 rfl ?_
    refine J_callVI E cal_X8_bad wd999 rfl (S_X8.h S0) [] [] (ct_X8_bad l D dA G v w (hOk) h0 S0) rfl rfl (Nat.le_of_ble_eq_true rfl) ⟨rfl, rfl⟩ ⟨Nat.le_of_ble_eq_true rfl, Nat.le_of_ble_eq_true rfl⟩ dX8_part_10 (fun x23 v20 w21 p22 => ?_)
    have ew9 : w = w21 := p22.2.2.2.1.1.symm
    subst ew9
    have o24 := p22.1
    have k25 : Kp G v v20 := (Kp.rf).tr p22.2.1
    have f26 : Fr G [103] v v20 := Fr.tr Fr.rf (p22.2.2.2.2) (by decide)
    have b27 : Bd x23 (-2) (-2) := p22.2.2.1
    refine J_i2l E dX8_part_13 (fun y28 e29 => ?_)
    exact J_lret E hr dX8_part_14 ⟨o24, k25, f26⟩

def K_X8_image_c1 (G : Gm) (w : Mw) (h0 : Nat) (v18 : Mv) (x_0 : Int32) : Int32 × Mv :=
  ((1 : Int32), (stv v18 (rf G h0 2) (Int32.toNatClampNeg x_0) (vp_nar .boolean (1 : Int32))))
def K_X8_image_c2 (G : Gm) (w : Mw) (h0 : Nat) (v34 : Mv) (x37 : Int32) : Int32 × Mv :=
  (x37, v34)
def K_X8_image_e (G : Gm) (w : Mw) (v : Mv) (h0 : Nat) (x_0 : Int32) : Int32 × Mv :=
  if (F_X8_in G w v x_0 (0 : Int32) (1 : Int32)) = (0 : Int32) then (K_X8_image_c2 G w h0 ((F_X8_bad G w v h0).2) ((F_X8_bad G w v h0).1)) else (K_X8_image_c1 G w h0 (F_X8_copyRow G w v h0 (0 : Int32) ((246 : Int32) * ((1 : Int32) + x_0))) x_0)
def F_X8_image (G : Gm) (w : Mw) (v : Mv) (h0 : Nat) (x_0 : Int32) : Int32 × Mv := K_X8_image_e G w v h0 x_0
set_option maxRecDepth 100000 in
theorem kx_X8_image_1 {G : Gm} {w : Mw} {v : Mv} {h0 : Nat} {x_0 : Int32} {v18 : Mv} {x12 : Int32} {x15 : Int32} {x4 : Int32} (a0 : x4 = F_X8_in G w v x_0 (0 : Int32) (1 : Int32)) (a1 : x12 = (1 : Int32) + x_0) (a2 : x15 = (246 : Int32) * x12) (a3 : v18 = F_X8_copyRow G w v h0 (0 : Int32) x15) (k0 : ¬ (x4 = (0 : Int32))) : K_X8_image_e G w v h0 x_0 = K_X8_image_c1 G w h0 v18 x_0 := by
  subst a3; subst a2; subst a1; subst a0; first | rw [K_X8_image_e, if_neg k0] | simp only [K_X8_image_e, if_neg k0]
set_option maxRecDepth 100000 in
theorem kx_X8_image_2 {G : Gm} {w : Mw} {h0 : Nat} {v18 : Mv} {x_0 : Int32} {v26 : Mv} (a0 : v26 = stv v18 (rf G h0 2) (Int32.toNatClampNeg x_0) (vp_nar .boolean (1 : Int32)))  : K_X8_image_c1 G w h0 v18 x_0 = ((1 : Int32), v26) := by
  subst a0; first | rw [K_X8_image_c1] | simp only [K_X8_image_c1]
set_option maxRecDepth 100000 in
theorem kx_X8_image_3 {G : Gm} {w : Mw} {v : Mv} {h0 : Nat} {x_0 : Int32} {v34 : Mv} {x37 : Int32} {x4 : Int32} (a0 : x4 = F_X8_in G w v x_0 (0 : Int32) (1 : Int32)) (a1 : x37 = (F_X8_bad G w v h0).1) (a2 : v34 = (F_X8_bad G w v h0).2) (k0 : x4 = (0 : Int32)) : K_X8_image_e G w v h0 x_0 = K_X8_image_c2 G w h0 v34 x37 := by
  subst a2; subst a1; subst a0; first | rw [K_X8_image_e, if_pos k0] | simp only [K_X8_image_e, if_pos k0]
set_option maxRecDepth 100000 in
theorem kx_X8_image_4 {G : Gm} {w : Mw} {h0 : Nat} {v34 : Mv} {x37 : Int32}   : K_X8_image_c2 G w h0 v34 x37 = (x37, v34) := by
  first | rw [K_X8_image_c2] | simp only [K_X8_image_c2]
abbrev rm_X8_image : Room := { frames := 1, cells := 0, slots := 0, locals := 23 }
set_option maxHeartbeats 4000000 in
set_option maxRecDepth 100000 in
theorem ct_X8_image (l : Launch) (D : va_G) (dA : Nat → ClassId) (G : Gm) (v : Mv) (w : Mw) (hOk : Ok G v w) (h0 : Nat) (S0 : S_X8 G h0) (x_0 : Int32) : CtI l yX8_image cX8_image 2 (some .int) rm_X8_image D dA G [.ref h0, .int x_0] v w (fun r v1 w1 => Ok G v1 w1 ∧ True ∧ True ∧ (w1 = w ∧ (r, v1) = F_X8_image G w v h0 x_0) ∧ Fr G [103, 1084, 20102] v v1) := by
  refine CtI.of RX8 [(0, .ref h0), (1, .int x_0)] (Nat.le_of_ble_eq_true rfl) rfl (by decide) rfl ?_
  intro p e s m args below meth c E hr
  have hK : K_X8_image_e G w v h0 x_0 = F_X8_image G w v h0 x_0 := rfl
  refine J_iload_n E dX8_image_0 1 rfl ?_
  refine J_iconst E 0 dX8_image_1 (by decide) ?_
  refine J_iconst E 1 dX8_image_2 (by decide) ?_
  refine J_callSI E cal_X8_in wd996 [.int x_0, .int 0, .int 1] [] (ct_X8_in l D dA G v w (hOk) x_0 0 1) rfl rfl (Nat.le_of_ble_eq_true rfl) ⟨rfl, rfl⟩ ⟨Nat.le_of_ble_eq_true rfl, Nat.le_of_ble_eq_true rfl⟩ dX8_image_3 (fun x4 v1 w2 p3 => ?_)
  rw [p3.1, p3.2.1]
  have b5 : Bd x4 0 1 := p3.2.2.1
  have e6 : x4 = F_X8_in G w v x_0 (0 : Int32) (1 : Int32) := (p3.2.2.2.2.2)
  refine J_if_ne E 14 dX8_image_6 (by decide) (fun c7 => ?_) (fun c7 => ?_)
  · have b8 : Bd x4 1 1 := (Bd.ne_lo c7 b5 (Bd.lit 0 0 (by decide))).w _ _ (by decide)
    have g9 := (p3.2.2.2.1).resolve_left c7
    have b10 : Bd x_0 0 I1 := Bd.le_r g9.1 (Bd.lit 0 0 (by decide)) (Bd.any x_0) 0 (by decide)
    have b11 : Bd x_0 0 1 := Bd.le_l g9.2 b10 (Bd.lit 1 1 (by decide)) 1 (by decide)
    refine J_aload_n E dX8_image_14 0 rfl ?_
    refine J_iconst E 0 dX8_image_15 (by decide) ?_
    refine J_sipush E 246 dX8_image_16 (by decide) ?_
    refine J_iconst E 1 dX8_image_19 (by decide) ?_
    refine J_iload_n E dX8_image_20 1 rfl ?_
    refine J_iadd E dX8_image_21 (fun x12 e13 => ?_)
    have b14 : Bd x12 1 2 := (Bd.add e13 (Bd.lit 1 1 (by decide)) b11 (by decide)).w _ _ (by decide)
    refine J_imul E dX8_image_22 (fun x15 e16 => ?_)
    have b17 : Bd x15 246 492 := Bd.mul e16 (Bd.lit 246 246 (by decide)) b14 (by decide)
    refine J_callVV E cal_X8_copyRow wd1112 rfl (S_X8.h S0) [.int 0, .int x15] [] (ct_X8_copyRow l D dA G v w (hOk) h0 S0 0 ((Bd.lit 0 0 (by decide)).w 0 738 (by decide)) x15 (b17.w 0 738 (by decide)) Row.lit0 (Row.of e16 e13 b11)) rfl rfl (Nat.le_of_ble_eq_true rfl) ⟨rfl, rfl⟩ ⟨Nat.le_of_ble_eq_true rfl, Nat.le_of_ble_eq_true rfl⟩ dX8_image_23 (fun v18 w19 p20 => ?_)
    have ew9 : w = w19 := p20.2.2.1.1.symm
    subst ew9
    have o22 := p20.1
    have k23 : True := trivial
    have f24 : Fr G [103, 1084, 20102] v v18 := Fr.tr Fr.rf (p20.2.2.2) (by decide)
    have e25 : v18 = F_X8_copyRow G w v h0 (0 : Int32) x15 := (p20.2.2.1).2
    have hK : K_X8_image_c1 G w h0 v18 x_0 = F_X8_image G w v h0 x_0 := ((kx_X8_image_1 (e6) (e13) (e16) (e25) (c7)).symm.trans hK)
    refine J_aload_n E dX8_image_26 0 rfl ?_
    refine J_getR E in_X8 rfl (S_X8.h S0) 2 (by decide) wd937 rfl dX8_image_27 ?_
    refine J_iload_n E dX8_image_30 1 rfl ?_
    refine J_iconst E 1 dX8_image_31 (by decide) ?_
    refine J_zast1 E (S_X8.f2 S0) (Bd.in b11 (by decide)) dX8_image_32 (fun v26 e27 => ?_)
    have b30 : Bd (vp_nar .boolean 1) 0 1 := Bd.narZ _
    have o28 : Ok G v26 w := by rw [e27]; exact Ok.svk o22 (S_X8.f2 S0) b30 (fun _ => ⟨Int.le_refl 0, Int.le_refl 1⟩)
    have k29 : True := trivial
    have f31 : Fr G [103, 1084, 20102] v v26 := Fr.st f24 e27 (S_X8.f2 S0) rfl
    refine J_iconst E 1 dX8_image_33 (by decide) ?_
    exact J_iret E hr dX8_image_34 ⟨o28, k29, trivial, ⟨⟨rfl, ((kx_X8_image_2 (e27)).symm.trans hK)⟩, f31⟩⟩
  · have b32 : Bd x4 0 0 := Bd.eq_l c7 b5 (Bd.lit 0 0 (by decide)) 0 0 (by decide)
    have g33 : ¬ (0 ≤ x_0 ∧ x_0 ≤ 1) := (p3.2.2.2.2.1).resolve_left (fun h9 => h9 c7)
    refine J_aload_n E dX8_image_9 0 rfl ?_
    refine J_callVI E cal_X8_bad wd999 rfl (S_X8.h S0) [] [] (ct_X8_bad l D dA G v w (hOk) h0 S0) rfl rfl (Nat.le_of_ble_eq_true rfl) ⟨rfl, rfl⟩ ⟨Nat.le_of_ble_eq_true rfl, Nat.le_of_ble_eq_true rfl⟩ dX8_image_10 (fun x37 v34 w35 p36 => ?_)
    have ew9 : w = w35 := p36.2.2.2.1.1.symm
    subst ew9
    have o38 := p36.1
    have k39 : True := trivial
    have f40 : Fr G [103, 1084, 20102] v v34 := Fr.tr Fr.rf (p36.2.2.2.2) (by decide)
    have b41 : Bd x37 (-2) (-2) := p36.2.2.1
    have e42 : x37 = (F_X8_bad G w v h0).1 := congrArg Prod.fst (p36.2.2.2.1).2
    have e43 : v34 = (F_X8_bad G w v h0).2 := congrArg Prod.snd (p36.2.2.2.1).2
    have hK : K_X8_image_c2 G w h0 v34 x37 = F_X8_image G w v h0 x_0 := ((kx_X8_image_3 (e6) (e42) (e43) (c7)).symm.trans hK)
    exact J_iret E hr dX8_image_13 ⟨o38, k39, trivial, ⟨⟨rfl, ((kx_X8_image_4).symm.trans hK)⟩, f40⟩⟩

def K_X8_from_c1 (G : Gm) (w : Mw) (h0 : Nat) (v23 : Mv) : Int32 × Mv :=
  ((1 : Int32), v23)
def K_X8_from_c2 (G : Gm) (w : Mw) (h0 : Nat) (v32 : Mv) (x35 : Int32) : Int32 × Mv :=
  (x35, v32)
def K_X8_from_c3 (G : Gm) (w : Mw) (h0 : Nat) (v44 : Mv) (x47 : Int32) : Int32 × Mv :=
  (x47, v44)
def K_X8_from_e (G : Gm) (w : Mw) (v : Mv) (h0 : Nat) (x_0 : Int32) : Int32 × Mv :=
  if (F_X8_in G w v x_0 (0 : Int32) (1 : Int32)) = (0 : Int32) then (K_X8_from_c3 G w h0 ((F_X8_bad G w v h0).2) ((F_X8_bad G w v h0).1)) else (if (v (rf G h0 2) (Int32.toNatClampNeg x_0)) = (0 : Int32) then (K_X8_from_c2 G w h0 ((F_X8_no G w v h0).2) ((F_X8_no G w v h0).1)) else (K_X8_from_c1 G w h0 (F_X8_copyRow G w v h0 ((246 : Int32) * ((1 : Int32) + x_0)) (0 : Int32))))
def F_X8_from (G : Gm) (w : Mw) (v : Mv) (h0 : Nat) (x_0 : Int32) : Int32 × Mv := K_X8_from_e G w v h0 x_0
set_option maxRecDepth 100000 in
theorem kx_X8_from_1 {G : Gm} {w : Mw} {v : Mv} {h0 : Nat} {x_0 : Int32} {v23 : Mv} {x17 : Int32} {x20 : Int32} {x4 : Int32} {x12 : Int32} (a0 : x4 = F_X8_in G w v x_0 (0 : Int32) (1 : Int32)) (a1 : x12 = v (rf G h0 2) (Int32.toNatClampNeg x_0)) (a2 : x17 = (1 : Int32) + x_0) (a3 : x20 = (246 : Int32) * x17) (a4 : v23 = F_X8_copyRow G w v h0 x20 (0 : Int32)) (k0 : ¬ (x4 = (0 : Int32))) (k1 : ¬ (x12 = (0 : Int32))) : K_X8_from_e G w v h0 x_0 = K_X8_from_c1 G w h0 v23 := by
  subst a4; subst a3; subst a2; subst a1; subst a0; first | rw [K_X8_from_e, if_neg k0, if_neg k1] | simp only [K_X8_from_e, if_neg k0, if_neg k1]
set_option maxRecDepth 100000 in
theorem kx_X8_from_2 {G : Gm} {w : Mw} {h0 : Nat} {v23 : Mv}   : K_X8_from_c1 G w h0 v23 = ((1 : Int32), v23) := by
  first | rw [K_X8_from_c1] | simp only [K_X8_from_c1]
set_option maxRecDepth 100000 in
theorem kx_X8_from_3 {G : Gm} {w : Mw} {v : Mv} {h0 : Nat} {x_0 : Int32} {v32 : Mv} {x35 : Int32} {x4 : Int32} {x12 : Int32} (a0 : x4 = F_X8_in G w v x_0 (0 : Int32) (1 : Int32)) (a1 : x12 = v (rf G h0 2) (Int32.toNatClampNeg x_0)) (a2 : x35 = (F_X8_no G w v h0).1) (a3 : v32 = (F_X8_no G w v h0).2) (k0 : ¬ (x4 = (0 : Int32))) (k1 : x12 = (0 : Int32)) : K_X8_from_e G w v h0 x_0 = K_X8_from_c2 G w h0 v32 x35 := by
  subst a3; subst a2; subst a1; subst a0; first | rw [K_X8_from_e, if_neg k0, if_pos k1] | simp only [K_X8_from_e, if_neg k0, if_pos k1]
set_option maxRecDepth 100000 in
theorem kx_X8_from_4 {G : Gm} {w : Mw} {h0 : Nat} {v32 : Mv} {x35 : Int32}   : K_X8_from_c2 G w h0 v32 x35 = (x35, v32) := by
  first | rw [K_X8_from_c2] | simp only [K_X8_from_c2]
set_option maxRecDepth 100000 in
theorem kx_X8_from_5 {G : Gm} {w : Mw} {v : Mv} {h0 : Nat} {x_0 : Int32} {v44 : Mv} {x47 : Int32} {x4 : Int32} (a0 : x4 = F_X8_in G w v x_0 (0 : Int32) (1 : Int32)) (a1 : x47 = (F_X8_bad G w v h0).1) (a2 : v44 = (F_X8_bad G w v h0).2) (k0 : x4 = (0 : Int32)) : K_X8_from_e G w v h0 x_0 = K_X8_from_c3 G w h0 v44 x47 := by
  subst a2; subst a1; subst a0; first | rw [K_X8_from_e, if_pos k0] | simp only [K_X8_from_e, if_pos k0]
set_option maxRecDepth 100000 in
theorem kx_X8_from_6 {G : Gm} {w : Mw} {h0 : Nat} {v44 : Mv} {x47 : Int32}   : K_X8_from_c3 G w h0 v44 x47 = (x47, v44) := by
  first | rw [K_X8_from_c3] | simp only [K_X8_from_c3]
abbrev rm_X8_from : Room := { frames := 1, cells := 0, slots := 0, locals := 23 }
set_option maxHeartbeats 4000000 in
set_option maxRecDepth 100000 in
theorem ct_X8_from (l : Launch) (D : va_G) (dA : Nat → ClassId) (G : Gm) (v : Mv) (w : Mw) (hOk : Ok G v w) (h0 : Nat) (S0 : S_X8 G h0) (x_0 : Int32) : CtI l yX8_from cX8_from 2 (some .int) rm_X8_from D dA G [.ref h0, .int x_0] v w (fun r v1 w1 => Ok G v1 w1 ∧ True ∧ True ∧ (w1 = w ∧ (r, v1) = F_X8_from G w v h0 x_0) ∧ Fr G [103, 1084] v v1) := by
  refine CtI.of RX8 [(0, .ref h0), (1, .int x_0)] (Nat.le_of_ble_eq_true rfl) rfl (by decide) rfl ?_
  intro p e s m args below meth c E hr
  have hK : K_X8_from_e G w v h0 x_0 = F_X8_from G w v h0 x_0 := rfl
  refine J_iload_n E dX8_from_0 1 rfl ?_
  refine J_iconst E 0 dX8_from_1 (by decide) ?_
  refine J_iconst E 1 dX8_from_2 (by decide) ?_
  refine J_callSI E cal_X8_in wd996 [.int x_0, .int 0, .int 1] [] (ct_X8_in l D dA G v w (hOk) x_0 0 1) rfl rfl (Nat.le_of_ble_eq_true rfl) ⟨rfl, rfl⟩ ⟨Nat.le_of_ble_eq_true rfl, Nat.le_of_ble_eq_true rfl⟩ dX8_from_3 (fun x4 v1 w2 p3 => ?_)
  rw [p3.1, p3.2.1]
  have b5 : Bd x4 0 1 := p3.2.2.1
  have e6 : x4 = F_X8_in G w v x_0 (0 : Int32) (1 : Int32) := (p3.2.2.2.2.2)
  refine J_if_ne E 14 dX8_from_6 (by decide) (fun c7 => ?_) (fun c7 => ?_)
  · have b8 : Bd x4 1 1 := (Bd.ne_lo c7 b5 (Bd.lit 0 0 (by decide))).w _ _ (by decide)
    have g9 := (p3.2.2.2.1).resolve_left c7
    have b10 : Bd x_0 0 I1 := Bd.le_r g9.1 (Bd.lit 0 0 (by decide)) (Bd.any x_0) 0 (by decide)
    have b11 : Bd x_0 0 1 := Bd.le_l g9.2 b10 (Bd.lit 1 1 (by decide)) 1 (by decide)
    refine J_aload_n E dX8_from_14 0 rfl ?_
    refine J_getR E in_X8 rfl (S_X8.h S0) 2 (by decide) wd937 rfl dX8_from_15 ?_
    refine J_iload_n E dX8_from_18 1 rfl ?_
    refine J_zald1 E (S_X8.f2 S0) (Bd.in b11 (by decide)) dX8_from_19 (fun x12 e13 => ?_)
    have b14 : Bd x12 0 1 := Bd.e (Ok.ld hOk (S_X8.f2 S0) b11 0 2 0 1 (by decide) (by decide +kernel)) e13
    refine J_if_ne E 28 dX8_from_20 (by decide) (fun c15 => ?_) (fun c15 => ?_)
    · have b16 : Bd x12 1 1 := (Bd.ne_lo c15 b14 (Bd.lit 0 0 (by decide))).w _ _ (by decide)
      refine J_aload_n E dX8_from_28 0 rfl ?_
      refine J_sipush E 246 dX8_from_29 (by decide) ?_
      refine J_iconst E 1 dX8_from_32 (by decide) ?_
      refine J_iload_n E dX8_from_33 1 rfl ?_
      refine J_iadd E dX8_from_34 (fun x17 e18 => ?_)
      have b19 : Bd x17 1 2 := (Bd.add e18 (Bd.lit 1 1 (by decide)) b11 (by decide)).w _ _ (by decide)
      refine J_imul E dX8_from_35 (fun x20 e21 => ?_)
      have b22 : Bd x20 246 492 := Bd.mul e21 (Bd.lit 246 246 (by decide)) b19 (by decide)
      refine J_iconst E 0 dX8_from_36 (by decide) ?_
      refine J_callVV E cal_X8_copyRow wd1112 rfl (S_X8.h S0) [.int x20, .int 0] [] (ct_X8_copyRow l D dA G v w (hOk) h0 S0 x20 (b22.w 0 738 (by decide)) 0 ((Bd.lit 0 0 (by decide)).w 0 738 (by decide)) (Row.of e21 e18 b11) Row.lit0) rfl rfl (Nat.le_of_ble_eq_true rfl) ⟨rfl, rfl⟩ ⟨Nat.le_of_ble_eq_true rfl, Nat.le_of_ble_eq_true rfl⟩ dX8_from_37 (fun v23 w24 p25 => ?_)
      have ew9 : w = w24 := p25.2.2.1.1.symm
      subst ew9
      have o27 := p25.1
      have k28 : True := trivial
      have f29 : Fr G [103, 1084] v v23 := Fr.tr Fr.rf (p25.2.2.2) (by decide)
      have e30 : v23 = F_X8_copyRow G w v h0 x20 (0 : Int32) := (p25.2.2.1).2
      have hK : K_X8_from_c1 G w h0 v23 = F_X8_from G w v h0 x_0 := ((kx_X8_from_1 (e6) (e13) (e18) (e21) (e30) (c7) (c15)).symm.trans hK)
      refine J_iconst E 1 dX8_from_40 (by decide) ?_
      exact J_iret E hr dX8_from_41 ⟨o27, k28, trivial, ⟨⟨rfl, ((kx_X8_from_2).symm.trans hK)⟩, f29⟩⟩
    · have b31 : Bd x12 0 0 := Bd.eq_l c15 b14 (Bd.lit 0 0 (by decide)) 0 0 (by decide)
      refine J_aload_n E dX8_from_23 0 rfl ?_
      refine J_callVI E cal_X8_no wd1132 rfl (S_X8.h S0) [] [] (ct_X8_no l D dA G v w (hOk) h0 S0) rfl rfl (Nat.le_of_ble_eq_true rfl) ⟨rfl, rfl⟩ ⟨Nat.le_of_ble_eq_true rfl, Nat.le_of_ble_eq_true rfl⟩ dX8_from_24 (fun x35 v32 w33 p34 => ?_)
      have ew9 : w = w33 := p34.2.2.2.1.1.symm
      subst ew9
      have o36 := p34.1
      have k37 : True := trivial
      have f38 : Fr G [103, 1084] v v32 := Fr.tr Fr.rf (p34.2.2.2.2) (by decide)
      have b39 : Bd x35 (-3) (-3) := p34.2.2.1
      have e40 : x35 = (F_X8_no G w v h0).1 := congrArg Prod.fst (p34.2.2.2.1).2
      have e41 : v32 = (F_X8_no G w v h0).2 := congrArg Prod.snd (p34.2.2.2.1).2
      have hK : K_X8_from_c2 G w h0 v32 x35 = F_X8_from G w v h0 x_0 := ((kx_X8_from_3 (e6) (e13) (e40) (e41) (c7) (c15)).symm.trans hK)
      exact J_iret E hr dX8_from_27 ⟨o36, k37, trivial, ⟨⟨rfl, ((kx_X8_from_4).symm.trans hK)⟩, f38⟩⟩
  · have b42 : Bd x4 0 0 := Bd.eq_l c7 b5 (Bd.lit 0 0 (by decide)) 0 0 (by decide)
    have g43 : ¬ (0 ≤ x_0 ∧ x_0 ≤ 1) := (p3.2.2.2.2.1).resolve_left (fun h9 => h9 c7)
    refine J_aload_n E dX8_from_9 0 rfl ?_
    refine J_callVI E cal_X8_bad wd999 rfl (S_X8.h S0) [] [] (ct_X8_bad l D dA G v w (hOk) h0 S0) rfl rfl (Nat.le_of_ble_eq_true rfl) ⟨rfl, rfl⟩ ⟨Nat.le_of_ble_eq_true rfl, Nat.le_of_ble_eq_true rfl⟩ dX8_from_10 (fun x47 v44 w45 p46 => ?_)
    have ew9 : w = w45 := p46.2.2.2.1.1.symm
    subst ew9
    have o48 := p46.1
    have k49 : True := trivial
    have f50 : Fr G [103, 1084] v v44 := Fr.tr Fr.rf (p46.2.2.2.2) (by decide)
    have b51 : Bd x47 (-2) (-2) := p46.2.2.1
    have e52 : x47 = (F_X8_bad G w v h0).1 := congrArg Prod.fst (p46.2.2.2.1).2
    have e53 : v44 = (F_X8_bad G w v h0).2 := congrArg Prod.snd (p46.2.2.2.1).2
    have hK : K_X8_from_c3 G w h0 v44 x47 = F_X8_from G w v h0 x_0 := ((kx_X8_from_5 (e6) (e52) (e53) (c7)).symm.trans hK)
    exact J_iret E hr dX8_from_13 ⟨o48, k49, trivial, ⟨⟨rfl, ((kx_X8_from_6).symm.trans hK)⟩, f50⟩⟩

abbrev rm_X8_status : Room := { frames := 1, cells := 0, slots := 0, locals := 22 }
set_option maxHeartbeats 4000000 in
set_option maxRecDepth 100000 in
theorem ct_X8_status (l : Launch) (D : va_G) (dA : Nat → ClassId) (G : Gm) (v : Mv) (w : Mw) (hOk : Ok G v w) (h0 : Nat) (S0 : S_X8 G h0) (x_0 : Int32) : CtI l yX8_status cX8_status 2 (some .int) rm_X8_status D dA G [.ref h0, .int x_0] v w (fun r v1 w1 => Ok G v1 w1 ∧ Kp G v v1 ∧ True ∧ Fr G [103] v v1) := by
  refine CtI.of RX8 [(0, .ref h0), (1, .int x_0)] (Nat.le_of_ble_eq_true rfl) rfl (by decide) rfl ?_
  intro p e s m args below meth c E hr
  refine J_iload_n E dX8_status_0 1 rfl ?_
  refine J_iconst E 0 dX8_status_1 (by decide) ?_
  refine J_iconst E 2 dX8_status_2 (by decide) ?_
  refine J_callSI E cal_X8_in wd996 [.int x_0, .int 0, .int 2] [] (ct_X8_in l D dA G v w (hOk) x_0 0 2) rfl rfl (Nat.le_of_ble_eq_true rfl) ⟨rfl, rfl⟩ ⟨Nat.le_of_ble_eq_true rfl, Nat.le_of_ble_eq_true rfl⟩ dX8_status_3 (fun x4 v1 w2 p3 => ?_)
  rw [p3.1, p3.2.1]
  have b5 : Bd x4 0 1 := p3.2.2.1
  refine J_if_ne E 21 dX8_status_6 (by decide) (fun c6 => ?_) (fun c6 => ?_)
  · have b7 : Bd x4 1 1 := (Bd.ne_lo c6 b5 (Bd.lit 0 0 (by decide))).w _ _ (by decide)
    have g8 := (p3.2.2.2.1).resolve_left c6
    have b9 : Bd x_0 0 I1 := Bd.le_r g8.1 (Bd.lit 0 0 (by decide)) (Bd.any x_0) 0 (by decide)
    have b10 : Bd x_0 0 2 := Bd.le_l g8.2 b9 (Bd.lit 2 2 (by decide)) 2 (by decide)
    refine J_aload_n E dX8_status_21 0 rfl ?_
    refine J_getR E in_X8 rfl (S_X8.h S0) 0 (by decide) wd935 rfl dX8_status_22 ?_
    refine J_iload_n E dX8_status_25 1 rfl ?_
    refine J_iald1 E (S_X8.f0 S0) (Bd.in b10 (by decide)) dX8_status_26 (fun x11 e12 => ?_)
    exact J_iret E hr dX8_status_27 ⟨hOk, Kp.rf, trivial, Fr.rf⟩
  · have b13 : Bd x4 0 0 := Bd.eq_l c6 b5 (Bd.lit 0 0 (by decide)) 0 0 (by decide)
    have g14 : ¬ (0 ≤ x_0 ∧ x_0 ≤ 2) := (p3.2.2.2.2.1).resolve_left (fun h9 => h9 c6)
    refine J_aload_n E dX8_status_9 0 rfl ?_
    refine J_getR E in_X8 rfl (S_X8.h S0) 0 (by decide) wd935 rfl dX8_status_10 ?_
    refine J_iconst E 0 dX8_status_13 (by decide) ?_
    refine J_dup2 E dX8_status_14 rfl rfl ?_
    refine J_iald1 E (S_X8.f0 S0) (Bd.in (Bd.lit 0 0 (by decide)) (by decide)) dX8_status_15 (fun x15 e16 => ?_)
    have e17 : x15 = v (rf G h0 0) 0 := by rw [e16, Bd.ix (Bd.lit 0 0 (by decide)) 0 rfl]
    refine J_iconst E 1 dX8_status_16 (by decide) ?_
    refine J_iadd E dX8_status_17 (fun x18 e19 => ?_)
    refine J_iast1 E (S_X8.f0 S0) (Bd.in (Bd.lit 0 0 (by decide)) (by decide)) dX8_status_18 (fun v20 e21 => ?_)
    have o22 : Ok G v20 w := by rw [e21]; exact Ok.sv hOk (S_X8.f0 S0) (Bd.lit 0 0 (by decide)) (Bd.any x18) 0 1 (by decide) (by decide +kernel)
    have k23 : Kp G v v20 := by rw [e21]; exact Kp.sv Kp.rf (S_X8.f0 S0) (Bd.lit 0 0 (by decide)) 0 1 I0 I1 (by decide) (by decide +kernel)
    have f24 : Fr G [103] v v20 := Fr.st Fr.rf e21 (S_X8.f0 S0) rfl
    have e25 : (x18 : Int32) = v20 (rf G h0 0) 0 := by rw [e21, Bd.ix (Bd.lit 0 0 (by decide)) 0 rfl, stv_s]
    refine J_iconst E (-1) dX8_status_19 (by decide) ?_
    exact J_iret E hr dX8_status_20 ⟨o22, k23, trivial, f24⟩

abbrev rm_X8_many : Room := { frames := 1, cells := 0, slots := 0, locals := 22 }
set_option maxHeartbeats 4000000 in
set_option maxRecDepth 100000 in
theorem ct_X8_many (l : Launch) (D : va_G) (dA : Nat → ClassId) (G : Gm) (v : Mv) (w : Mw) (hOk : Ok G v w) (h0 : Nat) (S0 : S_X8 G h0) (x_0 : Int32) (bx_0 : Bd x_0 0 9) : CtI l yX8_many cX8_many 4 (some .int) rm_X8_many D dA G [.ref h0, .int x_0] v w (fun r v1 w1 => v1 = v ∧ w1 = w ∧ True ∧ True) := by
  refine CtI.of RX8 [(0, .ref h0), (1, .int x_0)] (Nat.le_of_ble_eq_true rfl) rfl (by decide) rfl ?_
  intro p e s m args below meth c E hr
  have J82 : ∀ n82 : Nat, ∀ x1 : Int32, ∀ x2 : Int32, Bd x2 0 7 → Mu x2 7 n82 → J p l e rm_X8_many s m args below meth c 0 0 (MQ below (QcI D dA G (fun r v1 w1 => v1 = v ∧ w1 = w ∧ True ∧ True)) args s 0 0 (dm G)) D dA G (dm G) s.heap 4 v w [(0, .ref h0), (2, .int x1), (3, .int x2)] 82 [] := by
    intro n82
    induction n82 with
    | zero => intro x1 x2 b3 hm; exact hm.zero b3 (by decide)
    | succ n82 ih82 =>
      intro x1 x2 b3 hmu82
      have J111 : Bd x2 0 6 → ∀ x5 : Int32, Bd x5 0 1 → ∀ x7 : Int32, J p l e rm_X8_many s m args below meth c 0 0 (MQ below (QcI D dA G (fun r v1 w1 => v1 = v ∧ w1 = w ∧ True ∧ True)) args s 0 0 (dm G)) D dA G (dm G) s.heap 4 v w [(0, .ref h0), (3, .int x2)] 111 [.int x5, .int x7] := by
        intro b4 x5 b6 x7
        refine J_iadd E dX8_many_111 (fun x8 e9 => ?_)
        refine J_istore_n E [(2, .int x8), (0, .ref h0), (3, .int x2)] dX8_many_112 rfl (by decide) rfl ?_
        refine J_iinc E 2 1 (fun z => [(3, .int z), (2, .int x8), (0, .ref h0)]) dX8_many_113 rfl (by decide) (by decide) (fun _ => rfl) (fun x10 e11 => ?_)
        have b12 : Bd x10 1 7 := (Bd.add e11 b4 (Bd.lit 1 1 (by decide)) (by decide)).w _ _ (by decide)
        refine J_goto E 82 dX8_many_116 (by decide) ?_
        exact J.sub [2, 1, 0] rfl (ih82 x8 x10 (b12.w 0 7 (by decide)) (Mu.step hmu82 e11 b4 (Bd.lit 1 1 (by decide)) (by decide)))
      refine J_iload_n E dX8_many_82 2 rfl ?_
      refine J_aload_n E dX8_many_83 0 rfl ?_
      refine J_getR E in_X8 rfl (S_X8.h S0) 1 (by decide) wd936 rfl dX8_many_84 ?_
      refine J_iconst E 1 dX8_many_87 (by decide) ?_
      refine J_iald1 E (S_X8.f1 S0) (Bd.in (Bd.lit 1 1 (by decide)) (by decide)) dX8_many_88 (fun x13 e14 => ?_)
      have b15 : Bd x13 0 7 := Bd.e (Ok.ld hOk (S_X8.f1 S0) (Bd.lit 1 1 (by decide)) 1 1 0 7 (by decide) (by decide +kernel)) e14
      have e16 : x13 = v (rf G h0 1) 1 := by rw [e14, Bd.ix (Bd.lit 1 1 (by decide)) 1 rfl]
      refine J_icmp_ge E 119 dX8_many_89 (by decide) (fun c17 => ?_) (fun c17 => ?_)
      · refine J_iload_n E dX8_many_119 1 rfl ?_
        exact J_iret E hr dX8_many_120 ⟨rfl, rfl, trivial, trivial⟩
      · have b18 : Bd x2 0 6 := Bd.lt_l (nle c17) b3 b15 6 (by decide)
        have b19 : Bd x13 1 7 := Bd.lt_r (nle c17) b3 b15 1 (by decide)
        refine J_iload_n E dX8_many_92 1 rfl ?_
        refine J_aload_n E dX8_many_93 0 rfl ?_
        refine J_getR E in_X8 rfl (S_X8.h S0) 1 (by decide) wd936 rfl dX8_many_94 ?_
        refine J_bipush E 43 dX8_many_97 (by decide) ?_
        refine J_iload_n E dX8_many_99 2 rfl ?_
        refine J_iadd E dX8_many_100 (fun x20 e21 => ?_)
        have b22 : Bd x20 43 49 := (Bd.add e21 (Bd.lit 43 43 (by decide)) b18 (by decide)).w _ _ (by decide)
        refine J_iald1 E (S_X8.f1 S0) (Bd.in b22 (by decide)) dX8_many_101 (fun x23 e24 => ?_)
        have b25 : Bd x23 (-1) 6 := Bd.e (Ok.ld hOk (S_X8.f1 S0) b22 43 7 (-1) 6 (by decide) (by decide +kernel)) e24
        refine J_iconst E (-1) dX8_many_102 (by decide) ?_
        refine J_icmp_ne E 110 dX8_many_103 (by decide) (fun c26 => ?_) (fun c26 => ?_)
        · have b27 : Bd x23 0 6 := (Bd.ne_lo c26 b25 (Bd.lit (-1) (-1) (by decide))).w _ _ (by decide)
          refine J_iconst E 1 dX8_many_110 (by decide) ?_
          exact J.sub [0, 2] rfl (J111 b18 1 ((Bd.lit 1 1 (by decide)).w 0 1 (by decide)) x1)
        · have b28 : Bd x23 (-1) (-1) := Bd.eq_l c26 b25 (Bd.lit (-1) (-1) (by decide)) (-1) (-1) (by decide)
          refine J_iconst E 0 dX8_many_106 (by decide) ?_
          refine J_goto E 111 dX8_many_107 (by decide) ?_
          exact J.sub [0, 2] rfl (J111 b18 0 ((Bd.lit 0 0 (by decide)).w 0 1 (by decide)) x1)
  refine J_iconst E 0 dX8_many_0 (by decide) ?_
  refine J_istore_n E [(2, .int 0), (0, .ref h0), (1, .int x_0)] dX8_many_1 rfl (by decide) rfl ?_
  refine J_iload_n E dX8_many_2 2 rfl ?_
  by_cases h29 : x_0.toInt = 0
  · refine J_tabIn E 0 52 dX8_many_3 h29 (by decide) (by decide) rfl (by decide) ?_
    have b30 : Bd x_0 0 0 := ⟨by omega, by omega⟩
    refine J_aload_n E dX8_many_52 1 rfl ?_
    refine J_getR E in_X8 rfl (S_X8.h S0) 1 (by decide) wd936 rfl dX8_many_53 ?_
    refine J_iconst E 1 dX8_many_56 (by decide) ?_
    refine J_iald1 E (S_X8.f1 S0) (Bd.in (Bd.lit 1 1 (by decide)) (by decide)) dX8_many_57 (fun x31 e32 => ?_)
    have b33 : Bd x31 0 7 := Bd.e (Ok.ld hOk (S_X8.f1 S0) (Bd.lit 1 1 (by decide)) 1 1 0 7 (by decide) (by decide +kernel)) e32
    have e34 : x31 = v (rf G h0 1) 1 := by rw [e32, Bd.ix (Bd.lit 1 1 (by decide)) 1 rfl]
    exact J_iret E hr dX8_many_58 ⟨rfl, rfl, trivial, trivial⟩
  by_cases h35 : x_0.toInt = 1
  · refine J_tabIn E 1 59 dX8_many_3 h35 (by decide) (by decide) rfl (by decide) ?_
    have b36 : Bd x_0 1 1 := ⟨by omega, by omega⟩
    refine J_aload_n E dX8_many_59 1 rfl ?_
    refine J_aload_n E dX8_many_60 1 rfl ?_
    refine J_getR E in_X8 rfl (S_X8.h S0) 1 (by decide) wd936 rfl dX8_many_61 ?_
    refine J_bipush E 34 dX8_many_64 (by decide) ?_
    refine J_callVI E cal_X8_hereOf wd1148 rfl (S_X8.h S0) [.ref (rf G h0 1), .int 34] [] (ct_X8_hereOf_A_34 l D dA G v w (hOk) h0 S0) rfl rfl (Nat.le_of_ble_eq_true rfl) ⟨rfl, rfl⟩ ⟨Nat.le_of_ble_eq_true rfl, Nat.le_of_ble_eq_true rfl⟩ dX8_many_66 (fun x40 v37 w38 p39 => ?_)
    rw [p39.1, p39.2.1]
    have b41 : Bd x40 0 127 := p39.2.2.1
    refine J_callSI E cal_X8_bitsOf wd1152 [.int x40] [] (ct_X8_bitsOf l D dA G v w (hOk) x40) rfl rfl (Nat.le_of_ble_eq_true rfl) ⟨rfl, rfl⟩ ⟨Nat.le_of_ble_eq_true rfl, Nat.le_of_ble_eq_true rfl⟩ dX8_many_69 (fun x45 v42 w43 p44 => ?_)
    rw [p44.1, p44.2.1]
    exact J_iret E hr dX8_many_72 ⟨rfl, rfl, trivial, trivial⟩
  by_cases h46 : x_0.toInt = 2
  · refine J_tabIn E 2 73 dX8_many_3 h46 (by decide) (by decide) rfl (by decide) ?_
    have b47 : Bd x_0 2 2 := ⟨by omega, by omega⟩
    refine J_aload_n E dX8_many_73 1 rfl ?_
    refine J_getR E in_X8 rfl (S_X8.h S0) 1 (by decide) wd936 rfl dX8_many_74 ?_
    refine J_iconst E 0 dX8_many_77 (by decide) ?_
    refine J_iald1 E (S_X8.f1 S0) (Bd.in (Bd.lit 0 0 (by decide)) (by decide)) dX8_many_78 (fun x48 e49 => ?_)
    have b50 : Bd x48 0 7 := Bd.e (Ok.ld hOk (S_X8.f1 S0) (Bd.lit 0 0 (by decide)) 0 1 0 7 (by decide) (by decide +kernel)) e49
    have e51 : x48 = v (rf G h0 1) 0 := by rw [e49, Bd.ix (Bd.lit 0 0 (by decide)) 0 rfl]
    exact J_iret E hr dX8_many_79 ⟨rfl, rfl, trivial, trivial⟩
  by_cases h52 : x_0.toInt = 3
  · refine J_tabIn E 3 80 dX8_many_3 h52 (by decide) (by decide) rfl (by decide) ?_
    have b53 : Bd x_0 3 3 := ⟨by omega, by omega⟩
    refine J_iconst E 0 dX8_many_80 (by decide) ?_
    refine J_istore_n E [(3, .int 0), (2, .int 0), (0, .ref h0), (1, .int x_0)] dX8_many_81 rfl (by decide) rfl ?_
    exact J.sub [2, 1, 0] rfl (J82 8 0 0 ((Bd.lit 0 0 (by decide)).w 0 7 (by decide)) (Mu.start _ (Bd.lit 0 0 (by decide)) (by decide)))
  by_cases h54 : x_0.toInt = 4
  · refine J_tabIn E 4 121 dX8_many_3 h54 (by decide) (by decide) rfl (by decide) ?_
    have b55 : Bd x_0 4 4 := ⟨by omega, by omega⟩
    refine J_aload_n E dX8_many_121 1 rfl ?_
    refine J_getR E in_X8 rfl (S_X8.h S0) 1 (by decide) wd936 rfl dX8_many_122 ?_
    refine J_bipush E 34 dX8_many_125 (by decide) ?_
    refine J_iald1 E (S_X8.f1 S0) (Bd.in (Bd.lit 34 34 (by decide)) (by decide)) dX8_many_127 (fun x56 e57 => ?_)
    have e58 : x56 = v (rf G h0 1) 34 := by rw [e57, Bd.ix (Bd.lit 34 34 (by decide)) 34 rfl]
    exact J_iret E hr dX8_many_128 ⟨rfl, rfl, trivial, trivial⟩
  by_cases h59 : x_0.toInt = 5
  · refine J_tabIn E 5 129 dX8_many_3 h59 (by decide) (by decide) rfl (by decide) ?_
    have b60 : Bd x_0 5 5 := ⟨by omega, by omega⟩
    refine J_aload_n E dX8_many_129 1 rfl ?_
    refine J_getR E in_X8 rfl (S_X8.h S0) 1 (by decide) wd936 rfl dX8_many_130 ?_
    refine J_iconst E 2 dX8_many_133 (by decide) ?_
    refine J_iload_n E dX8_many_134 2 rfl ?_
    refine J_iadd E dX8_many_135 (fun x61 e62 => ?_)
    have b63 : Bd x61 7 7 := (Bd.add e62 (Bd.lit 2 2 (by decide)) b60 (by decide)).w _ _ (by decide)
    refine J_iconst E 5 dX8_many_136 (by decide) ?_
    refine J_isub E dX8_many_137 (fun x64 e65 => ?_)
    have b66 : Bd x64 2 2 := (Bd.sub e65 b63 (Bd.lit 5 5 (by decide)) (by decide)).w _ _ (by decide)
    refine J_iald1 E (S_X8.f1 S0) (Bd.in b66 (by decide)) dX8_many_138 (fun x67 e68 => ?_)
    have b69 : Bd x67 0 5 := Bd.e (Ok.ld hOk (S_X8.f1 S0) b66 2 1 0 5 (by decide) (by decide +kernel)) e68
    have e70 : x67 = v (rf G h0 1) 2 := by rw [e68, Bd.ix b66 2 rfl]
    exact J_iret E hr dX8_many_139 ⟨rfl, rfl, trivial, trivial⟩
  by_cases h71 : x_0.toInt = 6
  · refine J_tabIn E 6 129 dX8_many_3 h71 (by decide) (by decide) rfl (by decide) ?_
    have b72 : Bd x_0 6 6 := ⟨by omega, by omega⟩
    refine J_aload_n E dX8_many_129 1 rfl ?_
    refine J_getR E in_X8 rfl (S_X8.h S0) 1 (by decide) wd936 rfl dX8_many_130 ?_
    refine J_iconst E 2 dX8_many_133 (by decide) ?_
    refine J_iload_n E dX8_many_134 2 rfl ?_
    refine J_iadd E dX8_many_135 (fun x73 e74 => ?_)
    have b75 : Bd x73 8 8 := (Bd.add e74 (Bd.lit 2 2 (by decide)) b72 (by decide)).w _ _ (by decide)
    refine J_iconst E 5 dX8_many_136 (by decide) ?_
    refine J_isub E dX8_many_137 (fun x76 e77 => ?_)
    have b78 : Bd x76 3 3 := (Bd.sub e77 b75 (Bd.lit 5 5 (by decide)) (by decide)).w _ _ (by decide)
    refine J_iald1 E (S_X8.f1 S0) (Bd.in b78 (by decide)) dX8_many_138 (fun x79 e80 => ?_)
    have b81 : Bd x79 0 6 := Bd.e (Ok.ld hOk (S_X8.f1 S0) b78 3 1 0 6 (by decide) (by decide +kernel)) e80
    have e82 : x79 = v (rf G h0 1) 3 := by rw [e80, Bd.ix b78 3 rfl]
    exact J_iret E hr dX8_many_139 ⟨rfl, rfl, trivial, trivial⟩
  by_cases h83 : x_0.toInt = 7
  · refine J_tabIn E 7 129 dX8_many_3 h83 (by decide) (by decide) rfl (by decide) ?_
    have b84 : Bd x_0 7 7 := ⟨by omega, by omega⟩
    refine J_aload_n E dX8_many_129 1 rfl ?_
    refine J_getR E in_X8 rfl (S_X8.h S0) 1 (by decide) wd936 rfl dX8_many_130 ?_
    refine J_iconst E 2 dX8_many_133 (by decide) ?_
    refine J_iload_n E dX8_many_134 2 rfl ?_
    refine J_iadd E dX8_many_135 (fun x85 e86 => ?_)
    have b87 : Bd x85 9 9 := (Bd.add e86 (Bd.lit 2 2 (by decide)) b84 (by decide)).w _ _ (by decide)
    refine J_iconst E 5 dX8_many_136 (by decide) ?_
    refine J_isub E dX8_many_137 (fun x88 e89 => ?_)
    have b90 : Bd x88 4 4 := (Bd.sub e89 b87 (Bd.lit 5 5 (by decide)) (by decide)).w _ _ (by decide)
    refine J_iald1 E (S_X8.f1 S0) (Bd.in b90 (by decide)) dX8_many_138 (fun x91 e92 => ?_)
    have b93 : Bd x91 0 6 := Bd.e (Ok.ld hOk (S_X8.f1 S0) b90 4 1 0 6 (by decide) (by decide +kernel)) e92
    have e94 : x91 = v (rf G h0 1) 4 := by rw [e92, Bd.ix b90 4 rfl]
    exact J_iret E hr dX8_many_139 ⟨rfl, rfl, trivial, trivial⟩
  by_cases h95 : x_0.toInt = 8
  · refine J_tabIn E 8 140 dX8_many_3 h95 (by decide) (by decide) rfl (by decide) ?_
    have b96 : Bd x_0 8 8 := ⟨by omega, by omega⟩
    refine J_aload_n E dX8_many_140 1 rfl ?_
    refine J_getR E in_X8 rfl (S_X8.h S0) 1 (by decide) wd936 rfl dX8_many_141 ?_
    refine J_iconst E 5 dX8_many_144 (by decide) ?_
    refine J_iald1 E (S_X8.f1 S0) (Bd.in (Bd.lit 5 5 (by decide)) (by decide)) dX8_many_145 (fun x97 e98 => ?_)
    have b99 : Bd x97 0 8 := Bd.e (Ok.ld hOk (S_X8.f1 S0) (Bd.lit 5 5 (by decide)) 5 1 0 8 (by decide) (by decide +kernel)) e98
    have e100 : x97 = v (rf G h0 1) 5 := by rw [e98, Bd.ix (Bd.lit 5 5 (by decide)) 5 rfl]
    exact J_iret E hr dX8_many_146 ⟨rfl, rfl, trivial, trivial⟩
  refine J_tabOut (x := x_0) E 147 dX8_many_3 (by have := bx_0; simp only [Bd, I0, I1] at this; omega) (by decide) ?_
  refine J_aload_n E dX8_many_147 1 rfl ?_
  refine J_getI E in_X8 rfl (S_X8.h S0) 5 (by decide) wd940 rfl dX8_many_148 (fun x101 e102 => ?_)
  have b103 : Bd x101 0 150 := Ok.fd hOk e102 (S_X8.h S0) rfl
  exact J_iret E hr dX8_many_151 ⟨rfl, rfl, trivial, trivial⟩

abbrev rm_X8_count : Room := { frames := 2, cells := 0, slots := 0, locals := 45 }
set_option maxHeartbeats 4000000 in
set_option maxRecDepth 100000 in
theorem ct_X8_count (l : Launch) (D : va_G) (dA : Nat → ClassId) (G : Gm) (v : Mv) (w : Mw) (hOk : Ok G v w) (h0 : Nat) (S0 : S_X8 G h0) (x_0 : Int32) : CtI l yX8_count cX8_count 2 (some .int) rm_X8_count D dA G [.ref h0, .int x_0] v w (fun r v1 w1 => Ok G v1 w1 ∧ Kp G v v1 ∧ True ∧ Fr G [103] v v1) := by
  refine CtI.of RX8 [(0, .ref h0), (1, .int x_0)] (Nat.le_of_ble_eq_true rfl) rfl (by decide) rfl ?_
  intro p e s m args below meth c E hr
  refine J_iload_n E dX8_count_0 1 rfl ?_
  refine J_iconst E 0 dX8_count_1 (by decide) ?_
  refine J_bipush E 9 dX8_count_2 (by decide) ?_
  refine J_callSI E cal_X8_in wd996 [.int x_0, .int 0, .int 9] [] (ct_X8_in l D dA G v w (hOk) x_0 0 9) rfl rfl (Nat.le_of_ble_eq_true rfl) ⟨rfl, rfl⟩ ⟨Nat.le_of_ble_eq_true rfl, Nat.le_of_ble_eq_true rfl⟩ dX8_count_4 (fun x4 v1 w2 p3 => ?_)
  rw [p3.1, p3.2.1]
  have b5 : Bd x4 0 1 := p3.2.2.1
  refine J_if_eq E 18 dX8_count_7 (by decide) (fun c6 => ?_) (fun c6 => ?_)
  · have b7 : Bd x4 0 0 := Bd.eq_l c6 b5 (Bd.lit 0 0 (by decide)) 0 0 (by decide)
    have g8 : ¬ (0 ≤ x_0 ∧ x_0 ≤ 9) := (p3.2.2.2.2.1).resolve_left (fun h9 => h9 c6)
    refine J_aload_n E dX8_count_18 0 rfl ?_
    refine J_callVI E cal_X8_bad wd999 rfl (S_X8.h S0) [] [] (ct_X8_bad l D dA G v w (hOk) h0 S0) rfl rfl (Nat.le_of_ble_eq_true rfl) ⟨rfl, rfl⟩ ⟨Nat.le_of_ble_eq_true rfl, Nat.le_of_ble_eq_true rfl⟩ dX8_count_19 (fun x12 v9 w10 p11 => ?_)
    have ew9 : w = w10 := p11.2.2.2.1.1.symm
    subst ew9
    have o13 := p11.1
    have k14 : Kp G v v9 := (Kp.rf).tr p11.2.1
    have f15 : Fr G [103] v v9 := Fr.tr Fr.rf (p11.2.2.2.2) (by decide)
    have b16 : Bd x12 (-2) (-2) := p11.2.2.1
    exact J_iret E hr dX8_count_22 ⟨o13, k14, trivial, f15⟩
  · have b17 : Bd x4 1 1 := (Bd.ne_lo c6 b5 (Bd.lit 0 0 (by decide))).w _ _ (by decide)
    have g18 := (p3.2.2.2.1).resolve_left c6
    have b19 : Bd x_0 0 I1 := Bd.le_r g18.1 (Bd.lit 0 0 (by decide)) (Bd.any x_0) 0 (by decide)
    have b20 : Bd x_0 0 9 := Bd.le_l g18.2 b19 (Bd.lit 9 9 (by decide)) 9 (by decide)
    refine J_aload_n E dX8_count_10 0 rfl ?_
    refine J_iload_n E dX8_count_11 1 rfl ?_
    refine J_callVI E cal_X8_many wd1339 rfl (S_X8.h S0) [.int x_0] [] (ct_X8_many l D dA G v w (hOk) h0 S0 x_0 b20) rfl rfl (Nat.le_of_ble_eq_true rfl) ⟨rfl, rfl⟩ ⟨Nat.le_of_ble_eq_true rfl, Nat.le_of_ble_eq_true rfl⟩ dX8_count_12 (fun x24 v21 w22 p23 => ?_)
    rw [p23.1, p23.2.1]
    refine J_goto E 22 dX8_count_15 (by decide) ?_
    exact J_iret E hr dX8_count_22 ⟨hOk, Kp.rf, trivial, Fr.rf⟩

abbrev rm_X8_digest : Room := { frames := 3, cells := 0, slots := 0, locals := 64 }
set_option maxHeartbeats 4000000 in
set_option maxRecDepth 100000 in
theorem ct_X8_digest (l : Launch) (D : va_G) (dA : Nat → ClassId) (G : Gm) (v : Mv) (w : Mw) (hOk : Ok G v w) (h0 : Nat) (S0 : S_X8 G h0) : CtL l yX8_digest cX8_digest 5 (some .long) rm_X8_digest D dA G [.ref h0] v w (fun r v1 w1 => v1 = v ∧ w1 = w ∧ True) := by
  refine CtL.of RX8 [(0, .ref h0)] (Nat.le_of_ble_eq_true rfl) rfl (by decide) rfl ?_
  intro p e s m args below meth c E hr
  have J205 : ∀ n205 : Nat, ∀ y1 : Int64, ∀ x2 : Int32, Bd x2 0 60 → Mu x2 60 n205 → J p l e rm_X8_digest s m args below meth c 0 0 (MQ below (QcL D dA G (fun r v1 w1 => v1 = v ∧ w1 = w ∧ True)) args s 0 0 (dm G)) D dA G (dm G) s.heap 5 v w [(0, .ref h0), (1, .long y1), (3, .int x2)] 205 [] := by
    intro n205
    induction n205 with
    | zero => intro y1 x2 b3 hm; exact hm.zero b3 (by decide)
    | succ n205 ih205 =>
      intro y1 x2 b3 hmu205
      refine J_iload_n E dX8_digest_205 2 rfl ?_
      refine J_iconst E 4 dX8_digest_206 (by decide) ?_
      refine J_aload_n E dX8_digest_207 0 rfl ?_
      refine J_getR E in_X8 rfl (S_X8.h S0) 1 (by decide) wd936 rfl dX8_digest_208 ?_
      refine J_iconst E 4 dX8_digest_211 (by decide) ?_
      refine J_iald1 E (S_X8.f1 S0) (Bd.in (Bd.lit 4 4 (by decide)) (by decide)) dX8_digest_212 (fun x4 e5 => ?_)
      have b6 : Bd x4 0 6 := Bd.e (Ok.ld hOk (S_X8.f1 S0) (Bd.lit 4 4 (by decide)) 4 1 0 6 (by decide) (by decide +kernel)) e5
      have e7 : x4 = v (rf G h0 1) 4 := by rw [e5, Bd.ix (Bd.lit 4 4 (by decide)) 4 rfl]
      refine J_imul E dX8_digest_213 (fun x8 e9 => ?_)
      have b10 : Bd x8 0 24 := Bd.mul e9 (Bd.lit 4 4 (by decide)) b6 (by decide)
      refine J_icmp_ge E 240 dX8_digest_214 (by decide) (fun c11 => ?_) (fun c11 => ?_)
      · refine J_ldc2 E wd1348 dX8_digest_240 ?_
        refine J_ldc2 E wd1348 dX8_digest_243 ?_
        refine J_lload_n E dX8_digest_246 1 rfl ?_
        refine J_lmul E dX8_digest_247 (fun y12 e13 => ?_)
        refine J_aload_n E dX8_digest_248 0 rfl ?_
        refine J_getL E in_X8 rfl (S_X8.h S0) 15 (by decide) wd950 rfl dX8_digest_249 (fun y14 e15 => ?_)
        refine J_ladd E dX8_digest_252 (fun y16 e17 => ?_)
        refine J_lmul E dX8_digest_253 (fun y18 e19 => ?_)
        refine J_aload_n E dX8_digest_254 0 rfl ?_
        refine J_getL E in_X8 rfl (S_X8.h S0) 16 (by decide) wd951 rfl dX8_digest_255 (fun y20 e21 => ?_)
        refine J_ladd E dX8_digest_258 (fun y22 e23 => ?_)
        exact J_lret E hr dX8_digest_259 ⟨rfl, rfl, trivial⟩
      · have b24 : Bd x2 0 23 := Bd.lt_l (nle c11) b3 b10 23 (by decide)
        have b25 : Bd x8 1 24 := Bd.lt_r (nle c11) b3 b10 1 (by decide)
        refine J_ldc2 E wd1348 dX8_digest_217 ?_
        refine J_lload_n E dX8_digest_220 1 rfl ?_
        refine J_lmul E dX8_digest_221 (fun y26 e27 => ?_)
        refine J_aload_n E dX8_digest_222 0 rfl ?_
        refine J_getR E in_X8 rfl (S_X8.h S0) 1 (by decide) wd936 rfl dX8_digest_223 ?_
        refine J_bipush E 94 dX8_digest_226 (by decide) ?_
        refine J_iload_n E dX8_digest_228 2 rfl ?_
        refine J_iadd E dX8_digest_229 (fun x28 e29 => ?_)
        have b30 : Bd x28 94 117 := (Bd.add e29 (Bd.lit 94 94 (by decide)) b24 (by decide)).w _ _ (by decide)
        refine J_iald1 E (S_X8.f1 S0) (Bd.in b30 (by decide)) dX8_digest_230 (fun x31 e32 => ?_)
        refine J_i2l E dX8_digest_231 (fun y33 e34 => ?_)
        refine J_ladd E dX8_digest_232 (fun y35 e36 => ?_)
        refine J_lstore_n E [(1, .long y35), (0, .ref h0), (3, .int x2)] dX8_digest_233 rfl (by decide) rfl ?_
        refine J_iinc E 2 1 (fun z => [(3, .int z), (1, .long y35), (0, .ref h0)]) dX8_digest_234 rfl (by decide) (by decide) (fun _ => rfl) (fun x37 e38 => ?_)
        have b39 : Bd x37 1 24 := (Bd.add e38 b24 (Bd.lit 1 1 (by decide)) (by decide)).w _ _ (by decide)
        refine J_goto E 205 dX8_digest_237 (by decide) ?_
        exact J.sub [2, 1, 0] rfl (ih205 y35 x37 (b39.w 0 60 (by decide)) (Mu.step hmu205 e38 b24 (Bd.lit 1 1 (by decide)) (by decide)))
  have J168 : ∀ n168 : Nat, ∀ y40 : Int64, ∀ x41 : Int32, Bd x41 0 60 → Mu x41 60 n168 → J p l e rm_X8_digest s m args below meth c 0 0 (MQ below (QcL D dA G (fun r v1 w1 => v1 = v ∧ w1 = w ∧ True)) args s 0 0 (dm G)) D dA G (dm G) s.heap 5 v w [(0, .ref h0), (1, .long y40), (3, .int x41)] 168 [] := by
    intro n168
    induction n168 with
    | zero => intro y40 x41 b42 hm; exact hm.zero b42 (by decide)
    | succ n168 ih168 =>
      intro y40 x41 b42 hmu168
      refine J_iload_n E dX8_digest_168 2 rfl ?_
      refine J_iconst E 4 dX8_digest_169 (by decide) ?_
      refine J_aload_n E dX8_digest_170 0 rfl ?_
      refine J_getR E in_X8 rfl (S_X8.h S0) 1 (by decide) wd936 rfl dX8_digest_171 ?_
      refine J_iconst E 3 dX8_digest_174 (by decide) ?_
      refine J_iald1 E (S_X8.f1 S0) (Bd.in (Bd.lit 3 3 (by decide)) (by decide)) dX8_digest_175 (fun x43 e44 => ?_)
      have b45 : Bd x43 0 6 := Bd.e (Ok.ld hOk (S_X8.f1 S0) (Bd.lit 3 3 (by decide)) 3 1 0 6 (by decide) (by decide +kernel)) e44
      have e46 : x43 = v (rf G h0 1) 3 := by rw [e44, Bd.ix (Bd.lit 3 3 (by decide)) 3 rfl]
      refine J_imul E dX8_digest_176 (fun x47 e48 => ?_)
      have b49 : Bd x47 0 24 := Bd.mul e48 (Bd.lit 4 4 (by decide)) b45 (by decide)
      refine J_icmp_ge E 203 dX8_digest_177 (by decide) (fun c50 => ?_) (fun c50 => ?_)
      · refine J_iconst E 0 dX8_digest_203 (by decide) ?_
        refine J_istore_n E [(3, .int 0), (0, .ref h0), (1, .long y40)] dX8_digest_204 rfl (by decide) rfl ?_
        exact J.sub [1, 2, 0] rfl (J205 61 y40 0 ((Bd.lit 0 0 (by decide)).w 0 60 (by decide)) (Mu.start _ (Bd.lit 0 0 (by decide)) (by decide)))
      · have b51 : Bd x41 0 23 := Bd.lt_l (nle c50) b42 b49 23 (by decide)
        have b52 : Bd x47 1 24 := Bd.lt_r (nle c50) b42 b49 1 (by decide)
        refine J_ldc2 E wd1348 dX8_digest_180 ?_
        refine J_lload_n E dX8_digest_183 1 rfl ?_
        refine J_lmul E dX8_digest_184 (fun y53 e54 => ?_)
        refine J_aload_n E dX8_digest_185 0 rfl ?_
        refine J_getR E in_X8 rfl (S_X8.h S0) 1 (by decide) wd936 rfl dX8_digest_186 ?_
        refine J_bipush E 70 dX8_digest_189 (by decide) ?_
        refine J_iload_n E dX8_digest_191 2 rfl ?_
        refine J_iadd E dX8_digest_192 (fun x55 e56 => ?_)
        have b57 : Bd x55 70 93 := (Bd.add e56 (Bd.lit 70 70 (by decide)) b51 (by decide)).w _ _ (by decide)
        refine J_iald1 E (S_X8.f1 S0) (Bd.in b57 (by decide)) dX8_digest_193 (fun x58 e59 => ?_)
        refine J_i2l E dX8_digest_194 (fun y60 e61 => ?_)
        refine J_ladd E dX8_digest_195 (fun y62 e63 => ?_)
        refine J_lstore_n E [(1, .long y62), (0, .ref h0), (3, .int x41)] dX8_digest_196 rfl (by decide) rfl ?_
        refine J_iinc E 2 1 (fun z => [(3, .int z), (1, .long y62), (0, .ref h0)]) dX8_digest_197 rfl (by decide) (by decide) (fun _ => rfl) (fun x64 e65 => ?_)
        have b66 : Bd x64 1 24 := (Bd.add e65 b51 (Bd.lit 1 1 (by decide)) (by decide)).w _ _ (by decide)
        refine J_goto E 168 dX8_digest_200 (by decide) ?_
        exact J.sub [2, 1, 0] rfl (ih168 y62 x64 (b66.w 0 60 (by decide)) (Mu.step hmu168 e65 b51 (Bd.lit 1 1 (by decide)) (by decide)))
  have J131 : ∀ n131 : Nat, ∀ y67 : Int64, ∀ x68 : Int32, Bd x68 0 60 → Mu x68 60 n131 → J p l e rm_X8_digest s m args below meth c 0 0 (MQ below (QcL D dA G (fun r v1 w1 => v1 = v ∧ w1 = w ∧ True)) args s 0 0 (dm G)) D dA G (dm G) s.heap 5 v w [(0, .ref h0), (1, .long y67), (3, .int x68)] 131 [] := by
    intro n131
    induction n131 with
    | zero => intro y67 x68 b69 hm; exact hm.zero b69 (by decide)
    | succ n131 ih131 =>
      intro y67 x68 b69 hmu131
      refine J_iload_n E dX8_digest_131 2 rfl ?_
      refine J_iconst E 4 dX8_digest_132 (by decide) ?_
      refine J_aload_n E dX8_digest_133 0 rfl ?_
      refine J_getR E in_X8 rfl (S_X8.h S0) 1 (by decide) wd936 rfl dX8_digest_134 ?_
      refine J_iconst E 2 dX8_digest_137 (by decide) ?_
      refine J_iald1 E (S_X8.f1 S0) (Bd.in (Bd.lit 2 2 (by decide)) (by decide)) dX8_digest_138 (fun x70 e71 => ?_)
      have b72 : Bd x70 0 5 := Bd.e (Ok.ld hOk (S_X8.f1 S0) (Bd.lit 2 2 (by decide)) 2 1 0 5 (by decide) (by decide +kernel)) e71
      have e73 : x70 = v (rf G h0 1) 2 := by rw [e71, Bd.ix (Bd.lit 2 2 (by decide)) 2 rfl]
      refine J_imul E dX8_digest_139 (fun x74 e75 => ?_)
      have b76 : Bd x74 0 20 := Bd.mul e75 (Bd.lit 4 4 (by decide)) b72 (by decide)
      refine J_icmp_ge E 166 dX8_digest_140 (by decide) (fun c77 => ?_) (fun c77 => ?_)
      · refine J_iconst E 0 dX8_digest_166 (by decide) ?_
        refine J_istore_n E [(3, .int 0), (0, .ref h0), (1, .long y67)] dX8_digest_167 rfl (by decide) rfl ?_
        exact J.sub [1, 2, 0] rfl (J168 61 y67 0 ((Bd.lit 0 0 (by decide)).w 0 60 (by decide)) (Mu.start _ (Bd.lit 0 0 (by decide)) (by decide)))
      · have b78 : Bd x68 0 19 := Bd.lt_l (nle c77) b69 b76 19 (by decide)
        have b79 : Bd x74 1 20 := Bd.lt_r (nle c77) b69 b76 1 (by decide)
        refine J_ldc2 E wd1348 dX8_digest_143 ?_
        refine J_lload_n E dX8_digest_146 1 rfl ?_
        refine J_lmul E dX8_digest_147 (fun y80 e81 => ?_)
        refine J_aload_n E dX8_digest_148 0 rfl ?_
        refine J_getR E in_X8 rfl (S_X8.h S0) 1 (by decide) wd936 rfl dX8_digest_149 ?_
        refine J_bipush E 50 dX8_digest_152 (by decide) ?_
        refine J_iload_n E dX8_digest_154 2 rfl ?_
        refine J_iadd E dX8_digest_155 (fun x82 e83 => ?_)
        have b84 : Bd x82 50 69 := (Bd.add e83 (Bd.lit 50 50 (by decide)) b78 (by decide)).w _ _ (by decide)
        refine J_iald1 E (S_X8.f1 S0) (Bd.in b84 (by decide)) dX8_digest_156 (fun x85 e86 => ?_)
        refine J_i2l E dX8_digest_157 (fun y87 e88 => ?_)
        refine J_ladd E dX8_digest_158 (fun y89 e90 => ?_)
        refine J_lstore_n E [(1, .long y89), (0, .ref h0), (3, .int x68)] dX8_digest_159 rfl (by decide) rfl ?_
        refine J_iinc E 2 1 (fun z => [(3, .int z), (1, .long y89), (0, .ref h0)]) dX8_digest_160 rfl (by decide) (by decide) (fun _ => rfl) (fun x91 e92 => ?_)
        have b93 : Bd x91 1 20 := (Bd.add e92 b78 (Bd.lit 1 1 (by decide)) (by decide)).w _ _ (by decide)
        refine J_goto E 131 dX8_digest_163 (by decide) ?_
        exact J.sub [2, 1, 0] rfl (ih131 y89 x91 (b93.w 0 60 (by decide)) (Mu.step hmu131 e92 b78 (Bd.lit 1 1 (by decide)) (by decide)))
  have J83 : ∀ n83 : Nat, ∀ y94 : Int64, ∀ x95 : Int32, Bd x95 0 7 → Mu x95 7 n83 → J p l e rm_X8_digest s m args below meth c 0 0 (MQ below (QcL D dA G (fun r v1 w1 => v1 = v ∧ w1 = w ∧ True)) args s 0 0 (dm G)) D dA G (dm G) s.heap 5 v w [(0, .ref h0), (1, .long y94), (3, .int x95)] 83 [] := by
    intro n83
    induction n83 with
    | zero => intro y94 x95 b96 hm; exact hm.zero b96 (by decide)
    | succ n83 ih83 =>
      intro y94 x95 b96 hmu83
      have J96 : ∀ n96 : Nat, ∀ y97 : Int64, Bd x95 0 6 → ∀ x99 : Int32, Bd x99 0 5 → Mu x99 5 n96 → J p l e rm_X8_digest s m args below meth c 0 0 (MQ below (QcL D dA G (fun r v1 w1 => v1 = v ∧ w1 = w ∧ True)) args s 0 0 (dm G)) D dA G (dm G) s.heap 5 v w [(0, .ref h0), (1, .long y97), (3, .int x95), (4, .int x99)] 96 [] := by
        intro n96
        induction n96 with
        | zero => intro y97 b98 x99 b100 hm; exact hm.zero b100 (by decide)
        | succ n96 ih96 =>
          intro y97 b98 x99 b100 hmu96
          refine J_iload E dX8_digest_96 3 rfl ?_
          refine J_iconst E 5 dX8_digest_98 (by decide) ?_
          refine J_icmp_ge E 123 dX8_digest_99 (by decide) (fun c101 => ?_) (fun c101 => ?_)
          · have b102 : Bd x99 5 5 := Bd.le_r c101 (Bd.lit 5 5 (by decide)) b100 5 (by decide)
            refine J_iinc E 2 1 (fun z => [(3, .int z), (0, .ref h0), (1, .long y97), (4, .int x99)]) dX8_digest_123 rfl (by decide) (by decide) (fun _ => rfl) (fun x103 e104 => ?_)
            have b105 : Bd x103 1 7 := (Bd.add e104 b98 (Bd.lit 1 1 (by decide)) (by decide)).w _ _ (by decide)
            refine J_goto E 83 dX8_digest_126 (by decide) ?_
            exact J.sub [1, 2, 0] rfl (ih83 y97 x103 (b105.w 0 7 (by decide)) (Mu.step hmu83 e104 b98 (Bd.lit 1 1 (by decide)) (by decide)))
          · have b106 : Bd x99 0 4 := Bd.lt_l (nle c101) b100 (Bd.lit 5 5 (by decide)) 4 (by decide)
            refine J_ldc2 E wd1348 dX8_digest_102 ?_
            refine J_lload_n E dX8_digest_105 1 rfl ?_
            refine J_lmul E dX8_digest_106 (fun y107 e108 => ?_)
            refine J_aload_n E dX8_digest_107 0 rfl ?_
            refine J_iload_n E dX8_digest_108 2 rfl ?_
            refine J_iload E dX8_digest_109 3 rfl ?_
            refine J_callVI E cal_X8_told wd1163 rfl (S_X8.h S0) [.int x95, .int x99] [.long y107] (ct_X8_told l D dA G v w (hOk) h0 S0 x95 b98 x99 b106) rfl rfl (Nat.le_of_ble_eq_true rfl) ⟨rfl, rfl⟩ ⟨Nat.le_of_ble_eq_true rfl, Nat.le_of_ble_eq_true rfl⟩ dX8_digest_111 (fun x112 v109 w110 p111 => ?_)
            rw [p111.1, p111.2.1]
            refine J_i2l E dX8_digest_114 (fun y113 e114 => ?_)
            refine J_ladd E dX8_digest_115 (fun y115 e116 => ?_)
            refine J_lstore_n E [(1, .long y115), (0, .ref h0), (3, .int x95), (4, .int x99)] dX8_digest_116 rfl (by decide) rfl ?_
            refine J_iinc E 3 1 (fun z => [(4, .int z), (1, .long y115), (0, .ref h0), (3, .int x95)]) dX8_digest_117 rfl (by decide) (by decide) (fun _ => rfl) (fun x117 e118 => ?_)
            have b119 : Bd x117 1 5 := (Bd.add e118 b106 (Bd.lit 1 1 (by decide)) (by decide)).w _ _ (by decide)
            refine J_goto E 96 dX8_digest_120 (by decide) ?_
            exact J.sub [2, 1, 3, 0] rfl (ih96 y115 b98 x117 (b119.w 0 5 (by decide)) (Mu.step hmu96 e118 b106 (Bd.lit 1 1 (by decide)) (by decide)))
      refine J_iload_n E dX8_digest_83 2 rfl ?_
      refine J_aload_n E dX8_digest_84 0 rfl ?_
      refine J_getR E in_X8 rfl (S_X8.h S0) 1 (by decide) wd936 rfl dX8_digest_85 ?_
      refine J_iconst E 1 dX8_digest_88 (by decide) ?_
      refine J_iald1 E (S_X8.f1 S0) (Bd.in (Bd.lit 1 1 (by decide)) (by decide)) dX8_digest_89 (fun x120 e121 => ?_)
      have b122 : Bd x120 0 7 := Bd.e (Ok.ld hOk (S_X8.f1 S0) (Bd.lit 1 1 (by decide)) 1 1 0 7 (by decide) (by decide +kernel)) e121
      have e123 : x120 = v (rf G h0 1) 1 := by rw [e121, Bd.ix (Bd.lit 1 1 (by decide)) 1 rfl]
      refine J_icmp_ge E 129 dX8_digest_90 (by decide) (fun c124 => ?_) (fun c124 => ?_)
      · refine J_iconst E 0 dX8_digest_129 (by decide) ?_
        refine J_istore_n E [(3, .int 0), (0, .ref h0), (1, .long y94)] dX8_digest_130 rfl (by decide) rfl ?_
        exact J.sub [1, 2, 0] rfl (J131 61 y94 0 ((Bd.lit 0 0 (by decide)).w 0 60 (by decide)) (Mu.start _ (Bd.lit 0 0 (by decide)) (by decide)))
      · have b125 : Bd x95 0 6 := Bd.lt_l (nle c124) b96 b122 6 (by decide)
        have b126 : Bd x120 1 7 := Bd.lt_r (nle c124) b96 b122 1 (by decide)
        refine J_iconst E 0 dX8_digest_93 (by decide) ?_
        refine J_istore E [(4, .int 0), (0, .ref h0), (1, .long y94), (3, .int x95)] dX8_digest_94 (by decide) rfl ?_
        exact J.sub [1, 2, 3, 0] rfl (J96 6 y94 b125 0 ((Bd.lit 0 0 (by decide)).w 0 5 (by decide)) (Mu.start _ (Bd.lit 0 0 (by decide)) (by decide)))
  have J33 : ∀ n33 : Nat, ∀ y127 : Int64, ∀ x128 : Int32, Bd x128 0 7 → Mu x128 7 n33 → J p l e rm_X8_digest s m args below meth c 0 0 (MQ below (QcL D dA G (fun r v1 w1 => v1 = v ∧ w1 = w ∧ True)) args s 0 0 (dm G)) D dA G (dm G) s.heap 5 v w [(0, .ref h0), (1, .long y127), (3, .int x128)] 33 [] := by
    intro n33
    induction n33 with
    | zero => intro y127 x128 b129 hm; exact hm.zero b129 (by decide)
    | succ n33 ih33 =>
      intro y127 x128 b129 hmu33
      refine J_iload_n E dX8_digest_33 2 rfl ?_
      refine J_aload_n E dX8_digest_34 0 rfl ?_
      refine J_getR E in_X8 rfl (S_X8.h S0) 1 (by decide) wd936 rfl dX8_digest_35 ?_
      refine J_iconst E 0 dX8_digest_38 (by decide) ?_
      refine J_iald1 E (S_X8.f1 S0) (Bd.in (Bd.lit 0 0 (by decide)) (by decide)) dX8_digest_39 (fun x130 e131 => ?_)
      have b132 : Bd x130 0 7 := Bd.e (Ok.ld hOk (S_X8.f1 S0) (Bd.lit 0 0 (by decide)) 0 1 0 7 (by decide) (by decide +kernel)) e131
      have e133 : x130 = v (rf G h0 1) 0 := by rw [e131, Bd.ix (Bd.lit 0 0 (by decide)) 0 rfl]
      refine J_icmp_ge E 81 dX8_digest_40 (by decide) (fun c134 => ?_) (fun c134 => ?_)
      · refine J_iconst E 0 dX8_digest_81 (by decide) ?_
        refine J_istore_n E [(3, .int 0), (0, .ref h0), (1, .long y127)] dX8_digest_82 rfl (by decide) rfl ?_
        exact J.sub [1, 2, 0] rfl (J83 8 y127 0 ((Bd.lit 0 0 (by decide)).w 0 7 (by decide)) (Mu.start _ (Bd.lit 0 0 (by decide)) (by decide)))
      · have b135 : Bd x128 0 6 := Bd.lt_l (nle c134) b129 b132 6 (by decide)
        have b136 : Bd x130 1 7 := Bd.lt_r (nle c134) b129 b132 1 (by decide)
        refine J_ldc2 E wd1348 dX8_digest_43 ?_
        refine J_ldc2 E wd1348 dX8_digest_46 ?_
        refine J_lload_n E dX8_digest_49 1 rfl ?_
        refine J_lmul E dX8_digest_50 (fun y137 e138 => ?_)
        refine J_aload_n E dX8_digest_51 0 rfl ?_
        refine J_getR E in_X8 rfl (S_X8.h S0) 1 (by decide) wd936 rfl dX8_digest_52 ?_
        refine J_bipush E 6 dX8_digest_55 (by decide) ?_
        refine J_iload_n E dX8_digest_57 2 rfl ?_
        refine J_iadd E dX8_digest_58 (fun x139 e140 => ?_)
        have b141 : Bd x139 6 12 := (Bd.add e140 (Bd.lit 6 6 (by decide)) b135 (by decide)).w _ _ (by decide)
        refine J_iald1 E (S_X8.f1 S0) (Bd.in b141 (by decide)) dX8_digest_59 (fun x142 e143 => ?_)
        refine J_i2l E dX8_digest_60 (fun y144 e145 => ?_)
        refine J_ladd E dX8_digest_61 (fun y146 e147 => ?_)
        refine J_lmul E dX8_digest_62 (fun y148 e149 => ?_)
        refine J_aload_n E dX8_digest_63 0 rfl ?_
        refine J_getR E in_X8 rfl (S_X8.h S0) 1 (by decide) wd936 rfl dX8_digest_64 ?_
        refine J_bipush E 13 dX8_digest_67 (by decide) ?_
        refine J_iload_n E dX8_digest_69 2 rfl ?_
        refine J_iadd E dX8_digest_70 (fun x150 e151 => ?_)
        have b152 : Bd x150 13 19 := (Bd.add e151 (Bd.lit 13 13 (by decide)) b135 (by decide)).w _ _ (by decide)
        refine J_iald1 E (S_X8.f1 S0) (Bd.in b152 (by decide)) dX8_digest_71 (fun x153 e154 => ?_)
        refine J_i2l E dX8_digest_72 (fun y155 e156 => ?_)
        refine J_ladd E dX8_digest_73 (fun y157 e158 => ?_)
        refine J_lstore_n E [(1, .long y157), (0, .ref h0), (3, .int x128)] dX8_digest_74 rfl (by decide) rfl ?_
        refine J_iinc E 2 1 (fun z => [(3, .int z), (1, .long y157), (0, .ref h0)]) dX8_digest_75 rfl (by decide) (by decide) (fun _ => rfl) (fun x159 e160 => ?_)
        have b161 : Bd x159 1 7 := (Bd.add e160 b135 (Bd.lit 1 1 (by decide)) (by decide)).w _ _ (by decide)
        refine J_goto E 33 dX8_digest_78 (by decide) ?_
        exact J.sub [2, 1, 0] rfl (ih33 y157 x159 (b161.w 0 7 (by decide)) (Mu.step hmu33 e160 b135 (Bd.lit 1 1 (by decide)) (by decide)))
  have J6 : ∀ n6 : Nat, ∀ y162 : Int64, ∀ x163 : Int32, Bd x163 0 10 → Mu x163 10 n6 → J p l e rm_X8_digest s m args below meth c 0 0 (MQ below (QcL D dA G (fun r v1 w1 => v1 = v ∧ w1 = w ∧ True)) args s 0 0 (dm G)) D dA G (dm G) s.heap 5 v w [(0, .ref h0), (1, .long y162), (3, .int x163)] 6 [] := by
    intro n6
    induction n6 with
    | zero => intro y162 x163 b164 hm; exact hm.zero b164 (by decide)
    | succ n6 ih6 =>
      intro y162 x163 b164 hmu6
      refine J_iload_n E dX8_digest_6 2 rfl ?_
      refine J_bipush E 10 dX8_digest_7 (by decide) ?_
      refine J_icmp_ge E 31 dX8_digest_9 (by decide) (fun c165 => ?_) (fun c165 => ?_)
      · have b166 : Bd x163 10 10 := Bd.le_r c165 (Bd.lit 10 10 (by decide)) b164 10 (by decide)
        refine J_iconst E 0 dX8_digest_31 (by decide) ?_
        refine J_istore_n E [(3, .int 0), (0, .ref h0), (1, .long y162)] dX8_digest_32 rfl (by decide) rfl ?_
        exact J.sub [1, 2, 0] rfl (J33 8 y162 0 ((Bd.lit 0 0 (by decide)).w 0 7 (by decide)) (Mu.start _ (Bd.lit 0 0 (by decide)) (by decide)))
      · have b167 : Bd x163 0 9 := Bd.lt_l (nle c165) b164 (Bd.lit 10 10 (by decide)) 9 (by decide)
        refine J_ldc2 E wd1348 dX8_digest_12 ?_
        refine J_lload_n E dX8_digest_15 1 rfl ?_
        refine J_lmul E dX8_digest_16 (fun y168 e169 => ?_)
        refine J_aload_n E dX8_digest_17 0 rfl ?_
        refine J_iload_n E dX8_digest_18 2 rfl ?_
        refine J_callVI E cal_X8_many wd1339 rfl (S_X8.h S0) [.int x163] [.long y168] (ct_X8_many l D dA G v w (hOk) h0 S0 x163 b167) rfl rfl (Nat.le_of_ble_eq_true rfl) ⟨rfl, rfl⟩ ⟨Nat.le_of_ble_eq_true rfl, Nat.le_of_ble_eq_true rfl⟩ dX8_digest_19 (fun x173 v170 w171 p172 => ?_)
        rw [p172.1, p172.2.1]
        refine J_i2l E dX8_digest_22 (fun y174 e175 => ?_)
        refine J_ladd E dX8_digest_23 (fun y176 e177 => ?_)
        refine J_lstore_n E [(1, .long y176), (0, .ref h0), (3, .int x163)] dX8_digest_24 rfl (by decide) rfl ?_
        refine J_iinc E 2 1 (fun z => [(3, .int z), (1, .long y176), (0, .ref h0)]) dX8_digest_25 rfl (by decide) (by decide) (fun _ => rfl) (fun x178 e179 => ?_)
        have b180 : Bd x178 1 10 := (Bd.add e179 b167 (Bd.lit 1 1 (by decide)) (by decide)).w _ _ (by decide)
        refine J_goto E 6 dX8_digest_28 (by decide) ?_
        exact J.sub [2, 1, 0] rfl (ih6 y176 x178 (b180.w 0 10 (by decide)) (Mu.step hmu6 e179 b167 (Bd.lit 1 1 (by decide)) (by decide)))
  refine J_ldc2 E wd1347 dX8_digest_0 ?_
  refine J_lstore_n E [(1, .long 1759), (0, .ref h0)] dX8_digest_3 rfl (by decide) rfl ?_
  refine J_iconst E 0 dX8_digest_4 (by decide) ?_
  refine J_istore_n E [(3, .int 0), (1, .long 1759), (0, .ref h0)] dX8_digest_5 rfl (by decide) rfl ?_
  exact J.sub [2, 1, 0] rfl (J6 11 1759 0 ((Bd.lit 0 0 (by decide)).w 0 10 (by decide)) (Mu.start _ (Bd.lit 0 0 (by decide)) (by decide)))
