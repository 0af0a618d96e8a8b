abbrev rm_X7_part : Room := { frames := 1, cells := 0, slots := 0, locals := 22 }
set_option maxHeartbeats 4000000 in
set_option maxRecDepth 100000 in
theorem ct_X7_part (l : Launch) (D : va_G) (dA : Nat → ClassId) (G : Gm) (v : Mv) (w : Mw) (hOk : Ok G v w) (h0 : Nat) (S0 : S_X7 G h0) (x_0 : Int32) : CtL l yX7_part cX7_part 2 (some .long) rm_X7_part D dA G [.ref h0, .int x_0] v w (fun r v1 w1 => Ok G v1 w1 ∧ Kp G v v1 ∧ Fr G [7] v v1) := by
  refine CtL.of RX7 [(0, .ref h0), (1, .int x_0)] (Nat.le_of_ble_eq_true rfl) rfl (by decide) rfl ?_
  intro p e s m args below meth c E hr
  refine J_iload_n E dX7_part_0 1 rfl ?_
  refine J_iconst E 0 dX7_part_1 (by decide) ?_
  refine J_iconst E 1 dX7_part_2 (by decide) ?_
  refine J_callSI E cal_X7_isWithin wd361 [.int x_0, .int 0, .int 1] [] (ct_X7_isWithin l D dA G v w (hOk) x_0 0 1) rfl rfl (Nat.le_of_ble_eq_true rfl) ⟨rfl, rfl⟩ ⟨Nat.le_of_ble_eq_true rfl, Nat.le_of_ble_eq_true rfl⟩ dX7_part_3 (fun x4 v1 w2 p3 => ?_)
  rw [p3.1, p3.2.1]
  have b5 : Bd x4 0 1 := p3.2.2.1
  refine J_if_ne E 15 dX7_part_6 (by decide) (fun c6 => ?_) (fun c6 => ?_)
  · have b7 : Bd x4 1 1 := (Bd.ne_lo c6 b5 (Bd.lit 0 0 (by decide))).w _ _ (by decide)
    have g8 := (p3.2.2.2.1).resolve_left c6
    have b9 : Bd x_0 0 I1 := Bd.le_r g8.1 (Bd.lit 0 0 (by decide)) (Bd.any x_0) 0 (by decide)
    have b10 : Bd x_0 0 1 := Bd.le_l g8.2 b9 (Bd.lit 1 1 (by decide)) 1 (by decide)
    refine J_iload_n E dX7_part_15 1 rfl ?_
    refine J_if_ne E 26 dX7_part_16 (by decide) (fun c11 => ?_) (fun c11 => ?_)
    · have b12 : Bd x_0 1 1 := (Bd.ne_lo c11 b10 (Bd.lit 0 0 (by decide))).w _ _ (by decide)
      refine J_aload_n E dX7_part_26 0 rfl ?_
      refine J_getL E in_X7 rfl (S_X7.h S0) 8 (by decide) wd316 rfl dX7_part_27 (fun y13 e14 => ?_)
      exact J_lret E hr dX7_part_30 ⟨hOk, Kp.rf, Fr.rf⟩
    · have b15 : Bd x_0 0 0 := Bd.eq_l c11 b10 (Bd.lit 0 0 (by decide)) 0 0 (by decide)
      refine J_aload_n E dX7_part_19 0 rfl ?_
      refine J_getL E in_X7 rfl (S_X7.h S0) 7 (by decide) wd315 rfl dX7_part_20 (fun y16 e17 => ?_)
      refine J_goto E 30 dX7_part_23 (by decide) ?_
      exact J_lret E hr dX7_part_30 ⟨hOk, Kp.rf, Fr.rf⟩
  · have b18 : Bd x4 0 0 := Bd.eq_l c6 b5 (Bd.lit 0 0 (by decide)) 0 0 (by decide)
    have g19 : ¬ (0 ≤ x_0 ∧ x_0 ≤ 1) := (p3.2.2.2.2.1).resolve_left (fun h9 => h9 c6)
    refine J_aload_n E dX7_part_9 0 rfl ?_
    refine J_callVI E cal_X7_bad wd364 rfl (S_X7.h S0) [] [] (ct_X7_bad l D dA G v w (hOk) h0 S0) rfl rfl (Nat.le_of_ble_eq_true rfl) ⟨rfl, rfl⟩ ⟨Nat.le_of_ble_eq_true rfl, Nat.le_of_ble_eq_true rfl⟩ dX7_part_10 (fun x23 v20 w21 p22 => ?_)
    have ew9 : w = w21 := p22.2.2.2.1.1.symm
    subst ew9
    have o24 := p22.1
    have k25 : Kp G v v20 := (Kp.rf).tr p22.2.1
    have f26 : Fr G [7] v v20 := Fr.tr Fr.rf (p22.2.2.2.2) (by decide)
    have b27 : Bd x23 (-2) (-2) := p22.2.2.1
    refine J_i2l E dX7_part_13 (fun y28 e29 => ?_)
    exact J_lret E hr dX7_part_14 ⟨o24, k25, f26⟩

def K_X7_image_c1 (G : Gm) (w : Mw) (h0 : Nat) (v18 : Mv) (x_0 : Int32) : Int32 × Mv :=
  ((1 : Int32), (stv v18 h0 3 ((v18 h0 3) ||| ((1 : Int32) <<< (x_0 &&& 31)))))
def K_X7_image_c2 (G : Gm) (w : Mw) (h0 : Nat) (v41 : Mv) (x44 : Int32) : Int32 × Mv :=
  (x44, v41)
def K_X7_image_e (G : Gm) (w : Mw) (v : Mv) (h0 : Nat) (x_0 : Int32) : Int32 × Mv :=
  if (F_X7_isWithin G w v x_0 (0 : Int32) (1 : Int32)) = (0 : Int32) then (K_X7_image_c2 G w h0 ((F_X7_bad G w v h0).2) ((F_X7_bad G w v h0).1)) else (K_X7_image_c1 G w h0 (F_X6_copyFrom G w v ((w.2 (rf G h0 2) (Int32.toNatClampNeg x_0)).getD 0) (rf G h0 0)) x_0)
def F_X7_image (G : Gm) (w : Mw) (v : Mv) (h0 : Nat) (x_0 : Int32) : Int32 × Mv := K_X7_image_e G w v h0 x_0
set_option maxRecDepth 100000 in
theorem kx_X7_image_1 {G : Gm} {w : Mw} {v : Mv} {h0 : Nat} {x_0 : Int32} {v18 : Mv} {q12 : Nat} {x4 : Int32} (a0 : x4 = F_X7_isWithin G w v x_0 (0 : Int32) (1 : Int32)) (a1 : q12 = (w.2 (rf G h0 2) (Int32.toNatClampNeg x_0)).getD 0) (a2 : v18 = F_X6_copyFrom G w v q12 (rf G h0 0)) (k0 : ¬ (x4 = (0 : Int32))) : K_X7_image_e G w v h0 x_0 = K_X7_image_c1 G w h0 v18 x_0 := by
  subst a2; subst a1; subst a0; first | rw [K_X7_image_e, if_neg k0] | simp only [K_X7_image_e, if_neg k0]
set_option maxRecDepth 100000 in
theorem kx_X7_image_2 {G : Gm} {w : Mw} {h0 : Nat} {v18 : Mv} {x_0 : Int32} {v33 : Mv} {x26 : Int32} {x28 : Int32} {x31 : Int32} (a0 : x26 = v18 h0 3) (a1 : x28 = (1 : Int32) <<< (x_0 &&& 31)) (a2 : x31 = x26 ||| x28) (a3 : v33 = stv v18 h0 3 x31)  : K_X7_image_c1 G w h0 v18 x_0 = ((1 : Int32), v33) := by
  subst a3; subst a2; subst a1; subst a0; first | rw [K_X7_image_c1] | simp only [K_X7_image_c1]
set_option maxRecDepth 100000 in
theorem kx_X7_image_3 {G : Gm} {w : Mw} {v : Mv} {h0 : Nat} {x_0 : Int32} {v41 : Mv} {x44 : Int32} {x4 : Int32} (a0 : x4 = F_X7_isWithin G w v x_0 (0 : Int32) (1 : Int32)) (a1 : x44 = (F_X7_bad G w v h0).1) (a2 : v41 = (F_X7_bad G w v h0).2) (k0 : x4 = (0 : Int32)) : K_X7_image_e G w v h0 x_0 = K_X7_image_c2 G w h0 v41 x44 := by
  subst a2; subst a1; subst a0; first | rw [K_X7_image_e, if_pos k0] | simp only [K_X7_image_e, if_pos k0]
set_option maxRecDepth 100000 in
theorem kx_X7_image_4 {G : Gm} {w : Mw} {h0 : Nat} {v41 : Mv} {x44 : Int32}   : K_X7_image_c2 G w h0 v41 x44 = (x44, v41) := by
  first | rw [K_X7_image_c2] | simp only [K_X7_image_c2]
abbrev rm_X7_image : Room := { frames := 2, cells := 0, slots := 0, locals := 44 }
set_option maxHeartbeats 4000000 in
set_option maxRecDepth 100000 in
theorem ct_X7_image (l : Launch) (D : va_G) (dA : Nat → ClassId) (G : Gm) (v : Mv) (w : Mw) (hOk : Ok G v w) (h0 : Nat) (S0 : S_X7 G h0) (x_0 : Int32) : CtI l yX7_image cX7_image 2 (some .int) rm_X7_image D dA G [.ref h0, .int x_0] v w (fun r v1 w1 => Ok G v1 w1 ∧ True ∧ True ∧ (w1 = w ∧ (r, v1) = F_X7_image G w v h0 x_0) ∧ Fr G [2, 4, 6, 7, 107, 120, 124] v v1) := by
  refine CtI.of RX7 [(0, .ref h0), (1, .int x_0)] (Nat.le_of_ble_eq_true rfl) rfl (by decide) rfl ?_
  intro p e s m args below meth c E hr
  have hK : K_X7_image_e G w v h0 x_0 = F_X7_image G w v h0 x_0 := rfl
  refine J_iload_n E dX7_image_0 1 rfl ?_
  refine J_iconst E 0 dX7_image_1 (by decide) ?_
  refine J_iconst E 1 dX7_image_2 (by decide) ?_
  refine J_callSI E cal_X7_isWithin wd361 [.int x_0, .int 0, .int 1] [] (ct_X7_isWithin l D dA G v w (hOk) x_0 0 1) rfl rfl (Nat.le_of_ble_eq_true rfl) ⟨rfl, rfl⟩ ⟨Nat.le_of_ble_eq_true rfl, Nat.le_of_ble_eq_true rfl⟩ dX7_image_3 (fun x4 v1 w2 p3 => ?_)
  rw [p3.1, p3.2.1]
  have b5 : Bd x4 0 1 := p3.2.2.1
  have e6 : x4 = F_X7_isWithin G w v x_0 (0 : Int32) (1 : Int32) := (p3.2.2.2.2.2)
  refine J_if_ne E 14 dX7_image_6 (by decide) (fun c7 => ?_) (fun c7 => ?_)
  · have b8 : Bd x4 1 1 := (Bd.ne_lo c7 b5 (Bd.lit 0 0 (by decide))).w _ _ (by decide)
    have g9 := (p3.2.2.2.1).resolve_left c7
    have b10 : Bd x_0 0 I1 := Bd.le_r g9.1 (Bd.lit 0 0 (by decide)) (Bd.any x_0) 0 (by decide)
    have b11 : Bd x_0 0 1 := Bd.le_l g9.2 b10 (Bd.lit 1 1 (by decide)) 1 (by decide)
    refine J_aload_n E dX7_image_14 0 rfl ?_
    refine J_getR E in_X7 rfl (S_X7.h S0) 2 (by decide) wd310 rfl dX7_image_15 ?_
    refine J_iload_n E dX7_image_18 1 rfl ?_
    have hi15 := Bd.in (n := 2) b11 (by decide)
    obtain ⟨q12, hq13, hw14⟩ := Ok.el hOk (S_X7.f2 S0).1 hi15
    refine J_aald3 E (S_X7.f2 S0).1 hi15 hw14 dX7_image_19 ?_
    have S16 := (S_X7.f2 S0).2 q12 hq13
    have e17 : q12 = (w.2 (rf G h0 2) (Int32.toNatClampNeg x_0)).getD 0 := by rw [hw14]; rfl
    refine J_aload_n E dX7_image_20 0 rfl ?_
    refine J_getR E in_X7 rfl (S_X7.h S0) 0 (by decide) wd308 rfl dX7_image_21 ?_
    refine J_callVNV E cal_X6_copyFrom wd567 rfl (S_X6.h S16) [.ref (rf G h0 0)] [] (ct_X6_copyFrom l D dA G v w (hOk) q12 S16 (rf G h0 0) (S_X7.f0 S0)) rfl rfl (Nat.le_of_ble_eq_true rfl) ⟨rfl, rfl⟩ ⟨Nat.le_of_ble_eq_true rfl, Nat.le_of_ble_eq_true rfl⟩ dX7_image_24 (fun v18 w19 p20 => ?_)
    have ew9 : w = w19 := p20.2.2.1.1.symm
    subst ew9
    have o22 := p20.1
    have k23 : True := trivial
    have f24 : Fr G [2, 4, 6, 7, 107, 120, 124] v v18 := Fr.tr Fr.rf (p20.2.2.2) (by decide)
    have e25 : v18 = F_X6_copyFrom G w v q12 (rf G h0 0) := (p20.2.2.1).2
    have hK : K_X7_image_c1 G w h0 v18 x_0 = F_X7_image G w v h0 x_0 := ((kx_X7_image_1 (e6) (e17) (e25) (c7)).symm.trans hK)
    refine J_aload_n E dX7_image_27 0 rfl ?_
    refine J_dup E dX7_image_28 rfl ?_
    refine J_getI E in_X7 rfl (S_X7.h S0) 3 (by decide) wd311 rfl dX7_image_29 (fun x26 e27 => ?_)
    refine J_iconst E 1 dX7_image_32 (by decide) ?_
    refine J_iload_n E dX7_image_33 1 rfl ?_
    refine J_ishl E dX7_image_34 (fun x28 e29 => ?_)
    have b30 : Bd x28 1 2 := Bd.shl1 e29 b11 1 (by decide)
    refine J_ior E dX7_image_35 (fun x31 e32 => ?_)
    refine J_pI E in_X7 rfl (S_X7.h S0) 3 (by decide) wd311 tyX7 tyX7_ok nmX7 rfl rfl .int (by decide +kernel) rfl rfl dX7_image_36 (fun v33 e34 => ?_)
    have o35 : Ok G v33 w := Ok.pf o22 e34 (S_X7.h S0) rfl (Bd.any x31)
    have f37 : Fr G [2, 4, 6, 7, 107, 120, 124] v v33 := Fr.st f24 e34 (S_X7.h S0) rfl
    have e38 : x31 = v33 h0 3 := by rw [e34, stv_s]
    refine J_iconst E 1 dX7_image_39 (by decide) ?_
    exact J_iret E hr dX7_image_40 ⟨o35, trivial, trivial, ⟨⟨rfl, ((kx_X7_image_2 (e27) (e29) (e32) (e34)).symm.trans hK)⟩, f37⟩⟩
  · have b39 : Bd x4 0 0 := Bd.eq_l c7 b5 (Bd.lit 0 0 (by decide)) 0 0 (by decide)
    have g40 : ¬ (0 ≤ x_0 ∧ x_0 ≤ 1) := (p3.2.2.2.2.1).resolve_left (fun h9 => h9 c7)
    refine J_aload_n E dX7_image_9 0 rfl ?_
    refine J_callVI E cal_X7_bad wd364 rfl (S_X7.h S0) [] [] (ct_X7_bad l D dA G v w (hOk) h0 S0) rfl rfl (Nat.le_of_ble_eq_true rfl) ⟨rfl, rfl⟩ ⟨Nat.le_of_ble_eq_true rfl, Nat.le_of_ble_eq_true rfl⟩ dX7_image_10 (fun x44 v41 w42 p43 => ?_)
    have ew9 : w = w42 := p43.2.2.2.1.1.symm
    subst ew9
    have o45 := p43.1
    have k46 : True := trivial
    have f47 : Fr G [2, 4, 6, 7, 107, 120, 124] v v41 := Fr.tr Fr.rf (p43.2.2.2.2) (by decide)
    have b48 : Bd x44 (-2) (-2) := p43.2.2.1
    have e49 : x44 = (F_X7_bad G w v h0).1 := congrArg Prod.fst (p43.2.2.2.1).2
    have e50 : v41 = (F_X7_bad G w v h0).2 := congrArg Prod.snd (p43.2.2.2.1).2
    have hK : K_X7_image_c2 G w h0 v41 x44 = F_X7_image G w v h0 x_0 := ((kx_X7_image_3 (e6) (e49) (e50) (c7)).symm.trans hK)
    exact J_iret E hr dX7_image_13 ⟨o45, k46, trivial, ⟨⟨rfl, ((kx_X7_image_4).symm.trans hK)⟩, f47⟩⟩

def K_X7_from_c1 (G : Gm) (w : Mw) (h0 : Nat) (v27 : Mv) : Int32 × Mv :=
  ((1 : Int32), v27)
def K_X7_from_c2 (G : Gm) (w : Mw) (h0 : Nat) (v36 : Mv) (x39 : Int32) : Int32 × Mv :=
  (x39, v36)
def K_X7_from_c3 (G : Gm) (w : Mw) (h0 : Nat) (v48 : Mv) (x51 : Int32) : Int32 × Mv :=
  (x51, v48)
def K_X7_from_e (G : Gm) (w : Mw) (v : Mv) (h0 : Nat) (x_0 : Int32) : Int32 × Mv :=
  if (F_X7_isWithin G w v x_0 (0 : Int32) (1 : Int32)) = (0 : Int32) then (K_X7_from_c3 G w h0 ((F_X7_bad G w v h0).2) ((F_X7_bad G w v h0).1)) else (if (((v h0 3) >>> (x_0 &&& 31)) &&& (1 : Int32)) = (0 : Int32) then (K_X7_from_c2 G w h0 ((F_X7_no G w v h0).2) ((F_X7_no G w v h0).1)) else (K_X7_from_c1 G w h0 (F_X6_copyFrom G w v (rf G h0 0) ((w.2 (rf G h0 2) (Int32.toNatClampNeg x_0)).getD 0))))
def F_X7_from (G : Gm) (w : Mw) (v : Mv) (h0 : Nat) (x_0 : Int32) : Int32 × Mv := K_X7_from_e G w v h0 x_0
set_option maxRecDepth 100000 in
theorem kx_X7_from_1 {G : Gm} {w : Mw} {v : Mv} {h0 : Nat} {x_0 : Int32} {v27 : Mv} {x12 : Int32} {x14 : Int32} {q21 : Nat} {x4 : Int32} {x16 : Int32} (a0 : x4 = F_X7_isWithin G w v x_0 (0 : Int32) (1 : Int32)) (a1 : x12 = v h0 3) (a2 : x14 = x12 >>> (x_0 &&& 31)) (a3 : x16 = x14 &&& (1 : Int32)) (a4 : q21 = (w.2 (rf G h0 2) (Int32.toNatClampNeg x_0)).getD 0) (a5 : v27 = F_X6_copyFrom G w v (rf G h0 0) q21) (k0 : ¬ (x4 = (0 : Int32))) (k1 : ¬ (x16 = (0 : Int32))) : K_X7_from_e G w v h0 x_0 = K_X7_from_c1 G w h0 v27 := by
  subst a5; subst a4; subst a3; subst a2; subst a1; subst a0; first | rw [K_X7_from_e, if_neg k0, if_neg k1] | simp only [K_X7_from_e, if_neg k0, if_neg k1]
set_option maxRecDepth 100000 in
theorem kx_X7_from_2 {G : Gm} {w : Mw} {h0 : Nat} {v27 : Mv}   : K_X7_from_c1 G w h0 v27 = ((1 : Int32), v27) := by
  first | rw [K_X7_from_c1] | simp only [K_X7_from_c1]
set_option maxRecDepth 100000 in
theorem kx_X7_from_3 {G : Gm} {w : Mw} {v : Mv} {h0 : Nat} {x_0 : Int32} {v36 : Mv} {x39 : Int32} {x12 : Int32} {x14 : Int32} {x4 : Int32} {x16 : Int32} (a0 : x4 = F_X7_isWithin G w v x_0 (0 : Int32) (1 : Int32)) (a1 : x12 = v h0 3) (a2 : x14 = x12 >>> (x_0 &&& 31)) (a3 : x16 = x14 &&& (1 : Int32)) (a4 : x39 = (F_X7_no G w v h0).1) (a5 : v36 = (F_X7_no G w v h0).2) (k0 : ¬ (x4 = (0 : Int32))) (k1 : x16 = (0 : Int32)) : K_X7_from_e G w v h0 x_0 = K_X7_from_c2 G w h0 v36 x39 := by
  subst a5; subst a4; subst a3; subst a2; subst a1; subst a0; first | rw [K_X7_from_e, if_neg k0, if_pos k1] | simp only [K_X7_from_e, if_neg k0, if_pos k1]
set_option maxRecDepth 100000 in
theorem kx_X7_from_4 {G : Gm} {w : Mw} {h0 : Nat} {v36 : Mv} {x39 : Int32}   : K_X7_from_c2 G w h0 v36 x39 = (x39, v36) := by
  first | rw [K_X7_from_c2] | simp only [K_X7_from_c2]
set_option maxRecDepth 100000 in
theorem kx_X7_from_5 {G : Gm} {w : Mw} {v : Mv} {h0 : Nat} {x_0 : Int32} {v48 : Mv} {x51 : Int32} {x4 : Int32} (a0 : x4 = F_X7_isWithin G w v x_0 (0 : Int32) (1 : Int32)) (a1 : x51 = (F_X7_bad G w v h0).1) (a2 : v48 = (F_X7_bad G w v h0).2) (k0 : x4 = (0 : Int32)) : K_X7_from_e G w v h0 x_0 = K_X7_from_c3 G w h0 v48 x51 := by
  subst a2; subst a1; subst a0; first | rw [K_X7_from_e, if_pos k0] | simp only [K_X7_from_e, if_pos k0]
set_option maxRecDepth 100000 in
theorem kx_X7_from_6 {G : Gm} {w : Mw} {h0 : Nat} {v48 : Mv} {x51 : Int32}   : K_X7_from_c3 G w h0 v48 x51 = (x51, v48) := by
  first | rw [K_X7_from_c3] | simp only [K_X7_from_c3]
abbrev rm_X7_from : Room := { frames := 2, cells := 0, slots := 0, locals := 44 }
set_option maxHeartbeats 4000000 in
set_option maxRecDepth 100000 in
theorem ct_X7_from (l : Launch) (D : va_G) (dA : Nat → ClassId) (G : Gm) (v : Mv) (w : Mw) (hOk : Ok G v w) (h0 : Nat) (S0 : S_X7 G h0) (x_0 : Int32) : CtI l yX7_from cX7_from 2 (some .int) rm_X7_from D dA G [.ref h0, .int x_0] v w (fun r v1 w1 => Ok G v1 w1 ∧ True ∧ True ∧ (w1 = w ∧ (r, v1) = F_X7_from G w v h0 x_0) ∧ Fr G [2, 4, 6, 7, 107, 120, 124] v v1) := by
  refine CtI.of RX7 [(0, .ref h0), (1, .int x_0)] (Nat.le_of_ble_eq_true rfl) rfl (by decide) rfl ?_
  intro p e s m args below meth c E hr
  have hK : K_X7_from_e G w v h0 x_0 = F_X7_from G w v h0 x_0 := rfl
  refine J_iload_n E dX7_from_0 1 rfl ?_
  refine J_iconst E 0 dX7_from_1 (by decide) ?_
  refine J_iconst E 1 dX7_from_2 (by decide) ?_
  refine J_callSI E cal_X7_isWithin wd361 [.int x_0, .int 0, .int 1] [] (ct_X7_isWithin l D dA G v w (hOk) x_0 0 1) rfl rfl (Nat.le_of_ble_eq_true rfl) ⟨rfl, rfl⟩ ⟨Nat.le_of_ble_eq_true rfl, Nat.le_of_ble_eq_true rfl⟩ dX7_from_3 (fun x4 v1 w2 p3 => ?_)
  rw [p3.1, p3.2.1]
  have b5 : Bd x4 0 1 := p3.2.2.1
  have e6 : x4 = F_X7_isWithin G w v x_0 (0 : Int32) (1 : Int32) := (p3.2.2.2.2.2)
  refine J_if_ne E 14 dX7_from_6 (by decide) (fun c7 => ?_) (fun c7 => ?_)
  · have b8 : Bd x4 1 1 := (Bd.ne_lo c7 b5 (Bd.lit 0 0 (by decide))).w _ _ (by decide)
    have g9 := (p3.2.2.2.1).resolve_left c7
    have b10 : Bd x_0 0 I1 := Bd.le_r g9.1 (Bd.lit 0 0 (by decide)) (Bd.any x_0) 0 (by decide)
    have b11 : Bd x_0 0 1 := Bd.le_l g9.2 b10 (Bd.lit 1 1 (by decide)) 1 (by decide)
    refine J_aload_n E dX7_from_14 0 rfl ?_
    refine J_getI E in_X7 rfl (S_X7.h S0) 3 (by decide) wd311 rfl dX7_from_15 (fun x12 e13 => ?_)
    refine J_iload_n E dX7_from_18 1 rfl ?_
    refine J_ishr E dX7_from_19 (fun x14 e15 => ?_)
    refine J_iconst E 1 dX7_from_20 (by decide) ?_
    refine J_iand E dX7_from_21 (fun x16 e17 => ?_)
    have b18 : Bd x16 0 1 := Bd.and_r e17 (Bd.lit 1 1 (by decide)) (by decide)
    refine J_if_ne E 30 dX7_from_22 (by decide) (fun c19 => ?_) (fun c19 => ?_)
    · have b20 : Bd x16 1 1 := (Bd.ne_lo c19 b18 (Bd.lit 0 0 (by decide))).w _ _ (by decide)
      refine J_aload_n E dX7_from_30 0 rfl ?_
      refine J_getR E in_X7 rfl (S_X7.h S0) 0 (by decide) wd308 rfl dX7_from_31 ?_
      refine J_aload_n E dX7_from_34 0 rfl ?_
      refine J_getR E in_X7 rfl (S_X7.h S0) 2 (by decide) wd310 rfl dX7_from_35 ?_
      refine J_iload_n E dX7_from_38 1 rfl ?_
      have hi24 := Bd.in (n := 2) b11 (by decide)
      obtain ⟨q21, hq22, hw23⟩ := Ok.el hOk (S_X7.f2 S0).1 hi24
      refine J_aald3 E (S_X7.f2 S0).1 hi24 hw23 dX7_from_39 ?_
      have S25 := (S_X7.f2 S0).2 q21 hq22
      have e26 : q21 = (w.2 (rf G h0 2) (Int32.toNatClampNeg x_0)).getD 0 := by rw [hw23]; rfl
      refine J_callVNV E cal_X6_copyFrom wd567 rfl (S_X6.h (S_X7.f0 S0)) [.ref q21] [] (ct_X6_copyFrom l D dA G v w (hOk) (rf G h0 0) (S_X7.f0 S0) q21 S25) rfl rfl (Nat.le_of_ble_eq_true rfl) ⟨rfl, rfl⟩ ⟨Nat.le_of_ble_eq_true rfl, Nat.le_of_ble_eq_true rfl⟩ dX7_from_40 (fun v27 w28 p29 => ?_)
      have ew9 : w = w28 := p29.2.2.1.1.symm
      subst ew9
      have o31 := p29.1
      have k32 : True := trivial
      have f33 : Fr G [2, 4, 6, 7, 107, 120, 124] v v27 := Fr.tr Fr.rf (p29.2.2.2) (by decide)
      have e34 : v27 = F_X6_copyFrom G w v (rf G h0 0) q21 := (p29.2.2.1).2
      have hK : K_X7_from_c1 G w h0 v27 = F_X7_from G w v h0 x_0 := ((kx_X7_from_1 (e6) (e13) (e15) (e17) (e26) (e34) (c7) (c19)).symm.trans hK)
      refine J_iconst E 1 dX7_from_43 (by decide) ?_
      exact J_iret E hr dX7_from_44 ⟨o31, k32, trivial, ⟨⟨rfl, ((kx_X7_from_2).symm.trans hK)⟩, f33⟩⟩
    · have b35 : Bd x16 0 0 := Bd.eq_l c19 b18 (Bd.lit 0 0 (by decide)) 0 0 (by decide)
      refine J_aload_n E dX7_from_25 0 rfl ?_
      refine J_callVI E cal_X7_no wd591 rfl (S_X7.h S0) [] [] (ct_X7_no l D dA G v w (hOk) h0 S0) rfl rfl (Nat.le_of_ble_eq_true rfl) ⟨rfl, rfl⟩ ⟨Nat.le_of_ble_eq_true rfl, Nat.le_of_ble_eq_true rfl⟩ dX7_from_26 (fun x39 v36 w37 p38 => ?_)
      have ew9 : w = w37 := p38.2.2.2.1.1.symm
      subst ew9
      have o40 := p38.1
      have k41 : True := trivial
      have f42 : Fr G [2, 4, 6, 7, 107, 120, 124] v v36 := Fr.tr Fr.rf (p38.2.2.2.2) (by decide)
      have b43 : Bd x39 (-3) (-3) := p38.2.2.1
      have e44 : x39 = (F_X7_no G w v h0).1 := congrArg Prod.fst (p38.2.2.2.1).2
      have e45 : v36 = (F_X7_no G w v h0).2 := congrArg Prod.snd (p38.2.2.2.1).2
      have hK : K_X7_from_c2 G w h0 v36 x39 = F_X7_from G w v h0 x_0 := ((kx_X7_from_3 (e6) (e13) (e15) (e17) (e44) (e45) (c7) (c19)).symm.trans hK)
      exact J_iret E hr dX7_from_29 ⟨o40, k41, trivial, ⟨⟨rfl, ((kx_X7_from_4).symm.trans hK)⟩, f42⟩⟩
  · have b46 : Bd x4 0 0 := Bd.eq_l c7 b5 (Bd.lit 0 0 (by decide)) 0 0 (by decide)
    have g47 : ¬ (0 ≤ x_0 ∧ x_0 ≤ 1) := (p3.2.2.2.2.1).resolve_left (fun h9 => h9 c7)
    refine J_aload_n E dX7_from_9 0 rfl ?_
    refine J_callVI E cal_X7_bad wd364 rfl (S_X7.h S0) [] [] (ct_X7_bad l D dA G v w (hOk) h0 S0) rfl rfl (Nat.le_of_ble_eq_true rfl) ⟨rfl, rfl⟩ ⟨Nat.le_of_ble_eq_true rfl, Nat.le_of_ble_eq_true rfl⟩ dX7_from_10 (fun x51 v48 w49 p50 => ?_)
    have ew9 : w = w49 := p50.2.2.2.1.1.symm
    subst ew9
    have o52 := p50.1
    have k53 : True := trivial
    have f54 : Fr G [2, 4, 6, 7, 107, 120, 124] v v48 := Fr.tr Fr.rf (p50.2.2.2.2) (by decide)
    have b55 : Bd x51 (-2) (-2) := p50.2.2.1
    have e56 : x51 = (F_X7_bad G w v h0).1 := congrArg Prod.fst (p50.2.2.2.1).2
    have e57 : v48 = (F_X7_bad G w v h0).2 := congrArg Prod.snd (p50.2.2.2.1).2
    have hK : K_X7_from_c3 G w h0 v48 x51 = F_X7_from G w v h0 x_0 := ((kx_X7_from_5 (e6) (e56) (e57) (c7)).symm.trans hK)
    exact J_iret E hr dX7_from_13 ⟨o52, k53, trivial, ⟨⟨rfl, ((kx_X7_from_6).symm.trans hK)⟩, f54⟩⟩

abbrev rm_X7_status : Room := { frames := 1, cells := 0, slots := 0, locals := 20 }
set_option maxHeartbeats 4000000 in
set_option maxRecDepth 100000 in
theorem ct_X7_status (l : Launch) (D : va_G) (dA : Nat → ClassId) (G : Gm) (v : Mv) (w : Mw) (hOk : Ok G v w) (h0 : Nat) (S0 : S_X7 G h0) (x_0 : Int32) : CtI l yX7_status cX7_status 2 (some .int) rm_X7_status D dA G [.ref h0, .int x_0] v w (fun r v1 w1 => Ok G v1 w1 ∧ Kp G v v1 ∧ True ∧ Fr G [7] v v1) := by
  refine CtI.of RX7 [(0, .ref h0), (1, .int x_0)] (Nat.le_of_ble_eq_true rfl) rfl (by decide) rfl ?_
  intro p e s m args below meth c E hr
  refine J_iload_n E dX7_status_0 1 rfl ?_
  by_cases h1 : x_0.toInt = 0
  · refine J_tabIn E 0 28 dX7_status_1 h1 (by decide) (by decide) rfl (by decide) ?_
    have b2 : Bd x_0 0 0 := ⟨by omega, by omega⟩
    refine J_aload_n E dX7_status_28 0 rfl ?_
    refine J_getI E in_X7 rfl (S_X7.h S0) 9 (by decide) wd317 rfl dX7_status_29 (fun x3 e4 => ?_)
    exact J_iret E hr dX7_status_32 ⟨hOk, Kp.rf, trivial, Fr.rf⟩
  by_cases h5 : x_0.toInt = 1
  · refine J_tabIn E 1 33 dX7_status_1 h5 (by decide) (by decide) rfl (by decide) ?_
    have b6 : Bd x_0 1 1 := ⟨by omega, by omega⟩
    refine J_aload_n E dX7_status_33 0 rfl ?_
    refine J_getI E in_X7 rfl (S_X7.h S0) 10 (by decide) wd318 rfl dX7_status_34 (fun x7 e8 => ?_)
    exact J_iret E hr dX7_status_37 ⟨hOk, Kp.rf, trivial, Fr.rf⟩
  by_cases h9 : x_0.toInt = 2
  · refine J_tabIn E 2 38 dX7_status_1 h9 (by decide) (by decide) rfl (by decide) ?_
    have b10 : Bd x_0 2 2 := ⟨by omega, by omega⟩
    refine J_aload_n E dX7_status_38 0 rfl ?_
    refine J_getI E in_X7 rfl (S_X7.h S0) 11 (by decide) wd319 rfl dX7_status_39 (fun x11 e12 => ?_)
    exact J_iret E hr dX7_status_42 ⟨hOk, Kp.rf, trivial, Fr.rf⟩
  refine J_tabOut (x := x_0) E 43 dX7_status_1 (by have := (Bd.any x_0); simp only [Bd, I0, I1] at this; omega) (by decide) ?_
  refine J_aload_n E dX7_status_43 0 rfl ?_
  refine J_callVI E cal_X7_bad wd364 rfl (S_X7.h S0) [] [] (ct_X7_bad l D dA G v w (hOk) h0 S0) rfl rfl (Nat.le_of_ble_eq_true rfl) ⟨rfl, rfl⟩ ⟨Nat.le_of_ble_eq_true rfl, Nat.le_of_ble_eq_true rfl⟩ dX7_status_44 (fun x16 v13 w14 p15 => ?_)
  have ew9 : w = w14 := p15.2.2.2.1.1.symm
  subst ew9
  have o17 := p15.1
  have k18 : Kp G v v13 := (Kp.rf).tr p15.2.1
  have f19 : Fr G [7] v v13 := Fr.tr Fr.rf (p15.2.2.2.2) (by decide)
  have b20 : Bd x16 (-2) (-2) := p15.2.2.1
  refine J_pop E dX7_status_47 rfl ?_
  refine J_iconst E (-1) dX7_status_48 (by decide) ?_
  exact J_iret E hr dX7_status_49 ⟨o17, k18, trivial, f19⟩

abbrev rm_X7_howMany : Room := { frames := 2, cells := 0, slots := 0, locals := 40 }
set_option maxHeartbeats 4000000 in
set_option maxRecDepth 100000 in
theorem ct_X7_howMany (l : Launch) (D : va_G) (dA : Nat → ClassId) (G : Gm) (v : Mv) (w : Mw) (hOk : Ok G v w) (h0 : Nat) (S0 : S_X7 G h0) (x_0 : Int32) (bx_0 : Bd x_0 0 9) : CtI l yX7_howMany cX7_howMany 2 (some .int) rm_X7_howMany D dA G [.ref h0, .int x_0] v w (fun r v1 w1 => v1 = v ∧ w1 = w ∧ True ∧ True) := by
  refine CtI.of RX7 [(0, .ref h0), (1, .int x_0)] (Nat.le_of_ble_eq_true rfl) rfl (by decide) rfl ?_
  intro p e s m args below meth c E hr
  refine J_iload_n E dX7_howMany_0 1 rfl ?_
  by_cases h1 : x_0.toInt = 0
  · refine J_tabIn E 0 52 dX7_howMany_1 h1 (by decide) (by decide) rfl (by decide) ?_
    have b2 : Bd x_0 0 0 := ⟨by omega, by omega⟩
    refine J_aload_n E dX7_howMany_52 0 rfl ?_
    refine J_getR E in_X7 rfl (S_X7.h S0) 0 (by decide) wd308 rfl dX7_howMany_53 ?_
    refine J_getIN E in_X6 rfl (S_X6.h (S_X7.f0 S0)) 3 (by decide) wd200 rfl dX7_howMany_56 (fun x3 e4 => ?_)
    have b5 : Bd x3 0 7 := Ok.fd hOk e4 (S_X6.h (S_X7.f0 S0)) rfl
    exact J_iret E hr dX7_howMany_59 ⟨rfl, rfl, trivial, trivial⟩
  by_cases h6 : x_0.toInt = 1
  · refine J_tabIn E 1 60 dX7_howMany_1 h6 (by decide) (by decide) rfl (by decide) ?_
    have b7 : Bd x_0 1 1 := ⟨by omega, by omega⟩
    refine J_aload_n E dX7_howMany_60 0 rfl ?_
    refine J_getR E in_X7 rfl (S_X7.h S0) 0 (by decide) wd308 rfl dX7_howMany_61 ?_
    refine J_getRN E in_X6 rfl (S_X6.h (S_X7.f0 S0)) 6 (by decide) wd209 rfl dX7_howMany_64 ?_
    refine J_callVNI E cal_X2_countHere wd621 rfl (S_X2.h (S_X6.f6 (S_X7.f0 S0))) [] [] (ct_X2_countHere l D dA G v w (hOk) (rf G (rf G h0 0) 6) (S_X6.f6 (S_X7.f0 S0))) rfl rfl (Nat.le_of_ble_eq_true rfl) ⟨rfl, rfl⟩ ⟨Nat.le_of_ble_eq_true rfl, Nat.le_of_ble_eq_true rfl⟩ dX7_howMany_67 (fun x11 v8 w9 p10 => ?_)
    rw [p10.1, p10.2.1]
    exact J_iret E hr dX7_howMany_70 ⟨rfl, rfl, trivial, trivial⟩
  by_cases h12 : x_0.toInt = 2
  · refine J_tabIn E 2 71 dX7_howMany_1 h12 (by decide) (by decide) rfl (by decide) ?_
    have b13 : Bd x_0 2 2 := ⟨by omega, by omega⟩
    refine J_aload_n E dX7_howMany_71 0 rfl ?_
    refine J_getR E in_X7 rfl (S_X7.h S0) 0 (by decide) wd308 rfl dX7_howMany_72 ?_
    refine J_getIN E in_X6 rfl (S_X6.h (S_X7.f0 S0)) 0 (by decide) wd193 rfl dX7_howMany_75 (fun x14 e15 => ?_)
    have b16 : Bd x14 0 7 := Ok.fd hOk e15 (S_X6.h (S_X7.f0 S0)) rfl
    exact J_iret E hr dX7_howMany_78 ⟨rfl, rfl, trivial, trivial⟩
  by_cases h17 : x_0.toInt = 3
  · refine J_tabIn E 3 79 dX7_howMany_1 h17 (by decide) (by decide) rfl (by decide) ?_
    have b18 : Bd x_0 3 3 := ⟨by omega, by omega⟩
    refine J_aload_n E dX7_howMany_79 0 rfl ?_
    refine J_getR E in_X7 rfl (S_X7.h S0) 0 (by decide) wd308 rfl dX7_howMany_80 ?_
    refine J_callVNI E cal_X6_countOwned wd904 rfl (S_X6.h (S_X7.f0 S0)) [] [] (ct_X6_countOwned l D dA G v w (hOk) (rf G h0 0) (S_X7.f0 S0)) rfl rfl (Nat.le_of_ble_eq_true rfl) ⟨rfl, rfl⟩ ⟨Nat.le_of_ble_eq_true rfl, Nat.le_of_ble_eq_true rfl⟩ dX7_howMany_83 (fun x22 v19 w20 p21 => ?_)
    rw [p21.1, p21.2.1]
    exact J_iret E hr dX7_howMany_86 ⟨rfl, rfl, trivial, trivial⟩
  by_cases h23 : x_0.toInt = 4
  · refine J_tabIn E 4 87 dX7_howMany_1 h23 (by decide) (by decide) rfl (by decide) ?_
    have b24 : Bd x_0 4 4 := ⟨by omega, by omega⟩
    refine J_aload_n E dX7_howMany_87 0 rfl ?_
    refine J_getR E in_X7 rfl (S_X7.h S0) 0 (by decide) wd308 rfl dX7_howMany_88 ?_
    refine J_getRN E in_X6 rfl (S_X6.h (S_X7.f0 S0)) 6 (by decide) wd209 rfl dX7_howMany_91 ?_
    refine J_getIN E in_X2 rfl (S_X2.h (S_X6.f6 (S_X7.f0 S0))) 3 (by decide) wd161 rfl dX7_howMany_94 (fun x25 e26 => ?_)
    exact J_iret E hr dX7_howMany_97 ⟨rfl, rfl, trivial, trivial⟩
  by_cases h27 : x_0.toInt = 5
  · refine J_tabIn E 5 98 dX7_howMany_1 h27 (by decide) (by decide) rfl (by decide) ?_
    have b28 : Bd x_0 5 5 := ⟨by omega, by omega⟩
    refine J_aload_n E dX7_howMany_98 0 rfl ?_
    refine J_getR E in_X7 rfl (S_X7.h S0) 0 (by decide) wd308 rfl dX7_howMany_99 ?_
    refine J_getRN E in_X6 rfl (S_X6.h (S_X7.f0 S0)) 9 (by decide) wd214 rfl dX7_howMany_102 ?_
    refine J_getIN E in_X4 rfl (S_X4.h (S_X6.f9 (S_X7.f0 S0))) 2 (by decide) wd183 rfl dX7_howMany_105 (fun x29 e30 => ?_)
    have b31 : Bd x29 0 5 := Ok.fd hOk e30 (S_X4.h (S_X6.f9 (S_X7.f0 S0))) rfl
    exact J_iret E hr dX7_howMany_108 ⟨rfl, rfl, trivial, trivial⟩
  by_cases h32 : x_0.toInt = 6
  · refine J_tabIn E 6 109 dX7_howMany_1 h32 (by decide) (by decide) rfl (by decide) ?_
    have b33 : Bd x_0 6 6 := ⟨by omega, by omega⟩
    refine J_aload_n E dX7_howMany_109 0 rfl ?_
    refine J_getR E in_X7 rfl (S_X7.h S0) 0 (by decide) wd308 rfl dX7_howMany_110 ?_
    refine J_getRN E in_X6 rfl (S_X6.h (S_X7.f0 S0)) 10 (by decide) wd216 rfl dX7_howMany_113 ?_
    refine J_getIN E in_X4 rfl (S_X4.h (S_X6.f10 (S_X7.f0 S0))) 2 (by decide) wd183 rfl dX7_howMany_116 (fun x34 e35 => ?_)
    have b36 : Bd x34 0 6 := Ok.fd hOk e35 (S_X4.h (S_X6.f10 (S_X7.f0 S0))) rfl
    exact J_iret E hr dX7_howMany_119 ⟨rfl, rfl, trivial, trivial⟩
  by_cases h37 : x_0.toInt = 7
  · refine J_tabIn E 7 120 dX7_howMany_1 h37 (by decide) (by decide) rfl (by decide) ?_
    have b38 : Bd x_0 7 7 := ⟨by omega, by omega⟩
    refine J_aload_n E dX7_howMany_120 0 rfl ?_
    refine J_getR E in_X7 rfl (S_X7.h S0) 0 (by decide) wd308 rfl dX7_howMany_121 ?_
    refine J_getRN E in_X6 rfl (S_X6.h (S_X7.f0 S0)) 11 (by decide) wd218 rfl dX7_howMany_124 ?_
    refine J_getIN E in_X4 rfl (S_X4.h (S_X6.f11 (S_X7.f0 S0))) 2 (by decide) wd183 rfl dX7_howMany_127 (fun x39 e40 => ?_)
    have b41 : Bd x39 0 6 := Ok.fd hOk e40 (S_X4.h (S_X6.f11 (S_X7.f0 S0))) rfl
    exact J_iret E hr dX7_howMany_130 ⟨rfl, rfl, trivial, trivial⟩
  by_cases h42 : x_0.toInt = 8
  · refine J_tabIn E 8 131 dX7_howMany_1 h42 (by decide) (by decide) rfl (by decide) ?_
    have b43 : Bd x_0 8 8 := ⟨by omega, by omega⟩
    refine J_aload_n E dX7_howMany_131 0 rfl ?_
    refine J_getR E in_X7 rfl (S_X7.h S0) 0 (by decide) wd308 rfl dX7_howMany_132 ?_
    refine J_getIN E in_X6 rfl (S_X6.h (S_X7.f0 S0)) 8 (by decide) wd212 rfl dX7_howMany_135 (fun x44 e45 => ?_)
    have b46 : Bd x44 0 8 := Ok.fd hOk e45 (S_X6.h (S_X7.f0 S0)) rfl
    exact J_iret E hr dX7_howMany_138 ⟨rfl, rfl, trivial, trivial⟩
  refine J_tabOut (x := x_0) E 139 dX7_howMany_1 (by have := bx_0; simp only [Bd, I0, I1] at this; omega) (by decide) ?_
  refine J_aload_n E dX7_howMany_139 0 rfl ?_
  refine J_getR E in_X7 rfl (S_X7.h S0) 1 (by decide) wd309 rfl dX7_howMany_140 ?_
  refine J_getIN E in_X3 rfl (S_X3.h (S_X7.f1 S0)) 1 (by decide) wd254 rfl dX7_howMany_143 (fun x47 e48 => ?_)
  have b49 : Bd x47 0 150 := Ok.fd hOk e48 (S_X3.h (S_X7.f1 S0)) rfl
  exact J_iret E hr dX7_howMany_146 ⟨rfl, rfl, trivial, trivial⟩

abbrev rm_X7_count : Room := { frames := 3, cells := 0, slots := 0, locals := 61 }
set_option maxHeartbeats 4000000 in
set_option maxRecDepth 100000 in
theorem ct_X7_count (l : Launch) (D : va_G) (dA : Nat → ClassId) (G : Gm) (v : Mv) (w : Mw) (hOk : Ok G v w) (h0 : Nat) (S0 : S_X7 G h0) (x_0 : Int32) : CtI l yX7_count cX7_count 2 (some .int) rm_X7_count D dA G [.ref h0, .int x_0] v w (fun r v1 w1 => Ok G v1 w1 ∧ Kp G v v1 ∧ True ∧ Fr G [7] v v1) := by
  refine CtI.of RX7 [(0, .ref h0), (1, .int x_0)] (Nat.le_of_ble_eq_true rfl) rfl (by decide) rfl ?_
  intro p e s m args below meth c E hr
  refine J_iload_n E dX7_count_0 1 rfl ?_
  refine J_iconst E 0 dX7_count_1 (by decide) ?_
  refine J_bipush E 9 dX7_count_2 (by decide) ?_
  refine J_callSI E cal_X7_isWithin wd361 [.int x_0, .int 0, .int 9] [] (ct_X7_isWithin l D dA G v w (hOk) x_0 0 9) rfl rfl (Nat.le_of_ble_eq_true rfl) ⟨rfl, rfl⟩ ⟨Nat.le_of_ble_eq_true rfl, Nat.le_of_ble_eq_true rfl⟩ dX7_count_4 (fun x4 v1 w2 p3 => ?_)
  rw [p3.1, p3.2.1]
  have b5 : Bd x4 0 1 := p3.2.2.1
  refine J_if_eq E 18 dX7_count_7 (by decide) (fun c6 => ?_) (fun c6 => ?_)
  · have b7 : Bd x4 0 0 := Bd.eq_l c6 b5 (Bd.lit 0 0 (by decide)) 0 0 (by decide)
    have g8 : ¬ (0 ≤ x_0 ∧ x_0 ≤ 9) := (p3.2.2.2.2.1).resolve_left (fun h9 => h9 c6)
    refine J_aload_n E dX7_count_18 0 rfl ?_
    refine J_callVI E cal_X7_bad wd364 rfl (S_X7.h S0) [] [] (ct_X7_bad l D dA G v w (hOk) h0 S0) rfl rfl (Nat.le_of_ble_eq_true rfl) ⟨rfl, rfl⟩ ⟨Nat.le_of_ble_eq_true rfl, Nat.le_of_ble_eq_true rfl⟩ dX7_count_19 (fun x12 v9 w10 p11 => ?_)
    have ew9 : w = w10 := p11.2.2.2.1.1.symm
    subst ew9
    have o13 := p11.1
    have k14 : Kp G v v9 := (Kp.rf).tr p11.2.1
    have f15 : Fr G [7] v v9 := Fr.tr Fr.rf (p11.2.2.2.2) (by decide)
    have b16 : Bd x12 (-2) (-2) := p11.2.2.1
    exact J_iret E hr dX7_count_22 ⟨o13, k14, trivial, f15⟩
  · have b17 : Bd x4 1 1 := (Bd.ne_lo c6 b5 (Bd.lit 0 0 (by decide))).w _ _ (by decide)
    have g18 := (p3.2.2.2.1).resolve_left c6
    have b19 : Bd x_0 0 I1 := Bd.le_r g18.1 (Bd.lit 0 0 (by decide)) (Bd.any x_0) 0 (by decide)
    have b20 : Bd x_0 0 9 := Bd.le_l g18.2 b19 (Bd.lit 9 9 (by decide)) 9 (by decide)
    refine J_aload_n E dX7_count_10 0 rfl ?_
    refine J_iload_n E dX7_count_11 1 rfl ?_
    refine J_callVI E cal_X7_howMany wd900 rfl (S_X7.h S0) [.int x_0] [] (ct_X7_howMany l D dA G v w (hOk) h0 S0 x_0 b20) rfl rfl (Nat.le_of_ble_eq_true rfl) ⟨rfl, rfl⟩ ⟨Nat.le_of_ble_eq_true rfl, Nat.le_of_ble_eq_true rfl⟩ dX7_count_12 (fun x24 v21 w22 p23 => ?_)
    rw [p23.1, p23.2.1]
    refine J_goto E 22 dX7_count_15 (by decide) ?_
    exact J_iret E hr dX7_count_22 ⟨hOk, Kp.rf, trivial, Fr.rf⟩

abbrev rm_X7_digest : Room := { frames := 3, cells := 0, slots := 0, locals := 69 }
set_option maxHeartbeats 4000000 in
set_option maxRecDepth 100000 in
theorem ct_X7_digest (l : Launch) (D : va_G) (dA : Nat → ClassId) (G : Gm) (v : Mv) (w : Mw) (hOk : Ok G v w) (h0 : Nat) (S0 : S_X7 G h0) : CtL l yX7_digest cX7_digest 4 (some .long) rm_X7_digest D dA G [.ref h0] v w (fun r v1 w1 => v1 = v ∧ w1 = w ∧ True) := by
  refine CtL.of RX7 [(0, .ref h0)] (Nat.le_of_ble_eq_true rfl) rfl (by decide) rfl ?_
  intro p e s m args below meth c E hr
  have J6 : ∀ n6 : Nat, ∀ y1 : Int64, ∀ x2 : Int32, Bd x2 0 10 → Mu x2 10 n6 → J p l e rm_X7_digest s m args below meth c 0 0 (MQ below (QcL D dA G (fun r v1 w1 => v1 = v ∧ w1 = w ∧ True)) args s 0 0 (dm G)) D dA G (dm G) s.heap 4 v w [(0, .ref h0), (1, .long y1), (3, .int x2)] 6 [] := by
    intro n6
    induction n6 with
    | zero => intro y1 x2 b3 hm; exact hm.zero b3 (by decide)
    | succ n6 ih6 =>
      intro y1 x2 b3 hmu6
      refine J_iload_n E dX7_digest_6 2 rfl ?_
      refine J_bipush E 10 dX7_digest_7 (by decide) ?_
      refine J_icmp_ge E 31 dX7_digest_9 (by decide) (fun c4 => ?_) (fun c4 => ?_)
      · have b5 : Bd x2 10 10 := Bd.le_r c4 (Bd.lit 10 10 (by decide)) b3 10 (by decide)
        refine J_aload_n E dX7_digest_31 0 rfl ?_
        refine J_getR E in_X7 rfl (S_X7.h S0) 0 (by decide) wd308 rfl dX7_digest_32 ?_
        refine J_lload_n E dX7_digest_35 1 rfl ?_
        refine J_callVNL E cal_X6_mixInto wd914 rfl (S_X6.h (S_X7.f0 S0)) [.long y1] [] (ct_X6_mixInto l D dA G v w (hOk) (rf G h0 0) (S_X7.f0 S0) y1) rfl rfl (Nat.le_of_ble_eq_true rfl) ⟨rfl, rfl⟩ ⟨Nat.le_of_ble_eq_true rfl, Nat.le_of_ble_eq_true rfl⟩ dX7_digest_36 (fun y9 v6 w7 p8 => ?_)
        rw [p8.1, p8.2.1]
        refine J_lstore_n E [(1, .long y9), (0, .ref h0), (3, .int x2)] dX7_digest_39 rfl (by decide) rfl ?_
        refine J_ldc2 E wd913 dX7_digest_40 ?_
        refine J_lload_n E dX7_digest_43 0 rfl ?_
        refine J_lmul E dX7_digest_44 (fun y10 e11 => ?_)
        refine J_aload_n E dX7_digest_45 1 rfl ?_
        refine J_getL E in_X7 rfl (S_X7.h S0) 7 (by decide) wd315 rfl dX7_digest_46 (fun y12 e13 => ?_)
        refine J_ladd E dX7_digest_49 (fun y14 e15 => ?_)
        refine J_lstore_n E [(1, .long y14), (0, .ref h0), (3, .int x2)] dX7_digest_50 rfl (by decide) rfl ?_
        refine J_ldc2 E wd913 dX7_digest_51 ?_
        refine J_lload_n E dX7_digest_54 0 rfl ?_
        refine J_lmul E dX7_digest_55 (fun y16 e17 => ?_)
        refine J_aload_n E dX7_digest_56 1 rfl ?_
        refine J_getL E in_X7 rfl (S_X7.h S0) 8 (by decide) wd316 rfl dX7_digest_57 (fun y18 e19 => ?_)
        refine J_ladd E dX7_digest_60 (fun y20 e21 => ?_)
        exact J_lret E hr dX7_digest_61 ⟨rfl, rfl, trivial⟩
      · have b22 : Bd x2 0 9 := Bd.lt_l (nle c4) b3 (Bd.lit 10 10 (by decide)) 9 (by decide)
        refine J_ldc2 E wd913 dX7_digest_12 ?_
        refine J_lload_n E dX7_digest_15 1 rfl ?_
        refine J_lmul E dX7_digest_16 (fun y23 e24 => ?_)
        refine J_aload_n E dX7_digest_17 0 rfl ?_
        refine J_iload_n E dX7_digest_18 2 rfl ?_
        refine J_callVI E cal_X7_howMany wd900 rfl (S_X7.h S0) [.int x2] [.long y23] (ct_X7_howMany l D dA G v w (hOk) h0 S0 x2 b22) rfl rfl (Nat.le_of_ble_eq_true rfl) ⟨rfl, rfl⟩ ⟨Nat.le_of_ble_eq_true rfl, Nat.le_of_ble_eq_true rfl⟩ dX7_digest_19 (fun x28 v25 w26 p27 => ?_)
        rw [p27.1, p27.2.1]
        refine J_i2l E dX7_digest_22 (fun y29 e30 => ?_)
        refine J_ladd E dX7_digest_23 (fun y31 e32 => ?_)
        refine J_lstore_n E [(1, .long y31), (0, .ref h0), (3, .int x2)] dX7_digest_24 rfl (by decide) rfl ?_
        refine J_iinc E 2 1 (fun z => [(3, .int z), (1, .long y31), (0, .ref h0)]) dX7_digest_25 rfl (by decide) (by decide) (fun _ => rfl) (fun x33 e34 => ?_)
        have b35 : Bd x33 1 10 := (Bd.add e34 b22 (Bd.lit 1 1 (by decide)) (by decide)).w _ _ (by decide)
        refine J_goto E 6 dX7_digest_28 (by decide) ?_
        exact J.sub [2, 1, 0] rfl (ih6 y31 x33 (b35.w 0 10 (by decide)) (Mu.step hmu6 e34 b22 (Bd.lit 1 1 (by decide)) (by decide)))
  refine J_ldc2 E wd912 dX7_digest_0 ?_
  refine J_lstore_n E [(1, .long 1759), (0, .ref h0)] dX7_digest_3 rfl (by decide) rfl ?_
  refine J_iconst E 0 dX7_digest_4 (by decide) ?_
  refine J_istore_n E [(3, .int 0), (1, .long 1759), (0, .ref h0)] dX7_digest_5 rfl (by decide) rfl ?_
  exact J.sub [2, 1, 0] rfl (J6 11 1759 0 ((Bd.lit 0 0 (by decide)).w 0 10 (by decide)) (Mu.start _ (Bd.lit 0 0 (by decide)) (by decide)))
