def K_X8_thing_c1 (G : Gm) (w : Mw) (h0 : Nat) (v1 : Mv) (x4 : Int32) : Int32 × Mv :=
  (x4, v1)
def K_X8_thing_19 (G : Gm) (w : Mw) (h0 : Nat) (v : Mv) : Int32 × Mv :=
  K_X8_thing_c1 G w h0 ((F_X8_bad G w v h0).2) ((F_X8_bad G w v h0).1)
def K_X8_thing_c2 (G : Gm) (w : Mw) (h0 : Nat) (v41 : Mv) (x44 : Int32) : Int32 × Mv :=
  (x44, v41)
def K_X8_thing_c3 (G : Gm) (w : Mw) (h0 : Nat) (v52 : Mv) (x55 : Int32) : Int32 × Mv :=
  (x55, v52)
def K_X8_thing_e (G : Gm) (w : Mw) (v : Mv) (h0 : Nat) (x_0 : Int32) (x_1 : Int32) : Int32 × Mv :=
  if (F_X8_in G w v x_0 (0 : Int32) (5 : Int32)) = (0 : Int32) then (K_X8_thing_19 G w h0 v) else (if (F_X8_in G w v x_1 (1 : Int32) (30 : Int32)) = (0 : Int32) then (K_X8_thing_19 G w h0 v) else (if (v (rf G h0 1) (Int32.toNatClampNeg (0 : Int32))) = (7 : Int32) then (K_X8_thing_c3 G w h0 ((F_X8_full G w v h0).2) ((F_X8_full G w v h0).1)) else (K_X8_thing_c2 G w h0 ((F_X8_add_0 G w v h0 x_0 x_1).2) ((F_X8_add_0 G w v h0 x_0 x_1).1))))
def F_X8_thing (G : Gm) (w : Mw) (v : Mv) (h0 : Nat) (x_0 : Int32) (x_1 : Int32) : Int32 × Mv := K_X8_thing_e G w v h0 x_0 x_1
set_option maxRecDepth 100000 in
theorem kx_X8_thing_1 {G : Gm} {w : Mw} {h0 : Nat} {v : Mv} {v1 : Mv} {x4 : Int32} (a0 : x4 = (F_X8_bad G w v h0).1) (a1 : v1 = (F_X8_bad G w v h0).2)  : K_X8_thing_19 G w h0 v = K_X8_thing_c1 G w h0 v1 x4 := by
  subst a1; subst a0; first | rw [K_X8_thing_19] | simp only [K_X8_thing_19]
set_option maxRecDepth 100000 in
theorem kx_X8_thing_2 {G : Gm} {w : Mw} {h0 : Nat} {v1 : Mv} {x4 : Int32}   : K_X8_thing_c1 G w h0 v1 x4 = (x4, v1) := by
  first | rw [K_X8_thing_c1] | simp only [K_X8_thing_c1]
set_option maxRecDepth 100000 in
theorem kx_X8_thing_3 {G : Gm} {w : Mw} {v : Mv} {h0 : Nat} {x_0 : Int32} {x_1 : Int32} {x14 : Int32} (a0 : x14 = F_X8_in G w v x_0 (0 : Int32) (5 : Int32)) (k0 : x14 = (0 : Int32)) : K_X8_thing_e G w v h0 x_0 x_1 = K_X8_thing_19 G w h0 v := by
  subst a0; first | rw [K_X8_thing_e, if_pos k0] | simp only [K_X8_thing_e, if_pos k0]
set_option maxRecDepth 100000 in
theorem kx_X8_thing_4 {G : Gm} {w : Mw} {v : Mv} {h0 : Nat} {x_0 : Int32} {x_1 : Int32} {v41 : Mv} {x44 : Int32} {x14 : Int32} {x27 : Int32} {x35 : Int32} (a0 : x14 = F_X8_in G w v x_0 (0 : Int32) (5 : Int32)) (a1 : x27 = F_X8_in G w v x_1 (1 : Int32) (30 : Int32)) (a2 : x35 = v (rf G h0 1) (Int32.toNatClampNeg (0 : Int32))) (a3 : x44 = (F_X8_add_0 G w v h0 x_0 x_1).1) (a4 : v41 = (F_X8_add_0 G w v h0 x_0 x_1).2) (k0 : ¬ (x14 = (0 : Int32))) (k1 : ¬ (x27 = (0 : Int32))) (k2 : ¬ (x35 = (7 : Int32))) : K_X8_thing_e G w v h0 x_0 x_1 = K_X8_thing_c2 G w h0 v41 x44 := by
  subst a4; subst a3; subst a2; subst a1; subst a0; first | rw [K_X8_thing_e, if_neg k0, if_neg k1, if_neg k2] | simp only [K_X8_thing_e, if_neg k0, if_neg k1, if_neg k2]
set_option maxRecDepth 100000 in
theorem kx_X8_thing_5 {G : Gm} {w : Mw} {h0 : Nat} {v41 : Mv} {x44 : Int32}   : K_X8_thing_c2 G w h0 v41 x44 = (x44, v41) := by
  first | rw [K_X8_thing_c2] | simp only [K_X8_thing_c2]
set_option maxRecDepth 100000 in
theorem kx_X8_thing_6 {G : Gm} {w : Mw} {v : Mv} {h0 : Nat} {x_0 : Int32} {x_1 : Int32} {v52 : Mv} {x55 : Int32} {x14 : Int32} {x27 : Int32} {x35 : Int32} (a0 : x14 = F_X8_in G w v x_0 (0 : Int32) (5 : Int32)) (a1 : x27 = F_X8_in G w v x_1 (1 : Int32) (30 : Int32)) (a2 : x35 = v (rf G h0 1) (Int32.toNatClampNeg (0 : Int32))) (a3 : x55 = (F_X8_full G w v h0).1) (a4 : v52 = (F_X8_full G w v h0).2) (k0 : ¬ (x14 = (0 : Int32))) (k1 : ¬ (x27 = (0 : Int32))) (k2 : x35 = (7 : Int32)) : K_X8_thing_e G w v h0 x_0 x_1 = K_X8_thing_c3 G w h0 v52 x55 := by
  subst a4; subst a3; subst a2; subst a1; subst a0; first | rw [K_X8_thing_e, if_neg k0, if_neg k1, if_pos k2] | simp only [K_X8_thing_e, if_neg k0, if_neg k1, if_pos k2]
set_option maxRecDepth 100000 in
theorem kx_X8_thing_7 {G : Gm} {w : Mw} {h0 : Nat} {v52 : Mv} {x55 : Int32}   : K_X8_thing_c3 G w h0 v52 x55 = (x55, v52) := by
  first | rw [K_X8_thing_c3] | simp only [K_X8_thing_c3]
set_option maxRecDepth 100000 in
theorem kx_X8_thing_8 {G : Gm} {w : Mw} {v : Mv} {h0 : Nat} {x_0 : Int32} {x_1 : Int32} {x14 : Int32} {x27 : Int32} (a0 : x14 = F_X8_in G w v x_0 (0 : Int32) (5 : Int32)) (a1 : x27 = F_X8_in G w v x_1 (1 : Int32) (30 : Int32)) (k0 : ¬ (x14 = (0 : Int32))) (k1 : x27 = (0 : Int32)) : K_X8_thing_e G w v h0 x_0 x_1 = K_X8_thing_19 G w h0 v := by
  subst a1; subst a0; first | rw [K_X8_thing_e, if_neg k0, if_pos k1] | simp only [K_X8_thing_e, if_neg k0, if_pos k1]
abbrev rm_X8_thing : Room := { frames := 1, cells := 0, slots := 0, locals := 24 }
set_option maxHeartbeats 4000000 in
set_option maxRecDepth 100000 in
theorem ct_X8_thing (l : Launch) (D : va_G) (dA : Nat → ClassId) (G : Gm) (v : Mv) (w : Mw) (hOk : Ok G v w) (h0 : Nat) (S0 : S_X8 G h0) (x_0 : Int32) (x_1 : Int32) : CtI l yX8_thing cX8_thing 3 (some .int) rm_X8_thing D dA G [.ref h0, .int x_0, .int x_1] v w (fun r v1 w1 => Ok G v1 w1 ∧ True ∧ True ∧ (w1 = w ∧ (r, v1) = F_X8_thing G w v h0 x_0 x_1) ∧ Fr G [103, 1084] v v1) := by
  refine CtI.of RX8 [(0, .ref h0), (1, .int x_0), (2, .int x_1)] (Nat.le_of_ble_eq_true rfl) rfl (by decide) rfl ?_
  intro p e s m args below meth c E hr
  have J19 : K_X8_thing_19 G w h0 v = F_X8_thing G w v h0 x_0 x_1 → J p l e rm_X8_thing s m args below meth c 0 0 (MQ below (QcI D dA G (fun r v1 w1 => Ok G v1 w1 ∧ True ∧ True ∧ (w1 = w ∧ (r, v1) = F_X8_thing G w v h0 x_0 x_1) ∧ Fr G [103, 1084] v v1)) args s 0 0 (dm G)) D dA G (dm G) s.heap 3 v w [(0, .ref h0)] 19 [] := by
    intro hK
    refine J_aload_n E dX8_thing_19 0 rfl ?_
    refine J_callVI E cal_X8_bad wd999 rfl (S_X8.h S0) [] [] (ct_X8_bad l D dA G v w (hOk) h0 S0) rfl rfl (Nat.le_of_ble_eq_true rfl) ⟨rfl, rfl⟩ ⟨Nat.le_of_ble_eq_true rfl, Nat.le_of_ble_eq_true rfl⟩ dX8_thing_20 (fun x4 v1 w2 p3 => ?_)
    have ew9 : w = w2 := p3.2.2.2.1.1.symm
    subst ew9
    have o5 := p3.1
    have k6 : True := trivial
    have f7 : Fr G [103, 1084] v v1 := Fr.tr Fr.rf (p3.2.2.2.2) (by decide)
    have b8 : Bd x4 (-2) (-2) := p3.2.2.1
    have e9 : x4 = (F_X8_bad G w v h0).1 := congrArg Prod.fst (p3.2.2.2.1).2
    have e10 : v1 = (F_X8_bad G w v h0).2 := congrArg Prod.snd (p3.2.2.2.1).2
    have hK : K_X8_thing_c1 G w h0 v1 x4 = F_X8_thing G w v h0 x_0 x_1 := ((kx_X8_thing_1 (e9) (e10)).symm.trans hK)
    exact J_iret E hr dX8_thing_23 ⟨o5, k6, trivial, ⟨⟨rfl, ((kx_X8_thing_2).symm.trans hK)⟩, f7⟩⟩
  have hK : K_X8_thing_e G w v h0 x_0 x_1 = F_X8_thing G w v h0 x_0 x_1 := rfl
  refine J_iload_n E dX8_thing_0 1 rfl ?_
  refine J_iconst E 0 dX8_thing_1 (by decide) ?_
  refine J_iconst E 5 dX8_thing_2 (by decide) ?_
  refine J_callSI E cal_X8_in wd996 [.int x_0, .int 0, .int 5] [] (ct_X8_in l D dA G v w (hOk) x_0 0 5) rfl rfl (Nat.le_of_ble_eq_true rfl) ⟨rfl, rfl⟩ ⟨Nat.le_of_ble_eq_true rfl, Nat.le_of_ble_eq_true rfl⟩ dX8_thing_3 (fun x14 v11 w12 p13 => ?_)
  rw [p13.1, p13.2.1]
  have b15 : Bd x14 0 1 := p13.2.2.1
  have e16 : x14 = F_X8_in G w v x_0 (0 : Int32) (5 : Int32) := (p13.2.2.2.2.2)
  refine J_if_eq E 19 dX8_thing_6 (by decide) (fun c17 => ?_) (fun c17 => ?_)
  · have b18 : Bd x14 0 0 := Bd.eq_l c17 b15 (Bd.lit 0 0 (by decide)) 0 0 (by decide)
    have g19 : ¬ (0 ≤ x_0 ∧ x_0 ≤ 5) := (p13.2.2.2.2.1).resolve_left (fun h9 => h9 c17)
    exact J.sub [0] rfl (J19 ((kx_X8_thing_3 (e16) (c17)).symm.trans hK))
  · have b20 : Bd x14 1 1 := (Bd.ne_lo c17 b15 (Bd.lit 0 0 (by decide))).w _ _ (by decide)
    have g21 := (p13.2.2.2.1).resolve_left c17
    have b22 : Bd x_0 0 I1 := Bd.le_r g21.1 (Bd.lit 0 0 (by decide)) (Bd.any x_0) 0 (by decide)
    have b23 : Bd x_0 0 5 := Bd.le_l g21.2 b22 (Bd.lit 5 5 (by decide)) 5 (by decide)
    refine J_iload_n E dX8_thing_9 2 rfl ?_
    refine J_iconst E 1 dX8_thing_10 (by decide) ?_
    refine J_bipush E 30 dX8_thing_11 (by decide) ?_
    refine J_callSI E cal_X8_in wd996 [.int x_1, .int 1, .int 30] [] (ct_X8_in l D dA G v w (hOk) x_1 1 30) rfl rfl (Nat.le_of_ble_eq_true rfl) ⟨rfl, rfl⟩ ⟨Nat.le_of_ble_eq_true rfl, Nat.le_of_ble_eq_true rfl⟩ dX8_thing_13 (fun x27 v24 w25 p26 => ?_)
    rw [p26.1, p26.2.1]
    have b28 : Bd x27 0 1 := p26.2.2.1
    have e29 : x27 = F_X8_in G w v x_1 (1 : Int32) (30 : Int32) := (p26.2.2.2.2.2)
    refine J_if_ne E 24 dX8_thing_16 (by decide) (fun c30 => ?_) (fun c30 => ?_)
    · have b31 : Bd x27 1 1 := (Bd.ne_lo c30 b28 (Bd.lit 0 0 (by decide))).w _ _ (by decide)
      have g32 := (p26.2.2.2.1).resolve_left c30
      have b33 : Bd x_1 1 I1 := Bd.le_r g32.1 (Bd.lit 1 1 (by decide)) (Bd.any x_1) 1 (by decide)
      have b34 : Bd x_1 1 30 := Bd.le_l g32.2 b33 (Bd.lit 30 30 (by decide)) 30 (by decide)
      refine J_aload_n E dX8_thing_24 0 rfl ?_
      refine J_getR E in_X8 rfl (S_X8.h S0) 1 (by decide) wd936 rfl dX8_thing_25 ?_
      refine J_iconst E 0 dX8_thing_28 (by decide) ?_
      refine J_iald1 E (S_X8.f1 S0) (Bd.in (Bd.lit 0 0 (by decide)) (by decide)) dX8_thing_29 (fun x35 e36 => ?_)
      have b37 : Bd x35 0 7 := Bd.e (Ok.ld hOk (S_X8.f1 S0) (Bd.lit 0 0 (by decide)) 0 1 0 7 (by decide) (by decide +kernel)) e36
      have e38 : x35 = v (rf G h0 1) 0 := by rw [e36, Bd.ix (Bd.lit 0 0 (by decide)) 0 rfl]
      refine J_bipush E 7 dX8_thing_30 (by decide) ?_
      refine J_icmp_ne E 42 dX8_thing_32 (by decide) (fun c39 => ?_) (fun c39 => ?_)
      · have b40 : Bd x35 0 6 := (Bd.ne_hi c39 b37 (Bd.lit 7 7 (by decide))).w _ _ (by decide)
        refine J_aload_n E dX8_thing_42 0 rfl ?_
        refine J_iconst E 0 dX8_thing_43 (by decide) ?_
        refine J_iload_n E dX8_thing_44 1 rfl ?_
        refine J_iload_n E dX8_thing_45 2 rfl ?_
        refine J_callVI E cal_X8_add wd1007 rfl (S_X8.h S0) [.int 0, .int x_0, .int x_1] [] (ct_X8_add_0 l D dA G v w (hOk) h0 S0 x_0 b23 x_1 b34 x35 (e38) b40) rfl rfl (Nat.le_of_ble_eq_true rfl) ⟨rfl, rfl⟩ ⟨Nat.le_of_ble_eq_true rfl, Nat.le_of_ble_eq_true rfl⟩ dX8_thing_46 (fun x44 v41 w42 p43 => ?_)
        have ew9 : w = w42 := p43.2.2.2.1.1.symm
        subst ew9
        have o45 := p43.1
        have k46 : True := trivial
        have f47 : Fr G [103, 1084] v v41 := Fr.tr Fr.rf (p43.2.2.2.2) (by decide)
        have b48 : Bd x44 0 6 := p43.2.2.1
        have e49 : x44 = (F_X8_add_0 G w v h0 x_0 x_1).1 := congrArg Prod.fst (p43.2.2.2.1).2
        have e50 : v41 = (F_X8_add_0 G w v h0 x_0 x_1).2 := congrArg Prod.snd (p43.2.2.2.1).2
        have hK : K_X8_thing_c2 G w h0 v41 x44 = F_X8_thing G w v h0 x_0 x_1 := ((kx_X8_thing_4 (e16) (e29) (e36) (e49) (e50) (c17) (c30) (c39)).symm.trans hK)
        exact J_iret E hr dX8_thing_49 ⟨o45, k46, trivial, ⟨⟨rfl, ((kx_X8_thing_5).symm.trans hK)⟩, f47⟩⟩
      · have b51 : Bd x35 7 7 := Bd.eq_l c39 b37 (Bd.lit 7 7 (by decide)) 7 7 (by decide)
        refine J_aload_n E dX8_thing_35 0 rfl ?_
        refine J_callVI E cal_X8_full wd1003 rfl (S_X8.h S0) [] [] (ct_X8_full l D dA G v w (hOk) h0 S0) rfl rfl (Nat.le_of_ble_eq_true rfl) ⟨rfl, rfl⟩ ⟨Nat.le_of_ble_eq_true rfl, Nat.le_of_ble_eq_true rfl⟩ dX8_thing_36 (fun x55 v52 w53 p54 => ?_)
        have ew9 : w = w53 := p54.2.2.2.1.1.symm
        subst ew9
        have o56 := p54.1
        have k57 : True := trivial
        have f58 : Fr G [103, 1084] v v52 := Fr.tr Fr.rf (p54.2.2.2.2) (by decide)
        have b59 : Bd x55 (-4) (-4) := p54.2.2.1
        have e60 : x55 = (F_X8_full G w v h0).1 := congrArg Prod.fst (p54.2.2.2.1).2
        have e61 : v52 = (F_X8_full G w v h0).2 := congrArg Prod.snd (p54.2.2.2.1).2
        have hK : K_X8_thing_c3 G w h0 v52 x55 = F_X8_thing G w v h0 x_0 x_1 := ((kx_X8_thing_6 (e16) (e29) (e36) (e60) (e61) (c17) (c30) (c39)).symm.trans hK)
        refine J_goto E 49 dX8_thing_39 (by decide) ?_
        exact J_iret E hr dX8_thing_49 ⟨o56, k57, trivial, ⟨⟨rfl, ((kx_X8_thing_7).symm.trans hK)⟩, f58⟩⟩
    · have b62 : Bd x27 0 0 := Bd.eq_l c30 b28 (Bd.lit 0 0 (by decide)) 0 0 (by decide)
      have g63 : ¬ (1 ≤ x_1 ∧ x_1 ≤ 30) := (p26.2.2.2.2.1).resolve_left (fun h9 => h9 c30)
      exact J.sub [0] rfl (J19 ((kx_X8_thing_8 (e16) (e29) (c17) (c30)).symm.trans hK))

def K_X8_join_0_e (G : Gm) (w : Mw) (v : Mv) (h0 : Nat) (x_1 : Int32) (x_2 : Int32) (x_3 : Int32) : Int32 × Mv :=
  ((v (rf G h0 1) 1), (stv (stv (stv (stv (stv (stv v (rf G h0 1) (Int32.toNatClampNeg (((0 : Int32) + (20 : Int32)) + (v (rf G h0 1) 1))) x_1) (rf G h0 1) (Int32.toNatClampNeg (((0 : Int32) + (27 : Int32)) + (v (rf G h0 1) 1))) x_2) (rf G h0 1) (Int32.toNatClampNeg ((((0 : Int32) + (34 : Int32)) + (2 : Int32)) + (v (rf G h0 1) 1))) x_3) (rf G h0 1) (Int32.toNatClampNeg ((((0 : Int32) + (34 : Int32)) + (9 : Int32)) + (v (rf G h0 1) 1))) (-1 : Int32)) (rf G h0 1) (Int32.toNatClampNeg ((0 : Int32) + (1 : Int32))) ((v (rf G h0 1) 1) + (1 : Int32))) (rf G h0 1) (Int32.toNatClampNeg ((0 : Int32) + (5 : Int32))) (0 : Int32)))
def F_X8_join_0 (G : Gm) (w : Mw) (v : Mv) (h0 : Nat) (x_1 : Int32) (x_2 : Int32) (x_3 : Int32) : Int32 × Mv := K_X8_join_0_e G w v h0 x_1 x_2 x_3
set_option maxRecDepth 100000 in
theorem kx_X8_join_0_1 {G : Gm} {w : Mw} {v : Mv} {h0 : Nat} {x_1 : Int32} {x_2 : Int32} {x_3 : Int32} {z_0 : Int32} {v79 : Mv} {x7 : Int32} {x10 : Int32} {x19 : Int32} {v13 : Mv} {x22 : Int32} {x31 : Int32} {x34 : Int32} {v25 : Mv} {x37 : Int32} {x46 : Int32} {x49 : Int32} {v40 : Mv} {x52 : Int32} {v55 : Mv} {x61 : Int32} {x67 : Int32} {v70 : Mv} {x76 : Int32} (a0 : z_0 = v (rf G h0 1) 1) (a1 : x7 = (0 : Int32) + (20 : Int32)) (a2 : x10 = x7 + z_0) (a3 : v13 = stv v (rf G h0 1) (Int32.toNatClampNeg x10) x_1) (a4 : x19 = (0 : Int32) + (27 : Int32)) (a5 : x22 = x19 + z_0) (a6 : v25 = stv v13 (rf G h0 1) (Int32.toNatClampNeg x22) x_2) (a7 : x31 = (0 : Int32) + (34 : Int32)) (a8 : x34 = x31 + (2 : Int32)) (a9 : x37 = x34 + z_0) (a10 : v40 = stv v25 (rf G h0 1) (Int32.toNatClampNeg x37) x_3) (a11 : x46 = (0 : Int32) + (34 : Int32)) (a12 : x49 = x46 + (9 : Int32)) (a13 : x52 = x49 + z_0) (a14 : v55 = stv v40 (rf G h0 1) (Int32.toNatClampNeg x52) (-1 : Int32)) (a15 : x61 = (0 : Int32) + (1 : Int32)) (a16 : x67 = z_0 + (1 : Int32)) (a17 : v70 = stv v55 (rf G h0 1) (Int32.toNatClampNeg x61) x67) (a18 : x76 = (0 : Int32) + (5 : Int32)) (a19 : v79 = stv v70 (rf G h0 1) (Int32.toNatClampNeg x76) (0 : Int32))  : K_X8_join_0_e G w v h0 x_1 x_2 x_3 = (z_0, v79) := by
  subst a19; subst a18; subst a17; subst a16; subst a15; subst a14; subst a13; subst a12; subst a11; subst a10; subst a9; subst a8; subst a7; subst a6; subst a5; subst a4; subst a3; subst a2; subst a1; subst a0; first | rw [K_X8_join_0_e] | simp only [K_X8_join_0_e]
abbrev rm_X8_join_0 : Room := { frames := 0, cells := 0, slots := 0, locals := 0 }
set_option maxHeartbeats 4000000 in
set_option maxRecDepth 100000 in
theorem ct_X8_join_0 (l : Launch) (D : va_G) (dA : Nat → ClassId) (G : Gm) (v : Mv) (w : Mw) (hOk : Ok G v w) (h0 : Nat) (S0 : S_X8 G h0) (x_1 : Int32) (bx_1 : Bd x_1 0 5) (x_2 : Int32) (bx_2 : Bd x_2 1 9) (x_3 : Int32) (bx_3 : Bd x_3 0 99) (z_0 : Int32) (ez_0 : z_0 = v (rf G h0 1) 1) (pre0 : Bd z_0 0 6) : CtI l yX8_join cX8_join 6 (some .int) rm_X8_join_0 D dA G [.ref h0, .int 0, .int x_1, .int x_2, .int x_3] v w (fun r v1 w1 => Ok G v1 w1 ∧ True ∧ Bd r 0 6 ∧ (w1 = w ∧ (r, v1) = F_X8_join_0 G w v h0 x_1 x_2 x_3) ∧ Fr G [1084] v v1) := by
  refine CtI.of RX8 [(0, .ref h0), (1, .int 0), (2, .int x_1), (3, .int x_2), (4, .int x_3)] (Nat.le_of_ble_eq_true rfl) rfl (by decide) rfl ?_
  intro p e s m args below meth c E hr
  have hK : K_X8_join_0_e G w v h0 x_1 x_2 x_3 = F_X8_join_0 G w v h0 x_1 x_2 x_3 := rfl
  refine J_aload_n E dX8_join_0 0 rfl ?_
  refine J_getR E in_X8 rfl (S_X8.h S0) 1 (by decide) wd936 rfl dX8_join_1 ?_
  refine J_iload_n E dX8_join_4 1 rfl ?_
  refine J_iconst E 1 dX8_join_5 (by decide) ?_
  refine J_iadd E dX8_join_6 (fun x1 e2 => ?_)
  have b3 : Bd x1 1 1 := (Bd.add e2 (Bd.lit 0 0 (by decide)) (Bd.lit 1 1 (by decide)) (by decide)).w _ _ (by decide)
  refine J_iald1 E (S_X8.f1 S0) (Bd.in b3 (by decide)) dX8_join_7 (fun x4 e5 => ?_)
  have b6 : Bd x4 0 7 := Bd.e (Ok.ld hOk (S_X8.f1 S0) b3 1 1 0 7 (by decide) (by decide +kernel)) e5
  have e5q : x4 = z_0 := by rw [e5, Bd.ix b3 1 rfl]; exact (ez_0).symm
  rw [e5q]
  refine J_istore E [(5, .int z_0), (0, .ref h0), (1, .int 0), (2, .int x_1), (3, .int x_2), (4, .int x_3)] dX8_join_8 (by decide) rfl ?_
  refine J_aload_n E dX8_join_10 1 rfl ?_
  refine J_getR E in_X8 rfl (S_X8.h S0) 1 (by decide) wd936 rfl dX8_join_11 ?_
  refine J_iload_n E dX8_join_14 2 rfl ?_
  refine J_bipush E 20 dX8_join_15 (by decide) ?_
  refine J_iadd E dX8_join_17 (fun x7 e8 => ?_)
  have b9 : Bd x7 20 20 := (Bd.add e8 (Bd.lit 0 0 (by decide)) (Bd.lit 20 20 (by decide)) (by decide)).w _ _ (by decide)
  refine J_iload E dX8_join_18 0 rfl ?_
  refine J_iadd E dX8_join_20 (fun x10 e11 => ?_)
  have b12 : Bd x10 20 26 := (Bd.add e11 b9 pre0 (by decide)).w _ _ (by decide)
  refine J_iload_n E dX8_join_21 3 rfl ?_
  refine J_iast1 E (S_X8.f1 S0) (Bd.in b12 (by decide)) dX8_join_22 (fun v13 e14 => ?_)
  have o15 : Ok G v13 w := by rw [e14]; exact Ok.sw hOk (S_X8.f1 S0) b12 bx_1 20 7 (by decide) (by decide +kernel)
  have k16 : True := trivial
  have f17 : Fr G [1084] v v13 := Fr.st Fr.rf e14 (S_X8.f1 S0) rfl
  have e18 : z_0 = v13 (rf G h0 1) 1 := by rw [e14, stv_k (Bd.nix b12 1 (by decide))]; exact ez_0
  refine J_aload_n E dX8_join_23 1 rfl ?_
  refine J_getR E in_X8 rfl (S_X8.h S0) 1 (by decide) wd936 rfl dX8_join_24 ?_
  refine J_iload_n E dX8_join_27 2 rfl ?_
  refine J_bipush E 27 dX8_join_28 (by decide) ?_
  refine J_iadd E dX8_join_30 (fun x19 e20 => ?_)
  have b21 : Bd x19 27 27 := (Bd.add e20 (Bd.lit 0 0 (by decide)) (Bd.lit 27 27 (by decide)) (by decide)).w _ _ (by decide)
  refine J_iload E dX8_join_31 0 rfl ?_
  refine J_iadd E dX8_join_33 (fun x22 e23 => ?_)
  have b24 : Bd x22 27 33 := (Bd.add e23 b21 pre0 (by decide)).w _ _ (by decide)
  refine J_iload_n E dX8_join_34 4 rfl ?_
  refine J_iast1 E (S_X8.f1 S0) (Bd.in b24 (by decide)) dX8_join_35 (fun v25 e26 => ?_)
  have o27 : Ok G v25 w := by rw [e26]; exact Ok.sw o15 (S_X8.f1 S0) b24 bx_2 27 7 (by decide) (by decide +kernel)
  have k28 : True := trivial
  have f29 : Fr G [1084] v v25 := Fr.st f17 e26 (S_X8.f1 S0) rfl
  have e30 : z_0 = v25 (rf G h0 1) 1 := by rw [e26, stv_k (Bd.nix b24 1 (by decide))]; exact e18
  refine J_aload_n E dX8_join_36 1 rfl ?_
  refine J_getR E in_X8 rfl (S_X8.h S0) 1 (by decide) wd936 rfl dX8_join_37 ?_
  refine J_iload_n E dX8_join_40 2 rfl ?_
  refine J_bipush E 34 dX8_join_41 (by decide) ?_
  refine J_iadd E dX8_join_43 (fun x31 e32 => ?_)
  have b33 : Bd x31 34 34 := (Bd.add e32 (Bd.lit 0 0 (by decide)) (Bd.lit 34 34 (by decide)) (by decide)).w _ _ (by decide)
  refine J_iconst E 2 dX8_join_44 (by decide) ?_
  refine J_iadd E dX8_join_45 (fun x34 e35 => ?_)
  have b36 : Bd x34 36 36 := (Bd.add e35 b33 (Bd.lit 2 2 (by decide)) (by decide)).w _ _ (by decide)
  refine J_iload E dX8_join_46 0 rfl ?_
  refine J_iadd E dX8_join_48 (fun x37 e38 => ?_)
  have b39 : Bd x37 36 42 := (Bd.add e38 b36 pre0 (by decide)).w _ _ (by decide)
  refine J_iload E dX8_join_49 5 rfl ?_
  refine J_iast1 E (S_X8.f1 S0) (Bd.in b39 (by decide)) dX8_join_51 (fun v40 e41 => ?_)
  have o42 : Ok G v40 w := by rw [e41]; exact Ok.sw o27 (S_X8.f1 S0) b39 bx_3 36 7 (by decide) (by decide +kernel)
  have k43 : True := trivial
  have f44 : Fr G [1084] v v40 := Fr.st f29 e41 (S_X8.f1 S0) rfl
  have e45 : z_0 = v40 (rf G h0 1) 1 := by rw [e41, stv_k (Bd.nix b39 1 (by decide))]; exact e30
  refine J_aload_n E dX8_join_52 1 rfl ?_
  refine J_getR E in_X8 rfl (S_X8.h S0) 1 (by decide) wd936 rfl dX8_join_53 ?_
  refine J_iload_n E dX8_join_56 2 rfl ?_
  refine J_bipush E 34 dX8_join_57 (by decide) ?_
  refine J_iadd E dX8_join_59 (fun x46 e47 => ?_)
  have b48 : Bd x46 34 34 := (Bd.add e47 (Bd.lit 0 0 (by decide)) (Bd.lit 34 34 (by decide)) (by decide)).w _ _ (by decide)
  refine J_bipush E 9 dX8_join_60 (by decide) ?_
  refine J_iadd E dX8_join_62 (fun x49 e50 => ?_)
  have b51 : Bd x49 43 43 := (Bd.add e50 b48 (Bd.lit 9 9 (by decide)) (by decide)).w _ _ (by decide)
  refine J_iload E dX8_join_63 0 rfl ?_
  refine J_iadd E dX8_join_65 (fun x52 e53 => ?_)
  have b54 : Bd x52 43 49 := (Bd.add e53 b51 pre0 (by decide)).w _ _ (by decide)
  refine J_iconst E (-1) dX8_join_66 (by decide) ?_
  refine J_iast1 E (S_X8.f1 S0) (Bd.in b54 (by decide)) dX8_join_67 (fun v55 e56 => ?_)
  have o57 : Ok G v55 w := by rw [e56]; exact Ok.sw o42 (S_X8.f1 S0) b54 (Bd.lit (-1) (-1) (by decide)) 43 7 (by decide) (by decide +kernel)
  have k58 : True := trivial
  have f59 : Fr G [1084] v v55 := Fr.st f44 e56 (S_X8.f1 S0) rfl
  have e60 : z_0 = v55 (rf G h0 1) 1 := by rw [e56, stv_k (Bd.nix b54 1 (by decide))]; exact e45
  refine J_aload_n E dX8_join_68 1 rfl ?_
  refine J_getR E in_X8 rfl (S_X8.h S0) 1 (by decide) wd936 rfl dX8_join_69 ?_
  refine J_iload_n E dX8_join_72 2 rfl ?_
  refine J_iconst E 1 dX8_join_73 (by decide) ?_
  refine J_iadd E dX8_join_74 (fun x61 e62 => ?_)
  have b63 : Bd x61 1 1 := (Bd.add e62 (Bd.lit 0 0 (by decide)) (Bd.lit 1 1 (by decide)) (by decide)).w _ _ (by decide)
  refine J_dup2 E dX8_join_75 rfl rfl ?_
  refine J_iald1 E (S_X8.f1 S0) (Bd.in b63 (by decide)) dX8_join_76 (fun x64 e65 => ?_)
  have b66 : Bd x64 0 7 := Bd.e (Ok.ld o57 (S_X8.f1 S0) b63 1 1 0 7 (by decide) (by decide +kernel)) e65
  have e65q : x64 = z_0 := by rw [e65, Bd.ix b63 1 rfl]; exact (e60).symm
  rw [e65q]
  refine J_iconst E 1 dX8_join_77 (by decide) ?_
  refine J_iadd E dX8_join_78 (fun x67 e68 => ?_)
  have b69 : Bd x67 1 7 := (Bd.add e68 pre0 (Bd.lit 1 1 (by decide)) (by decide)).w _ _ (by decide)
  refine J_iast1 E (S_X8.f1 S0) (Bd.in b63 (by decide)) dX8_join_79 (fun v70 e71 => ?_)
  have o72 : Ok G v70 w := by rw [e71]; exact Ok.sw o57 (S_X8.f1 S0) b63 b69 1 1 (by decide) (by decide +kernel)
  have k73 : True := trivial
  have f74 : Fr G [1084] v v70 := Fr.st f59 e71 (S_X8.f1 S0) rfl
  have e75 : (x67 : Int32) = v70 (rf G h0 1) 1 := by rw [e71, Bd.ix b63 1 rfl, stv_s]
  refine J_aload_n E dX8_join_80 1 rfl ?_
  refine J_getR E in_X8 rfl (S_X8.h S0) 1 (by decide) wd936 rfl dX8_join_81 ?_
  refine J_iload_n E dX8_join_84 2 rfl ?_
  refine J_iconst E 5 dX8_join_85 (by decide) ?_
  refine J_iadd E dX8_join_86 (fun x76 e77 => ?_)
  have b78 : Bd x76 5 5 := (Bd.add e77 (Bd.lit 0 0 (by decide)) (Bd.lit 5 5 (by decide)) (by decide)).w _ _ (by decide)
  refine J_iconst E 0 dX8_join_87 (by decide) ?_
  refine J_iast1 E (S_X8.f1 S0) (Bd.in b78 (by decide)) dX8_join_88 (fun v79 e80 => ?_)
  have o81 : Ok G v79 w := by rw [e80]; exact Ok.sw o72 (S_X8.f1 S0) b78 (Bd.lit 0 0 (by decide)) 5 1 (by decide) (by decide +kernel)
  have k82 : True := trivial
  have f83 : Fr G [1084] v v79 := Fr.st f74 e80 (S_X8.f1 S0) rfl
  have e84 : x67 = v79 (rf G h0 1) 1 := by rw [e80, stv_k (Bd.nix b78 1 (by decide))]; exact e75
  have e85 : (0 : Int32) = v79 (rf G h0 1) 5 := by rw [e80, Bd.ix b78 5 rfl, stv_s]
  refine J_iload E dX8_join_89 0 rfl ?_
  exact J_iret E hr dX8_join_91 ⟨o81, k82, pre0, ⟨⟨rfl, ((kx_X8_join_0_1 (ez_0) (e8) (e11) (e14) (e20) (e23) (e26) (e32) (e35) (e38) (e41) (e47) (e50) (e53) (e56) (e62) (e68) (e71) (e77) (e80)).symm.trans hK)⟩, f83⟩⟩

def K_X8_join_738_e (G : Gm) (w : Mw) (v : Mv) (h0 : Nat) (x_1 : Int32) (x_2 : Int32) (x_3 : Int32) : Int32 × Mv :=
  ((v (rf G h0 1) 739), (stv (stv (stv (stv (stv (stv v (rf G h0 1) (Int32.toNatClampNeg (((738 : Int32) + (20 : Int32)) + (v (rf G h0 1) 739))) x_1) (rf G h0 1) (Int32.toNatClampNeg (((738 : Int32) + (27 : Int32)) + (v (rf G h0 1) 739))) x_2) (rf G h0 1) (Int32.toNatClampNeg ((((738 : Int32) + (34 : Int32)) + (2 : Int32)) + (v (rf G h0 1) 739))) x_3) (rf G h0 1) (Int32.toNatClampNeg ((((738 : Int32) + (34 : Int32)) + (9 : Int32)) + (v (rf G h0 1) 739))) (-1 : Int32)) (rf G h0 1) (Int32.toNatClampNeg ((738 : Int32) + (1 : Int32))) ((v (rf G h0 1) 739) + (1 : Int32))) (rf G h0 1) (Int32.toNatClampNeg ((738 : Int32) + (5 : Int32))) (0 : Int32)))
def F_X8_join_738 (G : Gm) (w : Mw) (v : Mv) (h0 : Nat) (x_1 : Int32) (x_2 : Int32) (x_3 : Int32) : Int32 × Mv := K_X8_join_738_e G w v h0 x_1 x_2 x_3
set_option maxRecDepth 100000 in
theorem kx_X8_join_738_1 {G : Gm} {w : Mw} {v : Mv} {h0 : Nat} {x_1 : Int32} {x_2 : Int32} {x_3 : Int32} {z_0 : Int32} {v79 : Mv} {x7 : Int32} {x10 : Int32} {x19 : Int32} {v13 : Mv} {x22 : Int32} {x31 : Int32} {x34 : Int32} {v25 : Mv} {x37 : Int32} {x46 : Int32} {x49 : Int32} {v40 : Mv} {x52 : Int32} {v55 : Mv} {x61 : Int32} {x67 : Int32} {v70 : Mv} {x76 : Int32} (a0 : z_0 = v (rf G h0 1) 739) (a1 : x7 = (738 : Int32) + (20 : Int32)) (a2 : x10 = x7 + z_0) (a3 : v13 = stv v (rf G h0 1) (Int32.toNatClampNeg x10) x_1) (a4 : x19 = (738 : Int32) + (27 : Int32)) (a5 : x22 = x19 + z_0) (a6 : v25 = stv v13 (rf G h0 1) (Int32.toNatClampNeg x22) x_2) (a7 : x31 = (738 : Int32) + (34 : Int32)) (a8 : x34 = x31 + (2 : Int32)) (a9 : x37 = x34 + z_0) (a10 : v40 = stv v25 (rf G h0 1) (Int32.toNatClampNeg x37) x_3) (a11 : x46 = (738 : Int32) + (34 : Int32)) (a12 : x49 = x46 + (9 : Int32)) (a13 : x52 = x49 + z_0) (a14 : v55 = stv v40 (rf G h0 1) (Int32.toNatClampNeg x52) (-1 : Int32)) (a15 : x61 = (738 : Int32) + (1 : Int32)) (a16 : x67 = z_0 + (1 : Int32)) (a17 : v70 = stv v55 (rf G h0 1) (Int32.toNatClampNeg x61) x67) (a18 : x76 = (738 : Int32) + (5 : Int32)) (a19 : v79 = stv v70 (rf G h0 1) (Int32.toNatClampNeg x76) (0 : Int32))  : K_X8_join_738_e G w v h0 x_1 x_2 x_3 = (z_0, v79) := by
  subst a19; subst a18; subst a17; subst a16; subst a15; subst a14; subst a13; subst a12; subst a11; subst a10; subst a9; subst a8; subst a7; subst a6; subst a5; subst a4; subst a3; subst a2; subst a1; subst a0; first | rw [K_X8_join_738_e] | simp only [K_X8_join_738_e]
abbrev rm_X8_join_738 : Room := { frames := 0, cells := 0, slots := 0, locals := 0 }
set_option maxHeartbeats 4000000 in
set_option maxRecDepth 100000 in
theorem ct_X8_join_738 (l : Launch) (D : va_G) (dA : Nat → ClassId) (G : Gm) (v : Mv) (w : Mw) (hOk : Ok G v w) (h0 : Nat) (S0 : S_X8 G h0) (x_1 : Int32) (bx_1 : Bd x_1 0 999) (x_2 : Int32) (bx_2 : Bd x_2 0 999) (x_3 : Int32) (bx_3 : Bd x_3 0 999) (z_0 : Int32) (ez_0 : z_0 = v (rf G h0 1) 739) (pre0 : Bd z_0 0 6) : CtI l yX8_join cX8_join 6 (some .int) rm_X8_join_738 D dA G [.ref h0, .int 738, .int x_1, .int x_2, .int x_3] v w (fun r v1 w1 => Ok G v1 w1 ∧ True ∧ Bd r 0 6 ∧ (w1 = w ∧ (r, v1) = F_X8_join_738 G w v h0 x_1 x_2 x_3) ∧ Fr G [1084] v v1) := by
  refine CtI.of RX8 [(0, .ref h0), (1, .int 738), (2, .int x_1), (3, .int x_2), (4, .int x_3)] (Nat.le_of_ble_eq_true rfl) rfl (by decide) rfl ?_
  intro p e s m args below meth c E hr
  have hK : K_X8_join_738_e G w v h0 x_1 x_2 x_3 = F_X8_join_738 G w v h0 x_1 x_2 x_3 := rfl
  refine J_aload_n E dX8_join_0 0 rfl ?_
  refine J_getR E in_X8 rfl (S_X8.h S0) 1 (by decide) wd936 rfl dX8_join_1 ?_
  refine J_iload_n E dX8_join_4 1 rfl ?_
  refine J_iconst E 1 dX8_join_5 (by decide) ?_
  refine J_iadd E dX8_join_6 (fun x1 e2 => ?_)
  have b3 : Bd x1 739 739 := (Bd.add e2 (Bd.lit 738 738 (by decide)) (Bd.lit 1 1 (by decide)) (by decide)).w _ _ (by decide)
  refine J_iald1 E (S_X8.f1 S0) (Bd.in b3 (by decide)) dX8_join_7 (fun x4 e5 => ?_)
  have b6 : Bd x4 0 7 := Bd.e (Ok.ld hOk (S_X8.f1 S0) b3 739 1 0 7 (by decide) (by decide +kernel)) e5
  have e5q : x4 = z_0 := by rw [e5, Bd.ix b3 739 rfl]; exact (ez_0).symm
  rw [e5q]
  refine J_istore E [(5, .int z_0), (0, .ref h0), (1, .int 738), (2, .int x_1), (3, .int x_2), (4, .int x_3)] dX8_join_8 (by decide) rfl ?_
  refine J_aload_n E dX8_join_10 1 rfl ?_
  refine J_getR E in_X8 rfl (S_X8.h S0) 1 (by decide) wd936 rfl dX8_join_11 ?_
  refine J_iload_n E dX8_join_14 2 rfl ?_
  refine J_bipush E 20 dX8_join_15 (by decide) ?_
  refine J_iadd E dX8_join_17 (fun x7 e8 => ?_)
  have b9 : Bd x7 758 758 := (Bd.add e8 (Bd.lit 738 738 (by decide)) (Bd.lit 20 20 (by decide)) (by decide)).w _ _ (by decide)
  refine J_iload E dX8_join_18 0 rfl ?_
  refine J_iadd E dX8_join_20 (fun x10 e11 => ?_)
  have b12 : Bd x10 758 764 := (Bd.add e11 b9 pre0 (by decide)).w _ _ (by decide)
  refine J_iload_n E dX8_join_21 3 rfl ?_
  refine J_iast1 E (S_X8.f1 S0) (Bd.in b12 (by decide)) dX8_join_22 (fun v13 e14 => ?_)
  have o15 : Ok G v13 w := by rw [e14]; exact Ok.sw hOk (S_X8.f1 S0) b12 bx_1 758 7 (by decide) (by decide +kernel)
  have k16 : True := trivial
  have f17 : Fr G [1084] v v13 := Fr.st Fr.rf e14 (S_X8.f1 S0) rfl
  have e18 : z_0 = v13 (rf G h0 1) 739 := by rw [e14, stv_k (Bd.nix b12 739 (by decide))]; exact ez_0
  refine J_aload_n E dX8_join_23 1 rfl ?_
  refine J_getR E in_X8 rfl (S_X8.h S0) 1 (by decide) wd936 rfl dX8_join_24 ?_
  refine J_iload_n E dX8_join_27 2 rfl ?_
  refine J_bipush E 27 dX8_join_28 (by decide) ?_
  refine J_iadd E dX8_join_30 (fun x19 e20 => ?_)
  have b21 : Bd x19 765 765 := (Bd.add e20 (Bd.lit 738 738 (by decide)) (Bd.lit 27 27 (by decide)) (by decide)).w _ _ (by decide)
  refine J_iload E dX8_join_31 0 rfl ?_
  refine J_iadd E dX8_join_33 (fun x22 e23 => ?_)
  have b24 : Bd x22 765 771 := (Bd.add e23 b21 pre0 (by decide)).w _ _ (by decide)
  refine J_iload_n E dX8_join_34 4 rfl ?_
  refine J_iast1 E (S_X8.f1 S0) (Bd.in b24 (by decide)) dX8_join_35 (fun v25 e26 => ?_)
  have o27 : Ok G v25 w := by rw [e26]; exact Ok.sw o15 (S_X8.f1 S0) b24 bx_2 765 7 (by decide) (by decide +kernel)
  have k28 : True := trivial
  have f29 : Fr G [1084] v v25 := Fr.st f17 e26 (S_X8.f1 S0) rfl
  have e30 : z_0 = v25 (rf G h0 1) 739 := by rw [e26, stv_k (Bd.nix b24 739 (by decide))]; exact e18
  refine J_aload_n E dX8_join_36 1 rfl ?_
  refine J_getR E in_X8 rfl (S_X8.h S0) 1 (by decide) wd936 rfl dX8_join_37 ?_
  refine J_iload_n E dX8_join_40 2 rfl ?_
  refine J_bipush E 34 dX8_join_41 (by decide) ?_
  refine J_iadd E dX8_join_43 (fun x31 e32 => ?_)
  have b33 : Bd x31 772 772 := (Bd.add e32 (Bd.lit 738 738 (by decide)) (Bd.lit 34 34 (by decide)) (by decide)).w _ _ (by decide)
  refine J_iconst E 2 dX8_join_44 (by decide) ?_
  refine J_iadd E dX8_join_45 (fun x34 e35 => ?_)
  have b36 : Bd x34 774 774 := (Bd.add e35 b33 (Bd.lit 2 2 (by decide)) (by decide)).w _ _ (by decide)
  refine J_iload E dX8_join_46 0 rfl ?_
  refine J_iadd E dX8_join_48 (fun x37 e38 => ?_)
  have b39 : Bd x37 774 780 := (Bd.add e38 b36 pre0 (by decide)).w _ _ (by decide)
  refine J_iload E dX8_join_49 5 rfl ?_
  refine J_iast1 E (S_X8.f1 S0) (Bd.in b39 (by decide)) dX8_join_51 (fun v40 e41 => ?_)
  have o42 : Ok G v40 w := by rw [e41]; exact Ok.sw o27 (S_X8.f1 S0) b39 bx_3 774 7 (by decide) (by decide +kernel)
  have k43 : True := trivial
  have f44 : Fr G [1084] v v40 := Fr.st f29 e41 (S_X8.f1 S0) rfl
  have e45 : z_0 = v40 (rf G h0 1) 739 := by rw [e41, stv_k (Bd.nix b39 739 (by decide))]; exact e30
  refine J_aload_n E dX8_join_52 1 rfl ?_
  refine J_getR E in_X8 rfl (S_X8.h S0) 1 (by decide) wd936 rfl dX8_join_53 ?_
  refine J_iload_n E dX8_join_56 2 rfl ?_
  refine J_bipush E 34 dX8_join_57 (by decide) ?_
  refine J_iadd E dX8_join_59 (fun x46 e47 => ?_)
  have b48 : Bd x46 772 772 := (Bd.add e47 (Bd.lit 738 738 (by decide)) (Bd.lit 34 34 (by decide)) (by decide)).w _ _ (by decide)
  refine J_bipush E 9 dX8_join_60 (by decide) ?_
  refine J_iadd E dX8_join_62 (fun x49 e50 => ?_)
  have b51 : Bd x49 781 781 := (Bd.add e50 b48 (Bd.lit 9 9 (by decide)) (by decide)).w _ _ (by decide)
  refine J_iload E dX8_join_63 0 rfl ?_
  refine J_iadd E dX8_join_65 (fun x52 e53 => ?_)
  have b54 : Bd x52 781 787 := (Bd.add e53 b51 pre0 (by decide)).w _ _ (by decide)
  refine J_iconst E (-1) dX8_join_66 (by decide) ?_
  refine J_iast1 E (S_X8.f1 S0) (Bd.in b54 (by decide)) dX8_join_67 (fun v55 e56 => ?_)
  have o57 : Ok G v55 w := by rw [e56]; exact Ok.sw o42 (S_X8.f1 S0) b54 (Bd.lit (-1) (-1) (by decide)) 781 7 (by decide) (by decide +kernel)
  have k58 : True := trivial
  have f59 : Fr G [1084] v v55 := Fr.st f44 e56 (S_X8.f1 S0) rfl
  have e60 : z_0 = v55 (rf G h0 1) 739 := by rw [e56, stv_k (Bd.nix b54 739 (by decide))]; exact e45
  refine J_aload_n E dX8_join_68 1 rfl ?_
  refine J_getR E in_X8 rfl (S_X8.h S0) 1 (by decide) wd936 rfl dX8_join_69 ?_
  refine J_iload_n E dX8_join_72 2 rfl ?_
  refine J_iconst E 1 dX8_join_73 (by decide) ?_
  refine J_iadd E dX8_join_74 (fun x61 e62 => ?_)
  have b63 : Bd x61 739 739 := (Bd.add e62 (Bd.lit 738 738 (by decide)) (Bd.lit 1 1 (by decide)) (by decide)).w _ _ (by decide)
  refine J_dup2 E dX8_join_75 rfl rfl ?_
  refine J_iald1 E (S_X8.f1 S0) (Bd.in b63 (by decide)) dX8_join_76 (fun x64 e65 => ?_)
  have b66 : Bd x64 0 7 := Bd.e (Ok.ld o57 (S_X8.f1 S0) b63 739 1 0 7 (by decide) (by decide +kernel)) e65
  have e65q : x64 = z_0 := by rw [e65, Bd.ix b63 739 rfl]; exact (e60).symm
  rw [e65q]
  refine J_iconst E 1 dX8_join_77 (by decide) ?_
  refine J_iadd E dX8_join_78 (fun x67 e68 => ?_)
  have b69 : Bd x67 1 7 := (Bd.add e68 pre0 (Bd.lit 1 1 (by decide)) (by decide)).w _ _ (by decide)
  refine J_iast1 E (S_X8.f1 S0) (Bd.in b63 (by decide)) dX8_join_79 (fun v70 e71 => ?_)
  have o72 : Ok G v70 w := by rw [e71]; exact Ok.sw o57 (S_X8.f1 S0) b63 b69 739 1 (by decide) (by decide +kernel)
  have k73 : True := trivial
  have f74 : Fr G [1084] v v70 := Fr.st f59 e71 (S_X8.f1 S0) rfl
  have e75 : (x67 : Int32) = v70 (rf G h0 1) 739 := by rw [e71, Bd.ix b63 739 rfl, stv_s]
  refine J_aload_n E dX8_join_80 1 rfl ?_
  refine J_getR E in_X8 rfl (S_X8.h S0) 1 (by decide) wd936 rfl dX8_join_81 ?_
  refine J_iload_n E dX8_join_84 2 rfl ?_
  refine J_iconst E 5 dX8_join_85 (by decide) ?_
  refine J_iadd E dX8_join_86 (fun x76 e77 => ?_)
  have b78 : Bd x76 743 743 := (Bd.add e77 (Bd.lit 738 738 (by decide)) (Bd.lit 5 5 (by decide)) (by decide)).w _ _ (by decide)
  refine J_iconst E 0 dX8_join_87 (by decide) ?_
  refine J_iast1 E (S_X8.f1 S0) (Bd.in b78 (by decide)) dX8_join_88 (fun v79 e80 => ?_)
  have o81 : Ok G v79 w := by rw [e80]; exact Ok.sw o72 (S_X8.f1 S0) b78 (Bd.lit 0 0 (by decide)) 743 1 (by decide) (by decide +kernel)
  have k82 : True := trivial
  have f83 : Fr G [1084] v v79 := Fr.st f74 e80 (S_X8.f1 S0) rfl
  have e84 : x67 = v79 (rf G h0 1) 739 := by rw [e80, stv_k (Bd.nix b78 739 (by decide))]; exact e75
  have e85 : (0 : Int32) = v79 (rf G h0 1) 743 := by rw [e80, Bd.ix b78 743 rfl, stv_s]
  refine J_iload E dX8_join_89 0 rfl ?_
  exact J_iret E hr dX8_join_91 ⟨o81, k82, pre0, ⟨⟨rfl, ((kx_X8_join_738_1 (ez_0) (e8) (e11) (e14) (e20) (e23) (e26) (e32) (e35) (e38) (e41) (e47) (e50) (e53) (e56) (e62) (e68) (e71) (e77) (e80)).symm.trans hK)⟩, f83⟩⟩

def K_X8_one_c1 (G : Gm) (w : Mw) (h0 : Nat) (v1 : Mv) (x4 : Int32) : Int32 × Mv :=
  (x4, v1)
def K_X8_one_29 (G : Gm) (w : Mw) (h0 : Nat) (v : Mv) : Int32 × Mv :=
  K_X8_one_c1 G w h0 ((F_X8_bad G w v h0).2) ((F_X8_bad G w v h0).1)
def K_X8_one_c2 (G : Gm) (w : Mw) (h0 : Nat) (v54 : Mv) (x57 : Int32) : Int32 × Mv :=
  (x57, v54)
def K_X8_one_c3 (G : Gm) (w : Mw) (h0 : Nat) (v65 : Mv) (x68 : Int32) : Int32 × Mv :=
  (x68, v65)
def K_X8_one_e (G : Gm) (w : Mw) (v : Mv) (h0 : Nat) (x_0 : Int32) (x_1 : Int32) (x_2 : Int32) : Int32 × Mv :=
  if (F_X8_in G w v x_0 (0 : Int32) (5 : Int32)) = (0 : Int32) then (K_X8_one_29 G w h0 v) else (if (F_X8_in G w v x_1 (1 : Int32) (9 : Int32)) = (0 : Int32) then (K_X8_one_29 G w h0 v) else (if (F_X8_in G w v x_2 (0 : Int32) (99 : Int32)) = (0 : Int32) then (K_X8_one_29 G w h0 v) else (if (v (rf G h0 1) (Int32.toNatClampNeg (1 : Int32))) = (7 : Int32) then (K_X8_one_c3 G w h0 ((F_X8_full G w v h0).2) ((F_X8_full G w v h0).1)) else (K_X8_one_c2 G w h0 ((F_X8_join_0 G w v h0 x_0 x_1 x_2).2) ((F_X8_join_0 G w v h0 x_0 x_1 x_2).1)))))
def F_X8_one (G : Gm) (w : Mw) (v : Mv) (h0 : Nat) (x_0 : Int32) (x_1 : Int32) (x_2 : Int32) : Int32 × Mv := K_X8_one_e G w v h0 x_0 x_1 x_2
set_option maxRecDepth 100000 in
theorem kx_X8_one_1 {G : Gm} {w : Mw} {h0 : Nat} {v : Mv} {v1 : Mv} {x4 : Int32} (a0 : x4 = (F_X8_bad G w v h0).1) (a1 : v1 = (F_X8_bad G w v h0).2)  : K_X8_one_29 G w h0 v = K_X8_one_c1 G w h0 v1 x4 := by
  subst a1; subst a0; first | rw [K_X8_one_29] | simp only [K_X8_one_29]
set_option maxRecDepth 100000 in
theorem kx_X8_one_2 {G : Gm} {w : Mw} {h0 : Nat} {v1 : Mv} {x4 : Int32}   : K_X8_one_c1 G w h0 v1 x4 = (x4, v1) := by
  first | rw [K_X8_one_c1] | simp only [K_X8_one_c1]
set_option maxRecDepth 100000 in
theorem kx_X8_one_3 {G : Gm} {w : Mw} {v : Mv} {h0 : Nat} {x_0 : Int32} {x_1 : Int32} {x_2 : Int32} {x14 : Int32} (a0 : x14 = F_X8_in G w v x_0 (0 : Int32) (5 : Int32)) (k0 : x14 = (0 : Int32)) : K_X8_one_e G w v h0 x_0 x_1 x_2 = K_X8_one_29 G w h0 v := by
  subst a0; first | rw [K_X8_one_e, if_pos k0] | simp only [K_X8_one_e, if_pos k0]
set_option maxRecDepth 100000 in
theorem kx_X8_one_4 {G : Gm} {w : Mw} {v : Mv} {h0 : Nat} {x_0 : Int32} {x_1 : Int32} {x_2 : Int32} {x14 : Int32} {x27 : Int32} (a0 : x14 = F_X8_in G w v x_0 (0 : Int32) (5 : Int32)) (a1 : x27 = F_X8_in G w v x_1 (1 : Int32) (9 : Int32)) (k0 : ¬ (x14 = (0 : Int32))) (k1 : x27 = (0 : Int32)) : K_X8_one_e G w v h0 x_0 x_1 x_2 = K_X8_one_29 G w h0 v := by
  subst a1; subst a0; first | rw [K_X8_one_e, if_neg k0, if_pos k1] | simp only [K_X8_one_e, if_neg k0, if_pos k1]
set_option maxRecDepth 100000 in
theorem kx_X8_one_5 {G : Gm} {w : Mw} {v : Mv} {h0 : Nat} {x_0 : Int32} {x_1 : Int32} {x_2 : Int32} {v54 : Mv} {x57 : Int32} {x14 : Int32} {x27 : Int32} {x40 : Int32} {x48 : Int32} (a0 : x14 = F_X8_in G w v x_0 (0 : Int32) (5 : Int32)) (a1 : x27 = F_X8_in G w v x_1 (1 : Int32) (9 : Int32)) (a2 : x40 = F_X8_in G w v x_2 (0 : Int32) (99 : Int32)) (a3 : x48 = v (rf G h0 1) (Int32.toNatClampNeg (1 : Int32))) (a4 : x57 = (F_X8_join_0 G w v h0 x_0 x_1 x_2).1) (a5 : v54 = (F_X8_join_0 G w v h0 x_0 x_1 x_2).2) (k0 : ¬ (x14 = (0 : Int32))) (k1 : ¬ (x27 = (0 : Int32))) (k2 : ¬ (x40 = (0 : Int32))) (k3 : ¬ (x48 = (7 : Int32))) : K_X8_one_e G w v h0 x_0 x_1 x_2 = K_X8_one_c2 G w h0 v54 x57 := by
  subst a5; subst a4; subst a3; subst a2; subst a1; subst a0; first | rw [K_X8_one_e, if_neg k0, if_neg k1, if_neg k2, if_neg k3] | simp only [K_X8_one_e, if_neg k0, if_neg k1, if_neg k2, if_neg k3]
set_option maxRecDepth 100000 in
theorem kx_X8_one_6 {G : Gm} {w : Mw} {h0 : Nat} {v54 : Mv} {x57 : Int32}   : K_X8_one_c2 G w h0 v54 x57 = (x57, v54) := by
  first | rw [K_X8_one_c2] | simp only [K_X8_one_c2]
set_option maxRecDepth 100000 in
theorem kx_X8_one_7 {G : Gm} {w : Mw} {v : Mv} {h0 : Nat} {x_0 : Int32} {x_1 : Int32} {x_2 : Int32} {v65 : Mv} {x68 : Int32} {x14 : Int32} {x27 : Int32} {x40 : Int32} {x48 : Int32} (a0 : x14 = F_X8_in G w v x_0 (0 : Int32) (5 : Int32)) (a1 : x27 = F_X8_in G w v x_1 (1 : Int32) (9 : Int32)) (a2 : x40 = F_X8_in G w v x_2 (0 : Int32) (99 : Int32)) (a3 : x48 = v (rf G h0 1) (Int32.toNatClampNeg (1 : Int32))) (a4 : x68 = (F_X8_full G w v h0).1) (a5 : v65 = (F_X8_full G w v h0).2) (k0 : ¬ (x14 = (0 : Int32))) (k1 : ¬ (x27 = (0 : Int32))) (k2 : ¬ (x40 = (0 : Int32))) (k3 : x48 = (7 : Int32)) : K_X8_one_e G w v h0 x_0 x_1 x_2 = K_X8_one_c3 G w h0 v65 x68 := by
  subst a5; subst a4; subst a3; subst a2; subst a1; subst a0; first | rw [K_X8_one_e, if_neg k0, if_neg k1, if_neg k2, if_pos k3] | simp only [K_X8_one_e, if_neg k0, if_neg k1, if_neg k2, if_pos k3]
set_option maxRecDepth 100000 in
theorem kx_X8_one_8 {G : Gm} {w : Mw} {h0 : Nat} {v65 : Mv} {x68 : Int32}   : K_X8_one_c3 G w h0 v65 x68 = (x68, v65) := by
  first | rw [K_X8_one_c3] | simp only [K_X8_one_c3]
set_option maxRecDepth 100000 in
theorem kx_X8_one_9 {G : Gm} {w : Mw} {v : Mv} {h0 : Nat} {x_0 : Int32} {x_1 : Int32} {x_2 : Int32} {x14 : Int32} {x27 : Int32} {x40 : Int32} (a0 : x14 = F_X8_in G w v x_0 (0 : Int32) (5 : Int32)) (a1 : x27 = F_X8_in G w v x_1 (1 : Int32) (9 : Int32)) (a2 : x40 = F_X8_in G w v x_2 (0 : Int32) (99 : Int32)) (k0 : ¬ (x14 = (0 : Int32))) (k1 : ¬ (x27 = (0 : Int32))) (k2 : x40 = (0 : Int32)) : K_X8_one_e G w v h0 x_0 x_1 x_2 = K_X8_one_29 G w h0 v := by
  subst a2; subst a1; subst a0; first | rw [K_X8_one_e, if_neg k0, if_neg k1, if_pos k2] | simp only [K_X8_one_e, if_neg k0, if_neg k1, if_pos k2]
abbrev rm_X8_one : Room := { frames := 1, cells := 0, slots := 0, locals := 25 }
set_option maxHeartbeats 4000000 in
set_option maxRecDepth 100000 in
theorem ct_X8_one (l : Launch) (D : va_G) (dA : Nat → ClassId) (G : Gm) (v : Mv) (w : Mw) (hOk : Ok G v w) (h0 : Nat) (S0 : S_X8 G h0) (x_0 : Int32) (x_1 : Int32) (x_2 : Int32) : CtI l yX8_one cX8_one 4 (some .int) rm_X8_one D dA G [.ref h0, .int x_0, .int x_1, .int x_2] v w (fun r v1 w1 => Ok G v1 w1 ∧ True ∧ True ∧ (w1 = w ∧ (r, v1) = F_X8_one G w v h0 x_0 x_1 x_2) ∧ Fr G [103, 1084] v v1) := by
  refine CtI.of RX8 [(0, .ref h0), (1, .int x_0), (2, .int x_1), (3, .int x_2)] (Nat.le_of_ble_eq_true rfl) rfl (by decide) rfl ?_
  intro p e s m args below meth c E hr
  have J29 : K_X8_one_29 G w h0 v = F_X8_one G w v h0 x_0 x_1 x_2 → J p l e rm_X8_one s m args below meth c 0 0 (MQ below (QcI D dA G (fun r v1 w1 => Ok G v1 w1 ∧ True ∧ True ∧ (w1 = w ∧ (r, v1) = F_X8_one G w v h0 x_0 x_1 x_2) ∧ Fr G [103, 1084] v v1)) args s 0 0 (dm G)) D dA G (dm G) s.heap 4 v w [(0, .ref h0)] 29 [] := by
    intro hK
    refine J_aload_n E dX8_one_29 0 rfl ?_
    refine J_callVI E cal_X8_bad wd999 rfl (S_X8.h S0) [] [] (ct_X8_bad l D dA G v w (hOk) h0 S0) rfl rfl (Nat.le_of_ble_eq_true rfl) ⟨rfl, rfl⟩ ⟨Nat.le_of_ble_eq_true rfl, Nat.le_of_ble_eq_true rfl⟩ dX8_one_30 (fun x4 v1 w2 p3 => ?_)
    have ew9 : w = w2 := p3.2.2.2.1.1.symm
    subst ew9
    have o5 := p3.1
    have k6 : True := trivial
    have f7 : Fr G [103, 1084] v v1 := Fr.tr Fr.rf (p3.2.2.2.2) (by decide)
    have b8 : Bd x4 (-2) (-2) := p3.2.2.1
    have e9 : x4 = (F_X8_bad G w v h0).1 := congrArg Prod.fst (p3.2.2.2.1).2
    have e10 : v1 = (F_X8_bad G w v h0).2 := congrArg Prod.snd (p3.2.2.2.1).2
    have hK : K_X8_one_c1 G w h0 v1 x4 = F_X8_one G w v h0 x_0 x_1 x_2 := ((kx_X8_one_1 (e9) (e10)).symm.trans hK)
    exact J_iret E hr dX8_one_33 ⟨o5, k6, trivial, ⟨⟨rfl, ((kx_X8_one_2).symm.trans hK)⟩, f7⟩⟩
  have hK : K_X8_one_e G w v h0 x_0 x_1 x_2 = F_X8_one G w v h0 x_0 x_1 x_2 := rfl
  refine J_iload_n E dX8_one_0 1 rfl ?_
  refine J_iconst E 0 dX8_one_1 (by decide) ?_
  refine J_iconst E 5 dX8_one_2 (by decide) ?_
  refine J_callSI E cal_X8_in wd996 [.int x_0, .int 0, .int 5] [] (ct_X8_in l D dA G v w (hOk) x_0 0 5) rfl rfl (Nat.le_of_ble_eq_true rfl) ⟨rfl, rfl⟩ ⟨Nat.le_of_ble_eq_true rfl, Nat.le_of_ble_eq_true rfl⟩ dX8_one_3 (fun x14 v11 w12 p13 => ?_)
  rw [p13.1, p13.2.1]
  have b15 : Bd x14 0 1 := p13.2.2.1
  have e16 : x14 = F_X8_in G w v x_0 (0 : Int32) (5 : Int32) := (p13.2.2.2.2.2)
  refine J_if_eq E 29 dX8_one_6 (by decide) (fun c17 => ?_) (fun c17 => ?_)
  · have b18 : Bd x14 0 0 := Bd.eq_l c17 b15 (Bd.lit 0 0 (by decide)) 0 0 (by decide)
    have g19 : ¬ (0 ≤ x_0 ∧ x_0 ≤ 5) := (p13.2.2.2.2.1).resolve_left (fun h9 => h9 c17)
    exact J.sub [0] rfl (J29 ((kx_X8_one_3 (e16) (c17)).symm.trans hK))
  · have b20 : Bd x14 1 1 := (Bd.ne_lo c17 b15 (Bd.lit 0 0 (by decide))).w _ _ (by decide)
    have g21 := (p13.2.2.2.1).resolve_left c17
    have b22 : Bd x_0 0 I1 := Bd.le_r g21.1 (Bd.lit 0 0 (by decide)) (Bd.any x_0) 0 (by decide)
    have b23 : Bd x_0 0 5 := Bd.le_l g21.2 b22 (Bd.lit 5 5 (by decide)) 5 (by decide)
    refine J_iload_n E dX8_one_9 2 rfl ?_
    refine J_iconst E 1 dX8_one_10 (by decide) ?_
    refine J_bipush E 9 dX8_one_11 (by decide) ?_
    refine J_callSI E cal_X8_in wd996 [.int x_1, .int 1, .int 9] [] (ct_X8_in l D dA G v w (hOk) x_1 1 9) rfl rfl (Nat.le_of_ble_eq_true rfl) ⟨rfl, rfl⟩ ⟨Nat.le_of_ble_eq_true rfl, Nat.le_of_ble_eq_true rfl⟩ dX8_one_13 (fun x27 v24 w25 p26 => ?_)
    rw [p26.1, p26.2.1]
    have b28 : Bd x27 0 1 := p26.2.2.1
    have e29 : x27 = F_X8_in G w v x_1 (1 : Int32) (9 : Int32) := (p26.2.2.2.2.2)
    refine J_if_eq E 29 dX8_one_16 (by decide) (fun c30 => ?_) (fun c30 => ?_)
    · have b31 : Bd x27 0 0 := Bd.eq_l c30 b28 (Bd.lit 0 0 (by decide)) 0 0 (by decide)
      have g32 : ¬ (1 ≤ x_1 ∧ x_1 ≤ 9) := (p26.2.2.2.2.1).resolve_left (fun h9 => h9 c30)
      exact J.sub [0] rfl (J29 ((kx_X8_one_4 (e16) (e29) (c17) (c30)).symm.trans hK))
    · have b33 : Bd x27 1 1 := (Bd.ne_lo c30 b28 (Bd.lit 0 0 (by decide))).w _ _ (by decide)
      have g34 := (p26.2.2.2.1).resolve_left c30
      have b35 : Bd x_1 1 I1 := Bd.le_r g34.1 (Bd.lit 1 1 (by decide)) (Bd.any x_1) 1 (by decide)
      have b36 : Bd x_1 1 9 := Bd.le_l g34.2 b35 (Bd.lit 9 9 (by decide)) 9 (by decide)
      refine J_iload_n E dX8_one_19 3 rfl ?_
      refine J_iconst E 0 dX8_one_20 (by decide) ?_
      refine J_bipush E 99 dX8_one_21 (by decide) ?_
      refine J_callSI E cal_X8_in wd996 [.int x_2, .int 0, .int 99] [] (ct_X8_in l D dA G v w (hOk) x_2 0 99) rfl rfl (Nat.le_of_ble_eq_true rfl) ⟨rfl, rfl⟩ ⟨Nat.le_of_ble_eq_true rfl, Nat.le_of_ble_eq_true rfl⟩ dX8_one_23 (fun x40 v37 w38 p39 => ?_)
      rw [p39.1, p39.2.1]
      have b41 : Bd x40 0 1 := p39.2.2.1
      have e42 : x40 = F_X8_in G w v x_2 (0 : Int32) (99 : Int32) := (p39.2.2.2.2.2)
      refine J_if_ne E 34 dX8_one_26 (by decide) (fun c43 => ?_) (fun c43 => ?_)
      · have b44 : Bd x40 1 1 := (Bd.ne_lo c43 b41 (Bd.lit 0 0 (by decide))).w _ _ (by decide)
        have g45 := (p39.2.2.2.1).resolve_left c43
        have b46 : Bd x_2 0 I1 := Bd.le_r g45.1 (Bd.lit 0 0 (by decide)) (Bd.any x_2) 0 (by decide)
        have b47 : Bd x_2 0 99 := Bd.le_l g45.2 b46 (Bd.lit 99 99 (by decide)) 99 (by decide)
        refine J_aload_n E dX8_one_34 0 rfl ?_
        refine J_getR E in_X8 rfl (S_X8.h S0) 1 (by decide) wd936 rfl dX8_one_35 ?_
        refine J_iconst E 1 dX8_one_38 (by decide) ?_
        refine J_iald1 E (S_X8.f1 S0) (Bd.in (Bd.lit 1 1 (by decide)) (by decide)) dX8_one_39 (fun x48 e49 => ?_)
        have b50 : Bd x48 0 7 := Bd.e (Ok.ld hOk (S_X8.f1 S0) (Bd.lit 1 1 (by decide)) 1 1 0 7 (by decide) (by decide +kernel)) e49
        have e51 : x48 = v (rf G h0 1) 1 := by rw [e49, Bd.ix (Bd.lit 1 1 (by decide)) 1 rfl]
        refine J_bipush E 7 dX8_one_40 (by decide) ?_
        refine J_icmp_ne E 52 dX8_one_42 (by decide) (fun c52 => ?_) (fun c52 => ?_)
        · have b53 : Bd x48 0 6 := (Bd.ne_hi c52 b50 (Bd.lit 7 7 (by decide))).w _ _ (by decide)
          refine J_aload_n E dX8_one_52 0 rfl ?_
          refine J_iconst E 0 dX8_one_53 (by decide) ?_
          refine J_iload_n E dX8_one_54 1 rfl ?_
          refine J_iload_n E dX8_one_55 2 rfl ?_
          refine J_iload_n E dX8_one_56 3 rfl ?_
          refine J_callVI E cal_X8_join wd1015 rfl (S_X8.h S0) [.int 0, .int x_0, .int x_1, .int x_2] [] (ct_X8_join_0 l D dA G v w (hOk) h0 S0 x_0 b23 x_1 b36 x_2 b47 x48 (e51) b53) rfl rfl (Nat.le_of_ble_eq_true rfl) ⟨rfl, rfl⟩ ⟨Nat.le_of_ble_eq_true rfl, Nat.le_of_ble_eq_true rfl⟩ dX8_one_57 (fun x57 v54 w55 p56 => ?_)
          have ew9 : w = w55 := p56.2.2.2.1.1.symm
          subst ew9
          have o58 := p56.1
          have k59 : True := trivial
          have f60 : Fr G [103, 1084] v v54 := Fr.tr Fr.rf (p56.2.2.2.2) (by decide)
          have b61 : Bd x57 0 6 := p56.2.2.1
          have e62 : x57 = (F_X8_join_0 G w v h0 x_0 x_1 x_2).1 := congrArg Prod.fst (p56.2.2.2.1).2
          have e63 : v54 = (F_X8_join_0 G w v h0 x_0 x_1 x_2).2 := congrArg Prod.snd (p56.2.2.2.1).2
          have hK : K_X8_one_c2 G w h0 v54 x57 = F_X8_one G w v h0 x_0 x_1 x_2 := ((kx_X8_one_5 (e16) (e29) (e42) (e49) (e62) (e63) (c17) (c30) (c43) (c52)).symm.trans hK)
          exact J_iret E hr dX8_one_60 ⟨o58, k59, trivial, ⟨⟨rfl, ((kx_X8_one_6).symm.trans hK)⟩, f60⟩⟩
        · have b64 : Bd x48 7 7 := Bd.eq_l c52 b50 (Bd.lit 7 7 (by decide)) 7 7 (by decide)
          refine J_aload_n E dX8_one_45 0 rfl ?_
          refine J_callVI E cal_X8_full wd1003 rfl (S_X8.h S0) [] [] (ct_X8_full l D dA G v w (hOk) h0 S0) rfl rfl (Nat.le_of_ble_eq_true rfl) ⟨rfl, rfl⟩ ⟨Nat.le_of_ble_eq_true rfl, Nat.le_of_ble_eq_true rfl⟩ dX8_one_46 (fun x68 v65 w66 p67 => ?_)
          have ew9 : w = w66 := p67.2.2.2.1.1.symm
          subst ew9
          have o69 := p67.1
          have k70 : True := trivial
          have f71 : Fr G [103, 1084] v v65 := Fr.tr Fr.rf (p67.2.2.2.2) (by decide)
          have b72 : Bd x68 (-4) (-4) := p67.2.2.1
          have e73 : x68 = (F_X8_full G w v h0).1 := congrArg Prod.fst (p67.2.2.2.1).2
          have e74 : v65 = (F_X8_full G w v h0).2 := congrArg Prod.snd (p67.2.2.2.1).2
          have hK : K_X8_one_c3 G w h0 v65 x68 = F_X8_one G w v h0 x_0 x_1 x_2 := ((kx_X8_one_7 (e16) (e29) (e42) (e49) (e73) (e74) (c17) (c30) (c43) (c52)).symm.trans hK)
          refine J_goto E 60 dX8_one_49 (by decide) ?_
          exact J_iret E hr dX8_one_60 ⟨o69, k70, trivial, ⟨⟨rfl, ((kx_X8_one_8).symm.trans hK)⟩, f71⟩⟩
      · have b75 : Bd x40 0 0 := Bd.eq_l c43 b41 (Bd.lit 0 0 (by decide)) 0 0 (by decide)
        have g76 : ¬ (0 ≤ x_2 ∧ x_2 ≤ 99) := (p39.2.2.2.2.1).resolve_left (fun h9 => h9 c43)
        exact J.sub [0] rfl (J29 ((kx_X8_one_9 (e16) (e29) (e42) (c17) (c30) (c43)).symm.trans hK))

def K_X8_type_c1 (G : Gm) (w : Mw) (h0 : Nat) (v43 : Mv) (x46 : Int32) : Int32 × Mv :=
  (x46, v43)
def K_X8_type_c2 (G : Gm) (w : Mw) (h0 : Nat) (v55 : Mv) (x58 : Int32) : Int32 × Mv :=
  (x58, v55)
def K_X8_type_e (G : Gm) (w : Mw) (v : Mv) (h0 : Nat) (x_0 : Int32) : Int32 × Mv :=
  if (F_X8_in G w v x_0 (0 : Int32) (127 : Int32)) = (0 : Int32) then (K_X8_type_c2 G w h0 ((F_X8_bad G w v h0).2) ((F_X8_bad G w v h0).1)) else (if (v h0 5) = (150 : Int32) then (K_X8_type_c1 G w h0 ((F_X8_full G w v h0).2) ((F_X8_full G w v h0).1)) else ((((v h0 5) + (1 : Int32)), (stv (stv v (rf G h0 4) (Int32.toNatClampNeg (v h0 5)) (vp_nar .byte ((Int32.toInt8 x_0).toInt32))) h0 5 ((v h0 5) + (1 : Int32))))))
def F_X8_type (G : Gm) (w : Mw) (v : Mv) (h0 : Nat) (x_0 : Int32) : Int32 × Mv := K_X8_type_e G w v h0 x_0
set_option maxRecDepth 100000 in
theorem kx_X8_type_1 {G : Gm} {w : Mw} {v : Mv} {h0 : Nat} {x_0 : Int32} {x31 : Int32} {v34 : Mv} {x12 : Int32} {x19 : Int32} {v22 : Mv} {x4 : Int32} (a0 : x4 = F_X8_in G w v x_0 (0 : Int32) (127 : Int32)) (a1 : x12 = v h0 5) (a2 : x19 = (Int32.toInt8 x_0).toInt32) (a3 : v22 = stv v (rf G h0 4) (Int32.toNatClampNeg x12) (vp_nar .byte x19)) (a4 : x31 = x12 + (1 : Int32)) (a5 : v34 = stv v22 h0 5 x31) (k0 : ¬ (x4 = (0 : Int32))) (k1 : ¬ (x12 = (150 : Int32))) : K_X8_type_e G w v h0 x_0 = (x31, v34) := by
  subst a5; subst a4; subst a3; subst a2; subst a1; subst a0; first | rw [K_X8_type_e, if_neg k0, if_neg k1] | simp only [K_X8_type_e, if_neg k0, if_neg k1]
set_option maxRecDepth 100000 in
theorem kx_X8_type_2 {G : Gm} {w : Mw} {v : Mv} {h0 : Nat} {x_0 : Int32} {v43 : Mv} {x46 : Int32} {x4 : Int32} {x12 : Int32} (a0 : x4 = F_X8_in G w v x_0 (0 : Int32) (127 : Int32)) (a1 : x12 = v h0 5) (a2 : x46 = (F_X8_full G w v h0).1) (a3 : v43 = (F_X8_full G w v h0).2) (k0 : ¬ (x4 = (0 : Int32))) (k1 : x12 = (150 : Int32)) : K_X8_type_e G w v h0 x_0 = K_X8_type_c1 G w h0 v43 x46 := by
  subst a3; subst a2; subst a1; subst a0; first | rw [K_X8_type_e, if_neg k0, if_pos k1] | simp only [K_X8_type_e, if_neg k0, if_pos k1]
set_option maxRecDepth 100000 in
theorem kx_X8_type_3 {G : Gm} {w : Mw} {h0 : Nat} {v43 : Mv} {x46 : Int32}   : K_X8_type_c1 G w h0 v43 x46 = (x46, v43) := by
  first | rw [K_X8_type_c1] | simp only [K_X8_type_c1]
set_option maxRecDepth 100000 in
theorem kx_X8_type_4 {G : Gm} {w : Mw} {v : Mv} {h0 : Nat} {x_0 : Int32} {v55 : Mv} {x58 : Int32} {x4 : Int32} (a0 : x4 = F_X8_in G w v x_0 (0 : Int32) (127 : Int32)) (a1 : x58 = (F_X8_bad G w v h0).1) (a2 : v55 = (F_X8_bad G w v h0).2) (k0 : x4 = (0 : Int32)) : K_X8_type_e G w v h0 x_0 = K_X8_type_c2 G w h0 v55 x58 := by
  subst a2; subst a1; subst a0; first | rw [K_X8_type_e, if_pos k0] | simp only [K_X8_type_e, if_pos k0]
set_option maxRecDepth 100000 in
theorem kx_X8_type_5 {G : Gm} {w : Mw} {h0 : Nat} {v55 : Mv} {x58 : Int32}   : K_X8_type_c2 G w h0 v55 x58 = (x58, v55) := by
  first | rw [K_X8_type_c2] | simp only [K_X8_type_c2]
abbrev rm_X8_type : Room := { frames := 1, cells := 0, slots := 0, locals := 22 }
set_option maxHeartbeats 4000000 in
set_option maxRecDepth 100000 in
theorem ct_X8_type (l : Launch) (D : va_G) (dA : Nat → ClassId) (G : Gm) (v : Mv) (w : Mw) (hOk : Ok G v w) (h0 : Nat) (S0 : S_X8 G h0) (x_0 : Int32) : CtI l yX8_type cX8_type 2 (some .int) rm_X8_type D dA G [.ref h0, .int x_0] v w (fun r v1 w1 => Ok G v1 w1 ∧ True ∧ True ∧ (w1 = w ∧ (r, v1) = F_X8_type G w v h0 x_0) ∧ Fr G [8, 103, 10250] v v1) := by
  refine CtI.of RX8 [(0, .ref h0), (1, .int x_0)] (Nat.le_of_ble_eq_true rfl) rfl (by decide) rfl ?_
  intro p e s m args below meth c E hr
  have hK : K_X8_type_e G w v h0 x_0 = F_X8_type G w v h0 x_0 := rfl
  refine J_iload_n E dX8_type_0 1 rfl ?_
  refine J_iconst E 0 dX8_type_1 (by decide) ?_
  refine J_bipush E 127 dX8_type_2 (by decide) ?_
  refine J_callSI E cal_X8_in wd996 [.int x_0, .int 0, .int 127] [] (ct_X8_in l D dA G v w (hOk) x_0 0 127) rfl rfl (Nat.le_of_ble_eq_true rfl) ⟨rfl, rfl⟩ ⟨Nat.le_of_ble_eq_true rfl, Nat.le_of_ble_eq_true rfl⟩ dX8_type_4 (fun x4 v1 w2 p3 => ?_)
  rw [p3.1, p3.2.1]
  have b5 : Bd x4 0 1 := p3.2.2.1
  have e6 : x4 = F_X8_in G w v x_0 (0 : Int32) (127 : Int32) := (p3.2.2.2.2.2)
  refine J_if_ne E 15 dX8_type_7 (by decide) (fun c7 => ?_) (fun c7 => ?_)
  · have b8 : Bd x4 1 1 := (Bd.ne_lo c7 b5 (Bd.lit 0 0 (by decide))).w _ _ (by decide)
    have g9 := (p3.2.2.2.1).resolve_left c7
    have b10 : Bd x_0 0 I1 := Bd.le_r g9.1 (Bd.lit 0 0 (by decide)) (Bd.any x_0) 0 (by decide)
    have b11 : Bd x_0 0 127 := Bd.le_l g9.2 b10 (Bd.lit 127 127 (by decide)) 127 (by decide)
    refine J_aload_n E dX8_type_15 0 rfl ?_
    refine J_getI E in_X8 rfl (S_X8.h S0) 5 (by decide) wd940 rfl dX8_type_16 (fun x12 e13 => ?_)
    have b14 : Bd x12 0 150 := Ok.fd hOk e13 (S_X8.h S0) rfl
    refine J_sipush E 150 dX8_type_19 (by decide) ?_
    refine J_icmp_ne E 30 dX8_type_22 (by decide) (fun c15 => ?_) (fun c15 => ?_)
    · have b16 : Bd x12 0 149 := (Bd.ne_hi c15 b14 (Bd.lit 150 150 (by decide))).w _ _ (by decide)
      refine J_aload_n E dX8_type_30 0 rfl ?_
      refine J_getR E in_X8 rfl (S_X8.h S0) 4 (by decide) wd939 rfl dX8_type_31 ?_
      refine J_aload_n E dX8_type_34 0 rfl ?_
      refine J_getI E in_X8 rfl (S_X8.h S0) 5 (by decide) wd940 rfl dX8_type_35 (fun x17 e18 => ?_)
      rw [show x17 = x12 from e18.trans (e13).symm]
      refine J_iload_n E dX8_type_38 1 rfl ?_
      refine J_i2b E dX8_type_39 (fun x19 e20 => ?_)
      have b21 : Bd x19 (-128) 127 := Bd.byte e20
      refine J_bast1 E (S_X8.f4 S0) (Bd.in b16 (by decide)) dX8_type_40 (fun v22 e23 => ?_)
      have b26 : Bd (vp_nar .byte x19) (-128) 127 := Bd.narB _
      have o24 : Ok G v22 w := by rw [e23]; exact Ok.sw hOk (S_X8.f4 S0) b16 b26 0 150 (by decide) (by decide +kernel)
      have k25 : True := trivial
      have f27 : Fr G [8, 103, 10250] v v22 := Fr.st Fr.rf e23 (S_X8.f4 S0) rfl
      have e28 : x12 = v22 h0 5 := by rw [e23, stv_a (tg_ne (S_X8.h S0) ((S_X8.f4 S0)) rfl)]; exact e13
      refine J_aload_n E dX8_type_41 0 rfl ?_
      refine J_dup E dX8_type_42 rfl ?_
      refine J_getI E in_X8 rfl (S_X8.h S0) 5 (by decide) wd940 rfl dX8_type_43 (fun x29 e30 => ?_)
      rw [show x29 = x12 from e30.trans (e28).symm]
      refine J_iconst E 1 dX8_type_46 (by decide) ?_
      refine J_iadd E dX8_type_47 (fun x31 e32 => ?_)
      have b33 : Bd x31 1 150 := (Bd.add e32 b16 (Bd.lit 1 1 (by decide)) (by decide)).w _ _ (by decide)
      refine J_pI E in_X8 rfl (S_X8.h S0) 5 (by decide) wd940 tyX8 tyX8_ok nmX8 rfl rfl .int (by decide +kernel) rfl rfl dX8_type_48 (fun v34 e35 => ?_)
      have o36 : Ok G v34 w := Ok.pf o24 e35 (S_X8.h S0) rfl (b33.w 0 150 (by decide))
      have f38 : Fr G [8, 103, 10250] v v34 := Fr.st f27 e35 (S_X8.h S0) rfl
      have e39 : x31 = v34 h0 5 := by rw [e35, stv_s]
      refine J_aload_n E dX8_type_51 0 rfl ?_
      refine J_getI E in_X8 rfl (S_X8.h S0) 5 (by decide) wd940 rfl dX8_type_52 (fun x40 e41 => ?_)
      rw [show x40 = x31 from e41.trans (e39).symm]
      exact J_iret E hr dX8_type_55 ⟨o36, trivial, trivial, ⟨⟨rfl, ((kx_X8_type_1 (e6) (e13) (e20) (e23) (e32) (e35) (c7) (c15)).symm.trans hK)⟩, f38⟩⟩
    · have b42 : Bd x12 150 150 := Bd.eq_l c15 b14 (Bd.lit 150 150 (by decide)) 150 150 (by decide)
      refine J_aload_n E dX8_type_25 0 rfl ?_
      refine J_callVI E cal_X8_full wd1003 rfl (S_X8.h S0) [] [] (ct_X8_full l D dA G v w (hOk) h0 S0) rfl rfl (Nat.le_of_ble_eq_true rfl) ⟨rfl, rfl⟩ ⟨Nat.le_of_ble_eq_true rfl, Nat.le_of_ble_eq_true rfl⟩ dX8_type_26 (fun x46 v43 w44 p45 => ?_)
      have ew9 : w = w44 := p45.2.2.2.1.1.symm
      subst ew9
      have o47 := p45.1
      have k48 : True := trivial
      have f49 : Fr G [8, 103, 10250] v v43 := Fr.tr Fr.rf (p45.2.2.2.2) (by decide)
      have b50 : Bd x46 (-4) (-4) := p45.2.2.1
      have e51 : x46 = (F_X8_full G w v h0).1 := congrArg Prod.fst (p45.2.2.2.1).2
      have e52 : v43 = (F_X8_full G w v h0).2 := congrArg Prod.snd (p45.2.2.2.1).2
      have hK : K_X8_type_c1 G w h0 v43 x46 = F_X8_type G w v h0 x_0 := ((kx_X8_type_2 (e6) (e13) (e51) (e52) (c7) (c15)).symm.trans hK)
      exact J_iret E hr dX8_type_29 ⟨o47, k48, trivial, ⟨⟨rfl, ((kx_X8_type_3).symm.trans hK)⟩, f49⟩⟩
  · have b53 : Bd x4 0 0 := Bd.eq_l c7 b5 (Bd.lit 0 0 (by decide)) 0 0 (by decide)
    have g54 : ¬ (0 ≤ x_0 ∧ x_0 ≤ 127) := (p3.2.2.2.2.1).resolve_left (fun h9 => h9 c7)
    refine J_aload_n E dX8_type_10 0 rfl ?_
    refine J_callVI E cal_X8_bad wd999 rfl (S_X8.h S0) [] [] (ct_X8_bad l D dA G v w (hOk) h0 S0) rfl rfl (Nat.le_of_ble_eq_true rfl) ⟨rfl, rfl⟩ ⟨Nat.le_of_ble_eq_true rfl, Nat.le_of_ble_eq_true rfl⟩ dX8_type_11 (fun x58 v55 w56 p57 => ?_)
    have ew9 : w = w56 := p57.2.2.2.1.1.symm
    subst ew9
    have o59 := p57.1
    have k60 : True := trivial
    have f61 : Fr G [8, 103, 10250] v v55 := Fr.tr Fr.rf (p57.2.2.2.2) (by decide)
    have b62 : Bd x58 (-2) (-2) := p57.2.2.1
    have e63 : x58 = (F_X8_bad G w v h0).1 := congrArg Prod.fst (p57.2.2.2.1).2
    have e64 : v55 = (F_X8_bad G w v h0).2 := congrArg Prod.snd (p57.2.2.2.1).2
    have hK : K_X8_type_c2 G w h0 v55 x58 = F_X8_type G w v h0 x_0 := ((kx_X8_type_4 (e6) (e63) (e64) (c7)).symm.trans hK)
    exact J_iret E hr dX8_type_14 ⟨o59, k60, trivial, ⟨⟨rfl, ((kx_X8_type_5).symm.trans hK)⟩, f61⟩⟩

def K_X8_clear_e (G : Gm) (w : Mw) (v : Mv) (h0 : Nat) : Int32 × Mv :=
  ((v h0 5), (stv v h0 5 (0 : Int32)))
def F_X8_clear (G : Gm) (w : Mw) (v : Mv) (h0 : Nat) : Int32 × Mv := K_X8_clear_e G w v h0
set_option maxRecDepth 100000 in
theorem kx_X8_clear_1 {G : Gm} {w : Mw} {v : Mv} {h0 : Nat} {x1 : Int32} {v4 : Mv} (a0 : x1 = v h0 5) (a1 : v4 = stv v h0 5 (0 : Int32))  : K_X8_clear_e G w v h0 = (x1, v4) := by
  subst a1; subst a0; first | rw [K_X8_clear_e] | simp only [K_X8_clear_e]
abbrev rm_X8_clear : Room := { frames := 0, cells := 0, slots := 0, locals := 0 }
set_option maxHeartbeats 4000000 in
set_option maxRecDepth 100000 in
theorem ct_X8_clear (l : Launch) (D : va_G) (dA : Nat → ClassId) (G : Gm) (v : Mv) (w : Mw) (hOk : Ok G v w) (h0 : Nat) (S0 : S_X8 G h0) : CtI l yX8_clear cX8_clear 2 (some .int) rm_X8_clear D dA G [.ref h0] v w (fun r v1 w1 => Ok G v1 w1 ∧ True ∧ Bd r 0 150 ∧ (w1 = w ∧ (r, v1) = F_X8_clear G w v h0) ∧ Fr G [8] v v1) := by
  refine CtI.of RX8 [(0, .ref h0)] (Nat.le_of_ble_eq_true rfl) rfl (by decide) rfl ?_
  intro p e s m args below meth c E hr
  have hK : K_X8_clear_e G w v h0 = F_X8_clear G w v h0 := rfl
  refine J_aload_n E dX8_clear_0 0 rfl ?_
  refine J_getI E in_X8 rfl (S_X8.h S0) 5 (by decide) wd940 rfl dX8_clear_1 (fun x1 e2 => ?_)
  have b3 : Bd x1 0 150 := Ok.fd hOk e2 (S_X8.h S0) rfl
  refine J_istore_n E [(1, .int x1), (0, .ref h0)] dX8_clear_4 rfl (by decide) rfl ?_
  refine J_aload_n E dX8_clear_5 1 rfl ?_
  refine J_iconst E 0 dX8_clear_6 (by decide) ?_
  refine J_pI E in_X8 rfl (S_X8.h S0) 5 (by decide) wd940 tyX8 tyX8_ok nmX8 rfl rfl .int (by decide +kernel) rfl rfl dX8_clear_7 (fun v4 e5 => ?_)
  have o6 : Ok G v4 w := Ok.pf hOk e5 (S_X8.h S0) rfl ((Bd.lit 0 0 (by decide)).w 0 150 (by decide))
  have f8 : Fr G [8] v v4 := Fr.st Fr.rf e5 (S_X8.h S0) rfl
  have e9 : (0 : Int32) = v4 h0 5 := by rw [e5, stv_s]
  refine J_iload_n E dX8_clear_10 0 rfl ?_
  exact J_iret E hr dX8_clear_11 ⟨o6, trivial, b3, ⟨⟨rfl, ((kx_X8_clear_1 (e2) (e5)).symm.trans hK)⟩, f8⟩⟩

def F_X8_here (G : Gm) (w : Mw) (v : Mv) (h0 : Nat) : Int32 := hF G v h0
abbrev rm_X8_here : Room := { frames := 0, cells := 0, slots := 0, locals := 0 }
set_option maxHeartbeats 4000000 in
set_option maxRecDepth 100000 in
theorem ct_X8_here (l : Launch) (D : va_G) (dA : Nat → ClassId) (G : Gm) (v : Mv) (w : Mw) (hOk : Ok G v w) (h0 : Nat) (S0 : S_X8 G h0) : CtI l yX8_here cX8_here 1 (some .int) rm_X8_here D dA G [.ref h0] v w (fun r v1 w1 => v1 = v ∧ w1 = w ∧ Bd r (-128) 127 ∧ r = hF G v h0 ∧ (Bd r (-1) (-1) ∨ Bd (v h0 6) 0 149) ∧ r = F_X8_here G w v h0) := by
  refine CtI.of RX8 [(0, .ref h0)] (Nat.le_of_ble_eq_true rfl) rfl (by decide) rfl ?_
  intro p e s m args below meth c E hr
  refine J_aload_n E dX8_here_0 0 rfl ?_
  refine J_getI E in_X8 rfl (S_X8.h S0) 6 (by decide) wd941 rfl dX8_here_1 (fun x1 e2 => ?_)
  have b3 : Bd x1 0 150 := Ok.fd hOk e2 (S_X8.h S0) rfl
  refine J_aload_n E dX8_here_4 0 rfl ?_
  refine J_getI E in_X8 rfl (S_X8.h S0) 5 (by decide) wd940 rfl dX8_here_5 (fun x4 e5 => ?_)
  have b6 : Bd x4 0 150 := Ok.fd hOk e5 (S_X8.h S0) rfl
  refine J_icmp_ge E 23 dX8_here_8 (by decide) (fun c7 => ?_) (fun c7 => ?_)
  · refine J_iconst E (-1) dX8_here_23 (by decide) ?_
    exact J_iret E hr dX8_here_24 ⟨rfl, rfl, ((Bd.lit (-1) (-1) (by decide)).w (-128) 127 (by decide)), (by unfold hF; rw [if_neg (by rw [← e2, ← e5]; exact fun q => nle_of_lt q c7)]), Or.inl (Bd.lit (-1) (-1) (by decide)), (by unfold F_X8_here hF; rw [if_neg (by rw [← e2, ← e5]; exact fun q => nle_of_lt q c7)])⟩
  · have b8 : Bd x1 0 149 := Bd.lt_l (nle c7) b3 b6 149 (by decide)
    have b9 : Bd x4 1 150 := Bd.lt_r (nle c7) b3 b6 1 (by decide)
    refine J_aload_n E dX8_here_11 0 rfl ?_
    refine J_getR E in_X8 rfl (S_X8.h S0) 4 (by decide) wd939 rfl dX8_here_12 ?_
    refine J_aload_n E dX8_here_15 0 rfl ?_
    refine J_getI E in_X8 rfl (S_X8.h S0) 6 (by decide) wd941 rfl dX8_here_16 (fun x10 e11 => ?_)
    rw [show x10 = x1 from e11.trans (e2).symm]
    refine J_bald1 E (S_X8.f4 S0) (Bd.in b8 (by decide)) dX8_here_19 (fun x12 e13 => ?_)
    have b14 : Bd x12 (-128) 127 := Bd.e (Ok.ld hOk (S_X8.f4 S0) b8 0 150 (-128) 127 (by decide) (by decide +kernel)) e13
    refine J_goto E 24 dX8_here_20 (by decide) ?_
    exact J_iret E hr dX8_here_24 ⟨rfl, rfl, b14, (by unfold hF; rw [if_pos (by rw [← e2, ← e5]; exact nle c7), ← e2]; exact e13), Or.inr (Bd.e b8 e2.symm), (by unfold F_X8_here hF; rw [if_pos (by rw [← e2, ← e5]; exact nle c7), ← e2]; exact e13)⟩


def K_X8_spells_3_148 (G : Gm) (w : Mw) (h0 : Nat) (v : Mv) : Int32 :=
  (1 : Int32)
def K_X8_spells_3_118 (G : Gm) (w : Mw) (h0 : Nat) (v : Mv) (x_5 : Int32) (x9 : Int32) (x3 : Int32) : Int32 :=
  if x3 = (0 : Int32) then ((0 : Int32)) else (if (3 : Int32) < (6 : Int32) then (K_X8_spells_3_148 G w h0 v) else ((0 : Int32)))
def K_X8_spells_3_117 (G : Gm) (w : Mw) (h0 : Nat) (v : Mv) (x_5 : Int32) (x17 : Int32) : Int32 :=
  K_X8_spells_3_118 G w h0 v x_5 (3 : Int32) (0 : Int32)
def K_X8_spells_3_113 (G : Gm) (w : Mw) (h0 : Nat) (v : Mv) (x_5 : Int32) (x26 : Int32) : Int32 :=
  K_X8_spells_3_118 G w h0 v x_5 (3 : Int32) (1 : Int32)
def K_X8_spells_3_91 (G : Gm) (w : Mw) (h0 : Nat) (v : Mv) (x_4 : Int32) (x_5 : Int32) (x33 : Int32) : Int32 :=
  if (3 : Int32) < (5 : Int32) then (K_X8_spells_3_113 G w h0 v x_5 (3 : Int32)) else ((0 : Int32))
def K_X8_spells_3_62 (G : Gm) (w : Mw) (h0 : Nat) (v : Mv) (x_3 : Int32) (x_4 : Int32) (x_5 : Int32) (x45 : Int32) (x39 : Int32) : Int32 :=
  if x39 = (0 : Int32) then (K_X8_spells_3_117 G w h0 v x_5 (3 : Int32)) else (if (3 : Int32) < (4 : Int32) then (K_X8_spells_3_91 G w h0 v x_4 x_5 (3 : Int32)) else ((0 : Int32)))
def K_X8_spells_3_61 (G : Gm) (w : Mw) (h0 : Nat) (v : Mv) (x_3 : Int32) (x_4 : Int32) (x_5 : Int32) (x55 : Int32) : Int32 :=
  K_X8_spells_3_62 G w h0 v x_3 x_4 x_5 (3 : Int32) (0 : Int32)
def K_X8_spells_3_e (G : Gm) (w : Mw) (v : Mv) (h0 : Nat) (x_0 : Int32) (x_1 : Int32) (x_2 : Int32) (x_3 : Int32) (x_4 : Int32) (x_5 : Int32) : Int32 :=
  if ((v h0 6) - (v h0 7)) = (3 : Int32) then (if (v (rf G h0 4) (Int32.toNatClampNeg (v h0 7))) = x_0 then (if (v (rf G h0 4) (Int32.toNatClampNeg ((v h0 7) + (1 : Int32)))) = x_1 then (if (v (rf G h0 4) (Int32.toNatClampNeg ((v h0 7) + (2 : Int32)))) = x_2 then (K_X8_spells_3_62 G w h0 v x_3 x_4 x_5 (3 : Int32) (1 : Int32)) else (K_X8_spells_3_61 G w h0 v x_3 x_4 x_5 (3 : Int32))) else (K_X8_spells_3_61 G w h0 v x_3 x_4 x_5 (3 : Int32))) else (K_X8_spells_3_61 G w h0 v x_3 x_4 x_5 (3 : Int32))) else (K_X8_spells_3_61 G w h0 v x_3 x_4 x_5 (3 : Int32))
def F_X8_spells_3 (G : Gm) (w : Mw) (v : Mv) (h0 : Nat) (x_0 : Int32) (x_1 : Int32) (x_2 : Int32) (x_3 : Int32) (x_4 : Int32) (x_5 : Int32) : Int32 := K_X8_spells_3_e G w v h0 x_0 x_1 x_2 x_3 x_4 x_5
set_option maxRecDepth 100000 in
theorem kx_X8_spells_3_1 {G : Gm} {w : Mw} {h0 : Nat} {v : Mv}   : K_X8_spells_3_148 G w h0 v = (1 : Int32) := by
  first | rw [K_X8_spells_3_148] | simp only [K_X8_spells_3_148]
set_option maxRecDepth 100000 in
theorem kx_X8_spells_3_2 {G : Gm} {w : Mw} {h0 : Nat} {v : Mv} {x_5 : Int32} {x3 : Int32}  (k0 : x3 = (0 : Int32)) : K_X8_spells_3_118 G w h0 v x_5 (3 : Int32) x3 = (0 : Int32) := by
  first | rw [K_X8_spells_3_118, if_pos k0] | simp only [K_X8_spells_3_118, if_pos k0]
set_option maxRecDepth 100000 in
theorem kx_X8_spells_3_3 {G : Gm} {w : Mw} {h0 : Nat} {v : Mv} {x_5 : Int32} {x3 : Int32}  (k0 : ¬ (x3 = (0 : Int32))) (k1 : (3 : Int32) < (6 : Int32)) : K_X8_spells_3_118 G w h0 v x_5 (3 : Int32) x3 = K_X8_spells_3_148 G w h0 v := by
  first | rw [K_X8_spells_3_118, if_neg k0, if_pos k1] | simp only [K_X8_spells_3_118, if_neg k0, if_pos k1]
set_option maxRecDepth 100000 in
theorem kx_X8_spells_3_4 {G : Gm} {w : Mw} {h0 : Nat} {v : Mv} {x_5 : Int32}   : K_X8_spells_3_117 G w h0 v x_5 (3 : Int32) = K_X8_spells_3_118 G w h0 v x_5 (3 : Int32) (0 : Int32) := by
  first | rw [K_X8_spells_3_117] | simp only [K_X8_spells_3_117]
set_option maxRecDepth 100000 in
theorem kx_X8_spells_3_5 {G : Gm} {w : Mw} {h0 : Nat} {v : Mv} {x_5 : Int32}   : K_X8_spells_3_113 G w h0 v x_5 (3 : Int32) = K_X8_spells_3_118 G w h0 v x_5 (3 : Int32) (1 : Int32) := by
  first | rw [K_X8_spells_3_113] | simp only [K_X8_spells_3_113]
set_option maxRecDepth 100000 in
theorem kx_X8_spells_3_6 {G : Gm} {w : Mw} {h0 : Nat} {v : Mv} {x_4 : Int32} {x_5 : Int32}  (k0 : (3 : Int32) < (5 : Int32)) : K_X8_spells_3_91 G w h0 v x_4 x_5 (3 : Int32) = K_X8_spells_3_113 G w h0 v x_5 (3 : Int32) := by
  first | rw [K_X8_spells_3_91, if_pos k0] | simp only [K_X8_spells_3_91, if_pos k0]
set_option maxRecDepth 100000 in
theorem kx_X8_spells_3_7 {G : Gm} {w : Mw} {h0 : Nat} {v : Mv} {x_3 : Int32} {x_4 : Int32} {x_5 : Int32} {x39 : Int32}  (k0 : x39 = (0 : Int32)) : K_X8_spells_3_62 G w h0 v x_3 x_4 x_5 (3 : Int32) x39 = K_X8_spells_3_117 G w h0 v x_5 (3 : Int32) := by
  first | rw [K_X8_spells_3_62, if_pos k0] | simp only [K_X8_spells_3_62, if_pos k0]
set_option maxRecDepth 100000 in
theorem kx_X8_spells_3_8 {G : Gm} {w : Mw} {h0 : Nat} {v : Mv} {x_3 : Int32} {x_4 : Int32} {x_5 : Int32} {x39 : Int32}  (k0 : ¬ (x39 = (0 : Int32))) (k1 : (3 : Int32) < (4 : Int32)) : K_X8_spells_3_62 G w h0 v x_3 x_4 x_5 (3 : Int32) x39 = K_X8_spells_3_91 G w h0 v x_4 x_5 (3 : Int32) := by
  first | rw [K_X8_spells_3_62, if_neg k0, if_pos k1] | simp only [K_X8_spells_3_62, if_neg k0, if_pos k1]
set_option maxRecDepth 100000 in
theorem kx_X8_spells_3_9 {G : Gm} {w : Mw} {h0 : Nat} {v : Mv} {x_3 : Int32} {x_4 : Int32} {x_5 : Int32}   : K_X8_spells_3_61 G w h0 v x_3 x_4 x_5 (3 : Int32) = K_X8_spells_3_62 G w h0 v x_3 x_4 x_5 (3 : Int32) (0 : Int32) := by
  first | rw [K_X8_spells_3_61] | simp only [K_X8_spells_3_61]
set_option maxRecDepth 100000 in
theorem kx_X8_spells_3_10 {G : Gm} {w : Mw} {v : Mv} {h0 : Nat} {x_0 : Int32} {x_1 : Int32} {x_2 : Int32} {x_3 : Int32} {x_4 : Int32} {x_5 : Int32} {x59 : Int32} {x62 : Int32} {x65 : Int32} (a0 : x59 = v h0 6) (a1 : x62 = v h0 7) (a2 : x65 = x59 - x62) (k0 : ¬ (x65 = (3 : Int32))) : K_X8_spells_3_e G w v h0 x_0 x_1 x_2 x_3 x_4 x_5 = K_X8_spells_3_61 G w h0 v x_3 x_4 x_5 (3 : Int32) := by
  subst a2; subst a1; subst a0; first | rw [K_X8_spells_3_e, if_neg k0] | simp only [K_X8_spells_3_e, if_neg k0]
set_option maxRecDepth 100000 in
theorem kx_X8_spells_3_11 {G : Gm} {w : Mw} {v : Mv} {h0 : Nat} {x_0 : Int32} {x_1 : Int32} {x_2 : Int32} {x_3 : Int32} {x_4 : Int32} {x_5 : Int32} {x59 : Int32} {x62 : Int32} {x65 : Int32} {x73 : Int32} (a0 : x59 = v h0 6) (a1 : x62 = v h0 7) (a2 : x65 = x59 - x62) (a3 : x73 = v (rf G h0 4) (Int32.toNatClampNeg x62)) (k0 : x65 = (3 : Int32)) (k1 : ¬ (x73 = x_0)) : K_X8_spells_3_e G w v h0 x_0 x_1 x_2 x_3 x_4 x_5 = K_X8_spells_3_61 G w h0 v x_3 x_4 x_5 (3 : Int32) := by
  subst a3; subst a2; subst a1; subst a0; first | rw [K_X8_spells_3_e, if_pos k0, if_neg k1] | simp only [K_X8_spells_3_e, if_pos k0, if_neg k1]
set_option maxRecDepth 100000 in
theorem kx_X8_spells_3_12 {G : Gm} {w : Mw} {v : Mv} {h0 : Nat} {x_0 : Int32} {x_1 : Int32} {x_2 : Int32} {x_3 : Int32} {x_4 : Int32} {x_5 : Int32} {x59 : Int32} {x62 : Int32} {x80 : Int32} {x65 : Int32} {x73 : Int32} {x83 : Int32} (a0 : x59 = v h0 6) (a1 : x62 = v h0 7) (a2 : x65 = x59 - x62) (a3 : x73 = v (rf G h0 4) (Int32.toNatClampNeg x62)) (a4 : x80 = x62 + (1 : Int32)) (a5 : x83 = v (rf G h0 4) (Int32.toNatClampNeg x80)) (k0 : x65 = (3 : Int32)) (k1 : x73 = x_0) (k2 : ¬ (x83 = x_1)) : K_X8_spells_3_e G w v h0 x_0 x_1 x_2 x_3 x_4 x_5 = K_X8_spells_3_61 G w h0 v x_3 x_4 x_5 (3 : Int32) := by
  subst a5; subst a4; subst a3; subst a2; subst a1; subst a0; first | rw [K_X8_spells_3_e, if_pos k0, if_pos k1, if_neg k2] | simp only [K_X8_spells_3_e, if_pos k0, if_pos k1, if_neg k2]
set_option maxRecDepth 100000 in
theorem kx_X8_spells_3_13 {G : Gm} {w : Mw} {v : Mv} {h0 : Nat} {x_0 : Int32} {x_1 : Int32} {x_2 : Int32} {x_3 : Int32} {x_4 : Int32} {x_5 : Int32} {x59 : Int32} {x62 : Int32} {x80 : Int32} {x90 : Int32} {x65 : Int32} {x73 : Int32} {x83 : Int32} {x93 : Int32} (a0 : x59 = v h0 6) (a1 : x62 = v h0 7) (a2 : x65 = x59 - x62) (a3 : x73 = v (rf G h0 4) (Int32.toNatClampNeg x62)) (a4 : x80 = x62 + (1 : Int32)) (a5 : x83 = v (rf G h0 4) (Int32.toNatClampNeg x80)) (a6 : x90 = x62 + (2 : Int32)) (a7 : x93 = v (rf G h0 4) (Int32.toNatClampNeg x90)) (k0 : x65 = (3 : Int32)) (k1 : x73 = x_0) (k2 : x83 = x_1) (k3 : ¬ (x93 = x_2)) : K_X8_spells_3_e G w v h0 x_0 x_1 x_2 x_3 x_4 x_5 = K_X8_spells_3_61 G w h0 v x_3 x_4 x_5 (3 : Int32) := by
  subst a7; subst a6; subst a5; subst a4; subst a3; subst a2; subst a1; subst a0; first | rw [K_X8_spells_3_e, if_pos k0, if_pos k1, if_pos k2, if_neg k3] | simp only [K_X8_spells_3_e, if_pos k0, if_pos k1, if_pos k2, if_neg k3]
set_option maxRecDepth 100000 in
theorem kx_X8_spells_3_14 {G : Gm} {w : Mw} {v : Mv} {h0 : Nat} {x_0 : Int32} {x_1 : Int32} {x_2 : Int32} {x_3 : Int32} {x_4 : Int32} {x_5 : Int32} {x59 : Int32} {x62 : Int32} {x80 : Int32} {x90 : Int32} {x65 : Int32} {x73 : Int32} {x83 : Int32} {x93 : Int32} (a0 : x59 = v h0 6) (a1 : x62 = v h0 7) (a2 : x65 = x59 - x62) (a3 : x73 = v (rf G h0 4) (Int32.toNatClampNeg x62)) (a4 : x80 = x62 + (1 : Int32)) (a5 : x83 = v (rf G h0 4) (Int32.toNatClampNeg x80)) (a6 : x90 = x62 + (2 : Int32)) (a7 : x93 = v (rf G h0 4) (Int32.toNatClampNeg x90)) (k0 : x65 = (3 : Int32)) (k1 : x73 = x_0) (k2 : x83 = x_1) (k3 : x93 = x_2) : K_X8_spells_3_e G w v h0 x_0 x_1 x_2 x_3 x_4 x_5 = K_X8_spells_3_62 G w h0 v x_3 x_4 x_5 (3 : Int32) (1 : Int32) := by
  subst a7; subst a6; subst a5; subst a4; subst a3; subst a2; subst a1; subst a0; first | rw [K_X8_spells_3_e, if_pos k0, if_pos k1, if_pos k2, if_pos k3] | simp only [K_X8_spells_3_e, if_pos k0, if_pos k1, if_pos k2, if_pos k3]
abbrev rm_X8_spells_3 : Room := { frames := 0, cells := 0, slots := 0, locals := 0 }
set_option maxHeartbeats 4000000 in
set_option maxRecDepth 100000 in
theorem ct_X8_spells_3 (l : Launch) (D : va_G) (dA : Nat → ClassId) (G : Gm) (v : Mv) (w : Mw) (hOk : Ok G v w) (h0 : Nat) (S0 : S_X8 G h0) (x_0 : Int32) (bx_0 : Bd x_0 111 111) (x_1 : Int32) (bx_1 : Bd x_1 110 119) (x_2 : Int32) (bx_2 : Bd x_2 101 110) (x_3 : Int32) (bx_3 : Bd x_3 0 0) (x_4 : Int32) (bx_4 : Bd x_4 0 0) (x_5 : Int32) (bx_5 : Bd x_5 0 0) : CtI l yX8_spells cX8_spells 9 (some .boolean) rm_X8_spells_3 D dA G [.ref h0, .int x_0, .int x_1, .int x_2, .int x_3, .int x_4, .int x_5, .int 3] v w (fun r v1 w1 => v1 = v ∧ w1 = w ∧ Bd r 0 1 ∧ r = F_X8_spells_3 G w v h0 x_0 x_1 x_2 x_3 x_4 x_5) := by
  refine CtI.of RX8 [(0, .ref h0), (1, .int x_0), (2, .int x_1), (3, .int x_2), (4, .int x_3), (5, .int x_4), (6, .int x_5), (7, .int 3)] (Nat.le_of_ble_eq_true rfl) rfl (by decide) rfl ?_
  intro p e s m args below meth c E hr
  have J148 : K_X8_spells_3_148 G w h0 v = F_X8_spells_3 G w v h0 x_0 x_1 x_2 x_3 x_4 x_5 → J p l e rm_X8_spells_3 s m args below meth c 0 0 (MQ below (QcI D dA G (fun r v1 w1 => v1 = v ∧ w1 = w ∧ Bd r 0 1 ∧ r = F_X8_spells_3 G w v h0 x_0 x_1 x_2 x_3 x_4 x_5)) args s 0 0 (dm G)) D dA G (dm G) s.heap 9 v w [] 148 [] := by
    intro hK
    refine J_iconst E 1 dX8_spells_148 (by decide) ?_
    refine J_goto E 153 dX8_spells_149 (by decide) ?_
    exact J_zret E hr (Bd.z (Bd.lit 1 1 (by decide)) (by decide)) dX8_spells_153 ⟨rfl, rfl, ((Bd.lit 1 1 (by decide)).w 0 1 (by decide)), ((kx_X8_spells_3_1).symm.trans hK)⟩
  have J118 : Bd x_5 0 0 → Bd 3 3 3 → ∀ x3 : Int32, Bd x3 0 1 → ∀ x6 : Int32, x6 = v h0 7 → Bd x6 0 150 → (x3 = 0 ∨ Bd x6 0 147) → K_X8_spells_3_118 G w h0 v x_5 (3 : Int32) x3 = F_X8_spells_3 G w v h0 x_0 x_1 x_2 x_3 x_4 x_5 → J p l e rm_X8_spells_3 s m args below meth c 0 0 (MQ below (QcI D dA G (fun r v1 w1 => v1 = v ∧ w1 = w ∧ Bd r 0 1 ∧ r = F_X8_spells_3 G w v h0 x_0 x_1 x_2 x_3 x_4 x_5)) args s 0 0 (dm G)) D dA G (dm G) s.heap 9 v w [(0, .ref h0), (6, .int x_5), (7, .int 3)] 118 [.int x3] := by
    intro b1 b2 x3 b4 x6 e7 b5 h8 hK
    refine J_istore E [(8, .int x3), (0, .ref h0), (6, .int x_5), (7, .int 3)] dX8_spells_118 (by decide) rfl ?_
    refine J_iload E dX8_spells_120 0 rfl ?_
    refine J_if_eq E 152 dX8_spells_122 (by decide) (fun c10 => ?_) (fun c10 => ?_)
    · have b11 : Bd x3 0 0 := Bd.eq_l c10 b4 (Bd.lit 0 0 (by decide)) 0 0 (by decide)
      refine J_iconst E 0 dX8_spells_152 (by decide) ?_
      exact J_zret E hr (Bd.z (Bd.lit 0 0 (by decide)) (by decide)) dX8_spells_153 ⟨rfl, rfl, ((Bd.lit 0 0 (by decide)).w 0 1 (by decide)), ((kx_X8_spells_3_2 (c10)).symm.trans hK)⟩
    · have b12 : Bd x3 1 1 := (Bd.ne_lo c10 b4 (Bd.lit 0 0 (by decide))).w _ _ (by decide)
      have b13 : Bd x6 0 147 := h8.resolve_left c10
      refine J_iload E dX8_spells_125 3 rfl ?_
      refine J_bipush E 6 dX8_spells_127 (by decide) ?_
      refine J_icmp_lt E 148 dX8_spells_129 (by decide) (fun c14 => ?_) (fun c14 => ?_)
      · exact J.sub [] rfl (J148 ((kx_X8_spells_3_3 (c10) (c14)).symm.trans hK))
      · exact Bd.no (Bd.le_l (nlt c14) (Bd.lit 6 6 (by decide)) (Bd.lit 3 3 (by decide)) 3 (by decide)) (by decide)
  have J117 : Bd x_5 0 0 → Bd 3 3 3 → K_X8_spells_3_117 G w h0 v x_5 (3 : Int32) = F_X8_spells_3 G w v h0 x_0 x_1 x_2 x_3 x_4 x_5 → J p l e rm_X8_spells_3 s m args below meth c 0 0 (MQ below (QcI D dA G (fun r v1 w1 => v1 = v ∧ w1 = w ∧ Bd r 0 1 ∧ r = F_X8_spells_3 G w v h0 x_0 x_1 x_2 x_3 x_4 x_5)) args s 0 0 (dm G)) D dA G (dm G) s.heap 9 v w [(0, .ref h0), (6, .int x_5), (7, .int 3)] 117 [] := by
    intro b15 b16 hK
    refine J_iconst E 0 dX8_spells_117 (by decide) ?_
    obtain ⟨x18, e19⟩ : ∃ z : Int32, z = v h0 7 := ⟨_, rfl⟩
    have b20 : Bd x18 0 150 := Ok.fd hOk e19 (S_X8.h S0) rfl
    exact J.sub [0, 1, 2] rfl (J118 b15 (Bd.lit 3 3 (by decide)) 0 ((Bd.lit 0 0 (by decide)).w 0 1 (by decide)) x18 (e19) b20 (Or.inl rfl) ((kx_X8_spells_3_4).symm.trans hK))
  have J113 : Bd x_5 0 0 → Bd 3 3 3 → ∀ x24 : Int32, x24 = v h0 7 → Bd x24 0 147 → K_X8_spells_3_113 G w h0 v x_5 (3 : Int32) = F_X8_spells_3 G w v h0 x_0 x_1 x_2 x_3 x_4 x_5 → J p l e rm_X8_spells_3 s m args below meth c 0 0 (MQ below (QcI D dA G (fun r v1 w1 => v1 = v ∧ w1 = w ∧ Bd r 0 1 ∧ r = F_X8_spells_3 G w v h0 x_0 x_1 x_2 x_3 x_4 x_5)) args s 0 0 (dm G)) D dA G (dm G) s.heap 9 v w [(0, .ref h0), (6, .int x_5), (7, .int 3)] 113 [] := by
    intro b21 b22 x24 e25 b23 hK
    refine J_iconst E 1 dX8_spells_113 (by decide) ?_
    refine J_goto E 118 dX8_spells_114 (by decide) ?_
    exact J.sub [0, 1, 2] rfl (J118 b21 (Bd.lit 3 3 (by decide)) 1 ((Bd.lit 1 1 (by decide)).w 0 1 (by decide)) x24 (e25) (b23.w 0 150 (by decide)) (Or.inr b23) ((kx_X8_spells_3_5).symm.trans hK))
  have J91 : Bd x_4 0 0 → Bd x_5 0 0 → Bd 3 3 3 → ∀ x31 : Int32, x31 = v h0 7 → Bd x31 0 147 → K_X8_spells_3_91 G w h0 v x_4 x_5 (3 : Int32) = F_X8_spells_3 G w v h0 x_0 x_1 x_2 x_3 x_4 x_5 → J p l e rm_X8_spells_3 s m args below meth c 0 0 (MQ below (QcI D dA G (fun r v1 w1 => v1 = v ∧ w1 = w ∧ Bd r 0 1 ∧ r = F_X8_spells_3 G w v h0 x_0 x_1 x_2 x_3 x_4 x_5)) args s 0 0 (dm G)) D dA G (dm G) s.heap 9 v w [(0, .ref h0), (5, .int x_4), (6, .int x_5), (7, .int 3)] 91 [] := by
    intro b27 b28 b29 x31 e32 b30 hK
    refine J_iload E dX8_spells_91 3 rfl ?_
    refine J_iconst E 5 dX8_spells_93 (by decide) ?_
    refine J_icmp_lt E 113 dX8_spells_94 (by decide) (fun c34 => ?_) (fun c34 => ?_)
    · exact J.sub [0, 2, 3] rfl (J113 b28 (Bd.lit 3 3 (by decide)) x31 (e32) b30 ((kx_X8_spells_3_6 (c34)).symm.trans hK))
    · exact Bd.no (Bd.le_l (nlt c34) (Bd.lit 5 5 (by decide)) (Bd.lit 3 3 (by decide)) 3 (by decide)) (by decide)
  have J62 : Bd x_3 0 0 → Bd x_4 0 0 → Bd x_5 0 0 → Bd 3 3 3 → ∀ x39 : Int32, Bd x39 0 1 → ∀ x42 : Int32, x42 = v h0 7 → Bd x42 0 150 → (x39 = 0 ∨ Bd x42 0 147) → K_X8_spells_3_62 G w h0 v x_3 x_4 x_5 (3 : Int32) x39 = F_X8_spells_3 G w v h0 x_0 x_1 x_2 x_3 x_4 x_5 → J p l e rm_X8_spells_3 s m args below meth c 0 0 (MQ below (QcI D dA G (fun r v1 w1 => v1 = v ∧ w1 = w ∧ Bd r 0 1 ∧ r = F_X8_spells_3 G w v h0 x_0 x_1 x_2 x_3 x_4 x_5)) args s 0 0 (dm G)) D dA G (dm G) s.heap 9 v w [(0, .ref h0), (4, .int x_3), (5, .int x_4), (6, .int x_5), (7, .int 3)] 62 [.int x39] := by
    intro b35 b36 b37 b38 x39 b40 x42 e43 b41 h44 hK
    refine J_istore E [(8, .int x39), (0, .ref h0), (4, .int x_3), (5, .int x_4), (6, .int x_5), (7, .int 3)] dX8_spells_62 (by decide) rfl ?_
    refine J_iload E dX8_spells_64 0 rfl ?_
    refine J_if_eq E 117 dX8_spells_66 (by decide) (fun c46 => ?_) (fun c46 => ?_)
    · have b47 : Bd x39 0 0 := Bd.eq_l c46 b40 (Bd.lit 0 0 (by decide)) 0 0 (by decide)
      exact J.sub [1, 4, 5] rfl (J117 b37 (Bd.lit 3 3 (by decide)) ((kx_X8_spells_3_7 (c46)).symm.trans hK))
    · have b48 : Bd x39 1 1 := (Bd.ne_lo c46 b40 (Bd.lit 0 0 (by decide))).w _ _ (by decide)
      have b49 : Bd x42 0 147 := h44.resolve_left c46
      refine J_iload E dX8_spells_69 5 rfl ?_
      refine J_iconst E 4 dX8_spells_71 (by decide) ?_
      refine J_icmp_lt E 91 dX8_spells_72 (by decide) (fun c50 => ?_) (fun c50 => ?_)
      · exact J.sub [1, 3, 4, 5] rfl (J91 b36 b37 (Bd.lit 3 3 (by decide)) x42 (e43) b49 ((kx_X8_spells_3_8 (c46) (c50)).symm.trans hK))
      · exact Bd.no (Bd.le_l (nlt c50) (Bd.lit 4 4 (by decide)) (Bd.lit 3 3 (by decide)) 3 (by decide)) (by decide)
  have J61 : Bd x_3 0 0 → Bd x_4 0 0 → Bd x_5 0 0 → Bd 3 3 3 → K_X8_spells_3_61 G w h0 v x_3 x_4 x_5 (3 : Int32) = F_X8_spells_3 G w v h0 x_0 x_1 x_2 x_3 x_4 x_5 → J p l e rm_X8_spells_3 s m args below meth c 0 0 (MQ below (QcI D dA G (fun r v1 w1 => v1 = v ∧ w1 = w ∧ Bd r 0 1 ∧ r = F_X8_spells_3 G w v h0 x_0 x_1 x_2 x_3 x_4 x_5)) args s 0 0 (dm G)) D dA G (dm G) s.heap 9 v w [(0, .ref h0), (4, .int x_3), (5, .int x_4), (6, .int x_5), (7, .int 3)] 61 [] := by
    intro b51 b52 b53 b54 hK
    refine J_iconst E 0 dX8_spells_61 (by decide) ?_
    obtain ⟨x56, e57⟩ : ∃ z : Int32, z = v h0 7 := ⟨_, rfl⟩
    have b58 : Bd x56 0 150 := Ok.fd hOk e57 (S_X8.h S0) rfl
    exact J.sub [0, 1, 2, 3, 4] rfl (J62 b51 b52 b53 (Bd.lit 3 3 (by decide)) 0 ((Bd.lit 0 0 (by decide)).w 0 1 (by decide)) x56 (e57) b58 (Or.inl rfl) ((kx_X8_spells_3_9).symm.trans hK))
  have hK : K_X8_spells_3_e G w v h0 x_0 x_1 x_2 x_3 x_4 x_5 = F_X8_spells_3 G w v h0 x_0 x_1 x_2 x_3 x_4 x_5 := rfl
  refine J_aload_n E dX8_spells_0 0 rfl ?_
  refine J_getI E in_X8 rfl (S_X8.h S0) 6 (by decide) wd941 rfl dX8_spells_1 (fun x59 e60 => ?_)
  have b61 : Bd x59 0 150 := Ok.fd hOk e60 (S_X8.h S0) rfl
  refine J_aload_n E dX8_spells_4 0 rfl ?_
  refine J_getI E in_X8 rfl (S_X8.h S0) 7 (by decide) wd942 rfl dX8_spells_5 (fun x62 e63 => ?_)
  have b64 : Bd x62 0 150 := Ok.fd hOk e63 (S_X8.h S0) rfl
  refine J_isub E dX8_spells_8 (fun x65 e66 => ?_)
  have b67 : Bd x65 (-150) 150 := (Bd.sub e66 b61 b64 (by decide)).w _ _ (by decide)
  refine J_iload E dX8_spells_9 7 rfl ?_
  refine J_icmp_ne E 61 dX8_spells_11 (by decide) (fun c68 => ?_) (fun c68 => ?_)
  · exact J.sub [0, 4, 5, 6, 7] rfl (J61 bx_3 bx_4 bx_5 (Bd.lit 3 3 (by decide)) ((kx_X8_spells_3_10 (e60) (e63) (e66) (c68)).symm.trans hK))
  · have b69 : Bd x65 3 3 := Bd.eq_l c68 b67 (Bd.lit 3 3 (by decide)) 3 3 (by decide)
    have b70 : Bd x62 0 147 := Bd.suby e66 b61 b64 b69 0 147 (by decide)
    refine J_aload_n E dX8_spells_14 0 rfl ?_
    refine J_getR E in_X8 rfl (S_X8.h S0) 4 (by decide) wd939 rfl dX8_spells_15 ?_
    refine J_aload_n E dX8_spells_18 0 rfl ?_
    refine J_getI E in_X8 rfl (S_X8.h S0) 7 (by decide) wd942 rfl dX8_spells_19 (fun x71 e72 => ?_)
    rw [show x71 = x62 from e72.trans (e63).symm]
    refine J_bald1 E (S_X8.f4 S0) (Bd.in b70 (by decide)) dX8_spells_22 (fun x73 e74 => ?_)
    have b75 : Bd x73 (-128) 127 := Bd.e (Ok.ld hOk (S_X8.f4 S0) b70 0 148 (-128) 127 (by decide) (by decide +kernel)) e74
    refine J_iload_n E dX8_spells_23 1 rfl ?_
    refine J_icmp_ne E 61 dX8_spells_24 (by decide) (fun c76 => ?_) (fun c76 => ?_)
    · exact J.sub [0, 4, 5, 6, 7] rfl (J61 bx_3 bx_4 bx_5 (Bd.lit 3 3 (by decide)) ((kx_X8_spells_3_11 (e60) (e63) (e66) (e74) (c68) (c76)).symm.trans hK))
    · have b77 : Bd x73 111 111 := Bd.eq_l c76 b75 bx_0 111 111 (by decide)
      refine J_aload_n E dX8_spells_27 0 rfl ?_
      refine J_getR E in_X8 rfl (S_X8.h S0) 4 (by decide) wd939 rfl dX8_spells_28 ?_
      refine J_aload_n E dX8_spells_31 0 rfl ?_
      refine J_getI E in_X8 rfl (S_X8.h S0) 7 (by decide) wd942 rfl dX8_spells_32 (fun x78 e79 => ?_)
      rw [show x78 = x62 from e79.trans (e63).symm]
      refine J_iconst E 1 dX8_spells_35 (by decide) ?_
      refine J_iadd E dX8_spells_36 (fun x80 e81 => ?_)
      have b82 : Bd x80 1 148 := (Bd.add e81 b70 (Bd.lit 1 1 (by decide)) (by decide)).w _ _ (by decide)
      refine J_bald1 E (S_X8.f4 S0) (Bd.in b82 (by decide)) dX8_spells_37 (fun x83 e84 => ?_)
      have b85 : Bd x83 (-128) 127 := Bd.e (Ok.ld hOk (S_X8.f4 S0) b82 1 148 (-128) 127 (by decide) (by decide +kernel)) e84
      refine J_iload_n E dX8_spells_38 2 rfl ?_
      refine J_icmp_ne E 61 dX8_spells_39 (by decide) (fun c86 => ?_) (fun c86 => ?_)
      · exact J.sub [0, 4, 5, 6, 7] rfl (J61 bx_3 bx_4 bx_5 (Bd.lit 3 3 (by decide)) ((kx_X8_spells_3_12 (e60) (e63) (e66) (e74) (e81) (e84) (c68) (c76) (c86)).symm.trans hK))
      · have b87 : Bd x83 110 119 := Bd.eq_l c86 b85 bx_1 110 119 (by decide)
        refine J_aload_n E dX8_spells_42 0 rfl ?_
        refine J_getR E in_X8 rfl (S_X8.h S0) 4 (by decide) wd939 rfl dX8_spells_43 ?_
        refine J_aload_n E dX8_spells_46 0 rfl ?_
        refine J_getI E in_X8 rfl (S_X8.h S0) 7 (by decide) wd942 rfl dX8_spells_47 (fun x88 e89 => ?_)
        rw [show x88 = x62 from e89.trans (e63).symm]
        refine J_iconst E 2 dX8_spells_50 (by decide) ?_
        refine J_iadd E dX8_spells_51 (fun x90 e91 => ?_)
        have b92 : Bd x90 2 149 := (Bd.add e91 b70 (Bd.lit 2 2 (by decide)) (by decide)).w _ _ (by decide)
        refine J_bald1 E (S_X8.f4 S0) (Bd.in b92 (by decide)) dX8_spells_52 (fun x93 e94 => ?_)
        have b95 : Bd x93 (-128) 127 := Bd.e (Ok.ld hOk (S_X8.f4 S0) b92 2 148 (-128) 127 (by decide) (by decide +kernel)) e94
        refine J_iload_n E dX8_spells_53 3 rfl ?_
        refine J_icmp_ne E 61 dX8_spells_54 (by decide) (fun c96 => ?_) (fun c96 => ?_)
        · exact J.sub [0, 4, 5, 6, 7] rfl (J61 bx_3 bx_4 bx_5 (Bd.lit 3 3 (by decide)) ((kx_X8_spells_3_13 (e60) (e63) (e66) (e74) (e81) (e84) (e91) (e94) (c68) (c76) (c86) (c96)).symm.trans hK))
        · have b97 : Bd x93 101 110 := Bd.eq_l c96 b95 bx_2 101 110 (by decide)
          refine J_iconst E 1 dX8_spells_57 (by decide) ?_
          refine J_goto E 62 dX8_spells_58 (by decide) ?_
          exact J.sub [0, 4, 5, 6, 7] rfl (J62 bx_3 bx_4 bx_5 (Bd.lit 3 3 (by decide)) 1 ((Bd.lit 1 1 (by decide)).w 0 1 (by decide)) x62 (e63) (b70.w 0 150 (by decide)) (Or.inr b70) ((kx_X8_spells_3_14 (e60) (e63) (e66) (e74) (e81) (e84) (e91) (e94) (c68) (c76) (c86) (c96)).symm.trans hK))

def K_X8_spells_5_148 (G : Gm) (w : Mw) (h0 : Nat) (v : Mv) : Int32 :=
  (1 : Int32)
def K_X8_spells_5_118 (G : Gm) (w : Mw) (h0 : Nat) (v : Mv) (x_5 : Int32) (x9 : Int32) (x3 : Int32) : Int32 :=
  if x3 = (0 : Int32) then ((0 : Int32)) else (if (5 : Int32) < (6 : Int32) then (K_X8_spells_5_148 G w h0 v) else ((0 : Int32)))
def K_X8_spells_5_117 (G : Gm) (w : Mw) (h0 : Nat) (v : Mv) (x_5 : Int32) (x17 : Int32) : Int32 :=
  K_X8_spells_5_118 G w h0 v x_5 (5 : Int32) (0 : Int32)
def K_X8_spells_5_113 (G : Gm) (w : Mw) (h0 : Nat) (v : Mv) (x_5 : Int32) (x26 : Int32) : Int32 :=
  K_X8_spells_5_118 G w h0 v x_5 (5 : Int32) (1 : Int32)
def K_X8_spells_5_91 (G : Gm) (w : Mw) (h0 : Nat) (v : Mv) (x_4 : Int32) (x_5 : Int32) (x33 : Int32) : Int32 :=
  if (5 : Int32) < (5 : Int32) then ((0 : Int32)) else (if (v (rf G h0 4) (Int32.toNatClampNeg ((v h0 7) + (4 : Int32)))) = x_4 then (K_X8_spells_5_113 G w h0 v x_5 (5 : Int32)) else (K_X8_spells_5_117 G w h0 v x_5 (5 : Int32)))
def K_X8_spells_5_62 (G : Gm) (w : Mw) (h0 : Nat) (v : Mv) (x_3 : Int32) (x_4 : Int32) (x_5 : Int32) (x55 : Int32) (x49 : Int32) : Int32 :=
  if x49 = (0 : Int32) then (K_X8_spells_5_117 G w h0 v x_5 (5 : Int32)) else (if (5 : Int32) < (4 : Int32) then ((0 : Int32)) else (if (v (rf G h0 4) (Int32.toNatClampNeg ((v h0 7) + (3 : Int32)))) = x_3 then (K_X8_spells_5_91 G w h0 v x_4 x_5 (5 : Int32)) else (K_X8_spells_5_117 G w h0 v x_5 (5 : Int32))))
def K_X8_spells_5_61 (G : Gm) (w : Mw) (h0 : Nat) (v : Mv) (x_3 : Int32) (x_4 : Int32) (x_5 : Int32) (x75 : Int32) : Int32 :=
  K_X8_spells_5_62 G w h0 v x_3 x_4 x_5 (5 : Int32) (0 : Int32)
def K_X8_spells_5_e (G : Gm) (w : Mw) (v : Mv) (h0 : Nat) (x_0 : Int32) (x_1 : Int32) (x_2 : Int32) (x_3 : Int32) (x_4 : Int32) (x_5 : Int32) : Int32 :=
  if ((v h0 6) - (v h0 7)) = (5 : Int32) then (if (v (rf G h0 4) (Int32.toNatClampNeg (v h0 7))) = x_0 then (if (v (rf G h0 4) (Int32.toNatClampNeg ((v h0 7) + (1 : Int32)))) = x_1 then (if (v (rf G h0 4) (Int32.toNatClampNeg ((v h0 7) + (2 : Int32)))) = x_2 then (K_X8_spells_5_62 G w h0 v x_3 x_4 x_5 (5 : Int32) (1 : Int32)) else (K_X8_spells_5_61 G w h0 v x_3 x_4 x_5 (5 : Int32))) else (K_X8_spells_5_61 G w h0 v x_3 x_4 x_5 (5 : Int32))) else (K_X8_spells_5_61 G w h0 v x_3 x_4 x_5 (5 : Int32))) else (K_X8_spells_5_61 G w h0 v x_3 x_4 x_5 (5 : Int32))
def F_X8_spells_5 (G : Gm) (w : Mw) (v : Mv) (h0 : Nat) (x_0 : Int32) (x_1 : Int32) (x_2 : Int32) (x_3 : Int32) (x_4 : Int32) (x_5 : Int32) : Int32 := K_X8_spells_5_e G w v h0 x_0 x_1 x_2 x_3 x_4 x_5
set_option maxRecDepth 100000 in
theorem kx_X8_spells_5_1 {G : Gm} {w : Mw} {h0 : Nat} {v : Mv}   : K_X8_spells_5_148 G w h0 v = (1 : Int32) := by
  first | rw [K_X8_spells_5_148] | simp only [K_X8_spells_5_148]
set_option maxRecDepth 100000 in
theorem kx_X8_spells_5_2 {G : Gm} {w : Mw} {h0 : Nat} {v : Mv} {x_5 : Int32} {x3 : Int32}  (k0 : x3 = (0 : Int32)) : K_X8_spells_5_118 G w h0 v x_5 (5 : Int32) x3 = (0 : Int32) := by
  first | rw [K_X8_spells_5_118, if_pos k0] | simp only [K_X8_spells_5_118, if_pos k0]
set_option maxRecDepth 100000 in
theorem kx_X8_spells_5_3 {G : Gm} {w : Mw} {h0 : Nat} {v : Mv} {x_5 : Int32} {x3 : Int32}  (k0 : ¬ (x3 = (0 : Int32))) (k1 : (5 : Int32) < (6 : Int32)) : K_X8_spells_5_118 G w h0 v x_5 (5 : Int32) x3 = K_X8_spells_5_148 G w h0 v := by
  first | rw [K_X8_spells_5_118, if_neg k0, if_pos k1] | simp only [K_X8_spells_5_118, if_neg k0, if_pos k1]
set_option maxRecDepth 100000 in
theorem kx_X8_spells_5_4 {G : Gm} {w : Mw} {h0 : Nat} {v : Mv} {x_5 : Int32}   : K_X8_spells_5_117 G w h0 v x_5 (5 : Int32) = K_X8_spells_5_118 G w h0 v x_5 (5 : Int32) (0 : Int32) := by
  first | rw [K_X8_spells_5_117] | simp only [K_X8_spells_5_117]
set_option maxRecDepth 100000 in
theorem kx_X8_spells_5_5 {G : Gm} {w : Mw} {h0 : Nat} {v : Mv} {x_5 : Int32}   : K_X8_spells_5_113 G w h0 v x_5 (5 : Int32) = K_X8_spells_5_118 G w h0 v x_5 (5 : Int32) (1 : Int32) := by
  first | rw [K_X8_spells_5_113] | simp only [K_X8_spells_5_113]
set_option maxRecDepth 100000 in
theorem kx_X8_spells_5_6 {G : Gm} {w : Mw} {h0 : Nat} {v : Mv} {x_4 : Int32} {x_5 : Int32} {x31 : Int32} {x37 : Int32} {x40 : Int32} (a0 : x31 = v h0 7) (a1 : x37 = x31 + (4 : Int32)) (a2 : x40 = v (rf G h0 4) (Int32.toNatClampNeg x37)) (k0 : ¬ ((5 : Int32) < (5 : Int32))) (k1 : ¬ (x40 = x_4)) : K_X8_spells_5_91 G w h0 v x_4 x_5 (5 : Int32) = K_X8_spells_5_117 G w h0 v x_5 (5 : Int32) := by
  subst a2; subst a1; subst a0; first | rw [K_X8_spells_5_91, if_neg k0, if_neg k1] | simp only [K_X8_spells_5_91, if_neg k0, if_neg k1]
set_option maxRecDepth 100000 in
theorem kx_X8_spells_5_7 {G : Gm} {w : Mw} {h0 : Nat} {v : Mv} {x_4 : Int32} {x_5 : Int32} {x31 : Int32} {x37 : Int32} {x40 : Int32} (a0 : x31 = v h0 7) (a1 : x37 = x31 + (4 : Int32)) (a2 : x40 = v (rf G h0 4) (Int32.toNatClampNeg x37)) (k0 : ¬ ((5 : Int32) < (5 : Int32))) (k1 : x40 = x_4) : K_X8_spells_5_91 G w h0 v x_4 x_5 (5 : Int32) = K_X8_spells_5_113 G w h0 v x_5 (5 : Int32) := by
  subst a2; subst a1; subst a0; first | rw [K_X8_spells_5_91, if_neg k0, if_pos k1] | simp only [K_X8_spells_5_91, if_neg k0, if_pos k1]
set_option maxRecDepth 100000 in
theorem kx_X8_spells_5_8 {G : Gm} {w : Mw} {h0 : Nat} {v : Mv} {x_3 : Int32} {x_4 : Int32} {x_5 : Int32} {x49 : Int32}  (k0 : x49 = (0 : Int32)) : K_X8_spells_5_62 G w h0 v x_3 x_4 x_5 (5 : Int32) x49 = K_X8_spells_5_117 G w h0 v x_5 (5 : Int32) := by
  first | rw [K_X8_spells_5_62, if_pos k0] | simp only [K_X8_spells_5_62, if_pos k0]
set_option maxRecDepth 100000 in
theorem kx_X8_spells_5_9 {G : Gm} {w : Mw} {h0 : Nat} {v : Mv} {x_3 : Int32} {x_4 : Int32} {x_5 : Int32} {x49 : Int32} {x52 : Int32} {x63 : Int32} {x66 : Int32} (a0 : x52 = v h0 7) (a1 : x63 = x52 + (3 : Int32)) (a2 : x66 = v (rf G h0 4) (Int32.toNatClampNeg x63)) (k0 : ¬ (x49 = (0 : Int32))) (k1 : ¬ ((5 : Int32) < (4 : Int32))) (k2 : ¬ (x66 = x_3)) : K_X8_spells_5_62 G w h0 v x_3 x_4 x_5 (5 : Int32) x49 = K_X8_spells_5_117 G w h0 v x_5 (5 : Int32) := by
  subst a2; subst a1; subst a0; first | rw [K_X8_spells_5_62, if_neg k0, if_neg k1, if_neg k2] | simp only [K_X8_spells_5_62, if_neg k0, if_neg k1, if_neg k2]
set_option maxRecDepth 100000 in
theorem kx_X8_spells_5_10 {G : Gm} {w : Mw} {h0 : Nat} {v : Mv} {x_3 : Int32} {x_4 : Int32} {x_5 : Int32} {x49 : Int32} {x52 : Int32} {x63 : Int32} {x66 : Int32} (a0 : x52 = v h0 7) (a1 : x63 = x52 + (3 : Int32)) (a2 : x66 = v (rf G h0 4) (Int32.toNatClampNeg x63)) (k0 : ¬ (x49 = (0 : Int32))) (k1 : ¬ ((5 : Int32) < (4 : Int32))) (k2 : x66 = x_3) : K_X8_spells_5_62 G w h0 v x_3 x_4 x_5 (5 : Int32) x49 = K_X8_spells_5_91 G w h0 v x_4 x_5 (5 : Int32) := by
  subst a2; subst a1; subst a0; first | rw [K_X8_spells_5_62, if_neg k0, if_neg k1, if_pos k2] | simp only [K_X8_spells_5_62, if_neg k0, if_neg k1, if_pos k2]
set_option maxRecDepth 100000 in
theorem kx_X8_spells_5_11 {G : Gm} {w : Mw} {h0 : Nat} {v : Mv} {x_3 : Int32} {x_4 : Int32} {x_5 : Int32}   : K_X8_spells_5_61 G w h0 v x_3 x_4 x_5 (5 : Int32) = K_X8_spells_5_62 G w h0 v x_3 x_4 x_5 (5 : Int32) (0 : Int32) := by
  first | rw [K_X8_spells_5_61] | simp only [K_X8_spells_5_61]
set_option maxRecDepth 100000 in
theorem kx_X8_spells_5_12 {G : Gm} {w : Mw} {v : Mv} {h0 : Nat} {x_0 : Int32} {x_1 : Int32} {x_2 : Int32} {x_3 : Int32} {x_4 : Int32} {x_5 : Int32} {x79 : Int32} {x82 : Int32} {x85 : Int32} (a0 : x79 = v h0 6) (a1 : x82 = v h0 7) (a2 : x85 = x79 - x82) (k0 : ¬ (x85 = (5 : Int32))) : K_X8_spells_5_e G w v h0 x_0 x_1 x_2 x_3 x_4 x_5 = K_X8_spells_5_61 G w h0 v x_3 x_4 x_5 (5 : Int32) := by
  subst a2; subst a1; subst a0; first | rw [K_X8_spells_5_e, if_neg k0] | simp only [K_X8_spells_5_e, if_neg k0]
set_option maxRecDepth 100000 in
theorem kx_X8_spells_5_13 {G : Gm} {w : Mw} {v : Mv} {h0 : Nat} {x_0 : Int32} {x_1 : Int32} {x_2 : Int32} {x_3 : Int32} {x_4 : Int32} {x_5 : Int32} {x79 : Int32} {x82 : Int32} {x85 : Int32} {x93 : Int32} (a0 : x79 = v h0 6) (a1 : x82 = v h0 7) (a2 : x85 = x79 - x82) (a3 : x93 = v (rf G h0 4) (Int32.toNatClampNeg x82)) (k0 : x85 = (5 : Int32)) (k1 : ¬ (x93 = x_0)) : K_X8_spells_5_e G w v h0 x_0 x_1 x_2 x_3 x_4 x_5 = K_X8_spells_5_61 G w h0 v x_3 x_4 x_5 (5 : Int32) := by
  subst a3; subst a2; subst a1; subst a0; first | rw [K_X8_spells_5_e, if_pos k0, if_neg k1] | simp only [K_X8_spells_5_e, if_pos k0, if_neg k1]
set_option maxRecDepth 100000 in
theorem kx_X8_spells_5_14 {G : Gm} {w : Mw} {v : Mv} {h0 : Nat} {x_0 : Int32} {x_1 : Int32} {x_2 : Int32} {x_3 : Int32} {x_4 : Int32} {x_5 : Int32} {x79 : Int32} {x82 : Int32} {x100 : Int32} {x85 : Int32} {x93 : Int32} {x103 : Int32} (a0 : x79 = v h0 6) (a1 : x82 = v h0 7) (a2 : x85 = x79 - x82) (a3 : x93 = v (rf G h0 4) (Int32.toNatClampNeg x82)) (a4 : x100 = x82 + (1 : Int32)) (a5 : x103 = v (rf G h0 4) (Int32.toNatClampNeg x100)) (k0 : x85 = (5 : Int32)) (k1 : x93 = x_0) (k2 : ¬ (x103 = x_1)) : K_X8_spells_5_e G w v h0 x_0 x_1 x_2 x_3 x_4 x_5 = K_X8_spells_5_61 G w h0 v x_3 x_4 x_5 (5 : Int32) := by
  subst a5; subst a4; subst a3; subst a2; subst a1; subst a0; first | rw [K_X8_spells_5_e, if_pos k0, if_pos k1, if_neg k2] | simp only [K_X8_spells_5_e, if_pos k0, if_pos k1, if_neg k2]
set_option maxRecDepth 100000 in
theorem kx_X8_spells_5_15 {G : Gm} {w : Mw} {v : Mv} {h0 : Nat} {x_0 : Int32} {x_1 : Int32} {x_2 : Int32} {x_3 : Int32} {x_4 : Int32} {x_5 : Int32} {x79 : Int32} {x82 : Int32} {x100 : Int32} {x110 : Int32} {x85 : Int32} {x93 : Int32} {x103 : Int32} {x113 : Int32} (a0 : x79 = v h0 6) (a1 : x82 = v h0 7) (a2 : x85 = x79 - x82) (a3 : x93 = v (rf G h0 4) (Int32.toNatClampNeg x82)) (a4 : x100 = x82 + (1 : Int32)) (a5 : x103 = v (rf G h0 4) (Int32.toNatClampNeg x100)) (a6 : x110 = x82 + (2 : Int32)) (a7 : x113 = v (rf G h0 4) (Int32.toNatClampNeg x110)) (k0 : x85 = (5 : Int32)) (k1 : x93 = x_0) (k2 : x103 = x_1) (k3 : ¬ (x113 = x_2)) : K_X8_spells_5_e G w v h0 x_0 x_1 x_2 x_3 x_4 x_5 = K_X8_spells_5_61 G w h0 v x_3 x_4 x_5 (5 : Int32) := by
  subst a7; subst a6; subst a5; subst a4; subst a3; subst a2; subst a1; subst a0; first | rw [K_X8_spells_5_e, if_pos k0, if_pos k1, if_pos k2, if_neg k3] | simp only [K_X8_spells_5_e, if_pos k0, if_pos k1, if_pos k2, if_neg k3]
set_option maxRecDepth 100000 in
theorem kx_X8_spells_5_16 {G : Gm} {w : Mw} {v : Mv} {h0 : Nat} {x_0 : Int32} {x_1 : Int32} {x_2 : Int32} {x_3 : Int32} {x_4 : Int32} {x_5 : Int32} {x79 : Int32} {x82 : Int32} {x100 : Int32} {x110 : Int32} {x85 : Int32} {x93 : Int32} {x103 : Int32} {x113 : Int32} (a0 : x79 = v h0 6) (a1 : x82 = v h0 7) (a2 : x85 = x79 - x82) (a3 : x93 = v (rf G h0 4) (Int32.toNatClampNeg x82)) (a4 : x100 = x82 + (1 : Int32)) (a5 : x103 = v (rf G h0 4) (Int32.toNatClampNeg x100)) (a6 : x110 = x82 + (2 : Int32)) (a7 : x113 = v (rf G h0 4) (Int32.toNatClampNeg x110)) (k0 : x85 = (5 : Int32)) (k1 : x93 = x_0) (k2 : x103 = x_1) (k3 : x113 = x_2) : K_X8_spells_5_e G w v h0 x_0 x_1 x_2 x_3 x_4 x_5 = K_X8_spells_5_62 G w h0 v x_3 x_4 x_5 (5 : Int32) (1 : Int32) := by
  subst a7; subst a6; subst a5; subst a4; subst a3; subst a2; subst a1; subst a0; first | rw [K_X8_spells_5_e, if_pos k0, if_pos k1, if_pos k2, if_pos k3] | simp only [K_X8_spells_5_e, if_pos k0, if_pos k1, if_pos k2, if_pos k3]
abbrev rm_X8_spells_5 : Room := { frames := 0, cells := 0, slots := 0, locals := 0 }
set_option maxHeartbeats 4000000 in
set_option maxRecDepth 100000 in
theorem ct_X8_spells_5 (l : Launch) (D : va_G) (dA : Nat → ClassId) (G : Gm) (v : Mv) (w : Mw) (hOk : Ok G v w) (h0 : Nat) (S0 : S_X8 G h0) (x_0 : Int32) (bx_0 : Bd x_0 108 121) (x_1 : Int32) (bx_1 : Bd x_1 101 104) (x_2 : Int32) (bx_2 : Bd x_2 97 105) (x_3 : Int32) (bx_3 : Bd x_3 110 118) (x_4 : Int32) (bx_4 : Bd x_4 101 115) (x_5 : Int32) (bx_5 : Bd x_5 0 0) : CtI l yX8_spells cX8_spells 9 (some .boolean) rm_X8_spells_5 D dA G [.ref h0, .int x_0, .int x_1, .int x_2, .int x_3, .int x_4, .int x_5, .int 5] v w (fun r v1 w1 => v1 = v ∧ w1 = w ∧ Bd r 0 1 ∧ r = F_X8_spells_5 G w v h0 x_0 x_1 x_2 x_3 x_4 x_5) := by
  refine CtI.of RX8 [(0, .ref h0), (1, .int x_0), (2, .int x_1), (3, .int x_2), (4, .int x_3), (5, .int x_4), (6, .int x_5), (7, .int 5)] (Nat.le_of_ble_eq_true rfl) rfl (by decide) rfl ?_
  intro p e s m args below meth c E hr
  have J148 : K_X8_spells_5_148 G w h0 v = F_X8_spells_5 G w v h0 x_0 x_1 x_2 x_3 x_4 x_5 → J p l e rm_X8_spells_5 s m args below meth c 0 0 (MQ below (QcI D dA G (fun r v1 w1 => v1 = v ∧ w1 = w ∧ Bd r 0 1 ∧ r = F_X8_spells_5 G w v h0 x_0 x_1 x_2 x_3 x_4 x_5)) args s 0 0 (dm G)) D dA G (dm G) s.heap 9 v w [] 148 [] := by
    intro hK
    refine J_iconst E 1 dX8_spells_148 (by decide) ?_
    refine J_goto E 153 dX8_spells_149 (by decide) ?_
    exact J_zret E hr (Bd.z (Bd.lit 1 1 (by decide)) (by decide)) dX8_spells_153 ⟨rfl, rfl, ((Bd.lit 1 1 (by decide)).w 0 1 (by decide)), ((kx_X8_spells_5_1).symm.trans hK)⟩
  have J118 : Bd x_5 0 0 → Bd 5 5 5 → ∀ x3 : Int32, Bd x3 0 1 → ∀ x6 : Int32, x6 = v h0 7 → Bd x6 0 150 → (x3 = 0 ∨ Bd x6 0 145) → K_X8_spells_5_118 G w h0 v x_5 (5 : Int32) x3 = F_X8_spells_5 G w v h0 x_0 x_1 x_2 x_3 x_4 x_5 → J p l e rm_X8_spells_5 s m args below meth c 0 0 (MQ below (QcI D dA G (fun r v1 w1 => v1 = v ∧ w1 = w ∧ Bd r 0 1 ∧ r = F_X8_spells_5 G w v h0 x_0 x_1 x_2 x_3 x_4 x_5)) args s 0 0 (dm G)) D dA G (dm G) s.heap 9 v w [(0, .ref h0), (6, .int x_5), (7, .int 5)] 118 [.int x3] := by
    intro b1 b2 x3 b4 x6 e7 b5 h8 hK
    refine J_istore E [(8, .int x3), (0, .ref h0), (6, .int x_5), (7, .int 5)] dX8_spells_118 (by decide) rfl ?_
    refine J_iload E dX8_spells_120 0 rfl ?_
    refine J_if_eq E 152 dX8_spells_122 (by decide) (fun c10 => ?_) (fun c10 => ?_)
    · have b11 : Bd x3 0 0 := Bd.eq_l c10 b4 (Bd.lit 0 0 (by decide)) 0 0 (by decide)
      refine J_iconst E 0 dX8_spells_152 (by decide) ?_
      exact J_zret E hr (Bd.z (Bd.lit 0 0 (by decide)) (by decide)) dX8_spells_153 ⟨rfl, rfl, ((Bd.lit 0 0 (by decide)).w 0 1 (by decide)), ((kx_X8_spells_5_2 (c10)).symm.trans hK)⟩
    · have b12 : Bd x3 1 1 := (Bd.ne_lo c10 b4 (Bd.lit 0 0 (by decide))).w _ _ (by decide)
      have b13 : Bd x6 0 145 := h8.resolve_left c10
      refine J_iload E dX8_spells_125 3 rfl ?_
      refine J_bipush E 6 dX8_spells_127 (by decide) ?_
      refine J_icmp_lt E 148 dX8_spells_129 (by decide) (fun c14 => ?_) (fun c14 => ?_)
      · exact J.sub [] rfl (J148 ((kx_X8_spells_5_3 (c10) (c14)).symm.trans hK))
      · exact Bd.no (Bd.le_l (nlt c14) (Bd.lit 6 6 (by decide)) (Bd.lit 5 5 (by decide)) 5 (by decide)) (by decide)
  have J117 : Bd x_5 0 0 → Bd 5 5 5 → K_X8_spells_5_117 G w h0 v x_5 (5 : Int32) = F_X8_spells_5 G w v h0 x_0 x_1 x_2 x_3 x_4 x_5 → J p l e rm_X8_spells_5 s m args below meth c 0 0 (MQ below (QcI D dA G (fun r v1 w1 => v1 = v ∧ w1 = w ∧ Bd r 0 1 ∧ r = F_X8_spells_5 G w v h0 x_0 x_1 x_2 x_3 x_4 x_5)) args s 0 0 (dm G)) D dA G (dm G) s.heap 9 v w [(0, .ref h0), (6, .int x_5), (7, .int 5)] 117 [] := by
    intro b15 b16 hK
    refine J_iconst E 0 dX8_spells_117 (by decide) ?_
    obtain ⟨x18, e19⟩ : ∃ z : Int32, z = v h0 7 := ⟨_, rfl⟩
    have b20 : Bd x18 0 150 := Ok.fd hOk e19 (S_X8.h S0) rfl
    exact J.sub [0, 1, 2] rfl (J118 b15 (Bd.lit 5 5 (by decide)) 0 ((Bd.lit 0 0 (by decide)).w 0 1 (by decide)) x18 (e19) b20 (Or.inl rfl) ((kx_X8_spells_5_4).symm.trans hK))
  have J113 : Bd x_5 0 0 → Bd 5 5 5 → ∀ x24 : Int32, x24 = v h0 7 → Bd x24 0 145 → K_X8_spells_5_113 G w h0 v x_5 (5 : Int32) = F_X8_spells_5 G w v h0 x_0 x_1 x_2 x_3 x_4 x_5 → J p l e rm_X8_spells_5 s m args below meth c 0 0 (MQ below (QcI D dA G (fun r v1 w1 => v1 = v ∧ w1 = w ∧ Bd r 0 1 ∧ r = F_X8_spells_5 G w v h0 x_0 x_1 x_2 x_3 x_4 x_5)) args s 0 0 (dm G)) D dA G (dm G) s.heap 9 v w [(0, .ref h0), (6, .int x_5), (7, .int 5)] 113 [] := by
    intro b21 b22 x24 e25 b23 hK
    refine J_iconst E 1 dX8_spells_113 (by decide) ?_
    refine J_goto E 118 dX8_spells_114 (by decide) ?_
    exact J.sub [0, 1, 2] rfl (J118 b21 (Bd.lit 5 5 (by decide)) 1 ((Bd.lit 1 1 (by decide)).w 0 1 (by decide)) x24 (e25) (b23.w 0 150 (by decide)) (Or.inr b23) ((kx_X8_spells_5_5).symm.trans hK))
  have J91 : Bd x_4 101 115 → Bd x_5 0 0 → Bd 5 5 5 → ∀ x31 : Int32, x31 = v h0 7 → Bd x31 0 145 → K_X8_spells_5_91 G w h0 v x_4 x_5 (5 : Int32) = F_X8_spells_5 G w v h0 x_0 x_1 x_2 x_3 x_4 x_5 → J p l e rm_X8_spells_5 s m args below meth c 0 0 (MQ below (QcI D dA G (fun r v1 w1 => v1 = v ∧ w1 = w ∧ Bd r 0 1 ∧ r = F_X8_spells_5 G w v h0 x_0 x_1 x_2 x_3 x_4 x_5)) args s 0 0 (dm G)) D dA G (dm G) s.heap 9 v w [(0, .ref h0), (5, .int x_4), (6, .int x_5), (7, .int 5)] 91 [] := by
    intro b27 b28 b29 x31 e32 b30 hK
    refine J_iload E dX8_spells_91 3 rfl ?_
    refine J_iconst E 5 dX8_spells_93 (by decide) ?_
    refine J_icmp_lt E 113 dX8_spells_94 (by decide) (fun c34 => ?_) (fun c34 => ?_)
    · exact Bd.no (Bd.lt_l c34 (Bd.lit 5 5 (by decide)) (Bd.lit 5 5 (by decide)) 4 (by decide)) (by decide)
    · refine J_aload_n E dX8_spells_97 0 rfl ?_
      refine J_getR E in_X8 rfl (S_X8.h S0) 4 (by decide) wd939 rfl dX8_spells_98 ?_
      refine J_aload_n E dX8_spells_101 0 rfl ?_
      refine J_getI E in_X8 rfl (S_X8.h S0) 7 (by decide) wd942 rfl dX8_spells_102 (fun x35 e36 => ?_)
      rw [show x35 = x31 from e36.trans (e32).symm]
      refine J_iconst E 4 dX8_spells_105 (by decide) ?_
      refine J_iadd E dX8_spells_106 (fun x37 e38 => ?_)
      have b39 : Bd x37 4 149 := (Bd.add e38 b30 (Bd.lit 4 4 (by decide)) (by decide)).w _ _ (by decide)
      refine J_bald1 E (S_X8.f4 S0) (Bd.in b39 (by decide)) dX8_spells_107 (fun x40 e41 => ?_)
      have b42 : Bd x40 (-128) 127 := Bd.e (Ok.ld hOk (S_X8.f4 S0) b39 4 146 (-128) 127 (by decide) (by decide +kernel)) e41
      refine J_iload E dX8_spells_108 1 rfl ?_
      refine J_icmp_ne E 117 dX8_spells_110 (by decide) (fun c43 => ?_) (fun c43 => ?_)
      · exact J.sub [0, 2, 3] rfl (J117 b28 (Bd.lit 5 5 (by decide)) ((kx_X8_spells_5_6 (e32) (e38) (e41) (c34) (c43)).symm.trans hK))
      · have b44 : Bd x40 101 115 := Bd.eq_l c43 b42 b27 101 115 (by decide)
        exact J.sub [0, 2, 3] rfl (J113 b28 (Bd.lit 5 5 (by decide)) x31 (e32) b30 ((kx_X8_spells_5_7 (e32) (e38) (e41) (c34) (c43)).symm.trans hK))
  have J62 : Bd x_3 110 118 → Bd x_4 101 115 → Bd x_5 0 0 → Bd 5 5 5 → ∀ x49 : Int32, Bd x49 0 1 → ∀ x52 : Int32, x52 = v h0 7 → Bd x52 0 150 → (x49 = 0 ∨ Bd x52 0 145) → K_X8_spells_5_62 G w h0 v x_3 x_4 x_5 (5 : Int32) x49 = F_X8_spells_5 G w v h0 x_0 x_1 x_2 x_3 x_4 x_5 → J p l e rm_X8_spells_5 s m args below meth c 0 0 (MQ below (QcI D dA G (fun r v1 w1 => v1 = v ∧ w1 = w ∧ Bd r 0 1 ∧ r = F_X8_spells_5 G w v h0 x_0 x_1 x_2 x_3 x_4 x_5)) args s 0 0 (dm G)) D dA G (dm G) s.heap 9 v w [(0, .ref h0), (4, .int x_3), (5, .int x_4), (6, .int x_5), (7, .int 5)] 62 [.int x49] := by
    intro b45 b46 b47 b48 x49 b50 x52 e53 b51 h54 hK
    refine J_istore E [(8, .int x49), (0, .ref h0), (4, .int x_3), (5, .int x_4), (6, .int x_5), (7, .int 5)] dX8_spells_62 (by decide) rfl ?_
    refine J_iload E dX8_spells_64 0 rfl ?_
    refine J_if_eq E 117 dX8_spells_66 (by decide) (fun c56 => ?_) (fun c56 => ?_)
    · have b57 : Bd x49 0 0 := Bd.eq_l c56 b50 (Bd.lit 0 0 (by decide)) 0 0 (by decide)
      exact J.sub [1, 4, 5] rfl (J117 b47 (Bd.lit 5 5 (by decide)) ((kx_X8_spells_5_8 (c56)).symm.trans hK))
    · have b58 : Bd x49 1 1 := (Bd.ne_lo c56 b50 (Bd.lit 0 0 (by decide))).w _ _ (by decide)
      have b59 : Bd x52 0 145 := h54.resolve_left c56
      refine J_iload E dX8_spells_69 5 rfl ?_
      refine J_iconst E 4 dX8_spells_71 (by decide) ?_
      refine J_icmp_lt E 91 dX8_spells_72 (by decide) (fun c60 => ?_) (fun c60 => ?_)
      · exact Bd.no (Bd.lt_l c60 (Bd.lit 5 5 (by decide)) (Bd.lit 4 4 (by decide)) 3 (by decide)) (by decide)
      · refine J_aload_n E dX8_spells_75 1 rfl ?_
        refine J_getR E in_X8 rfl (S_X8.h S0) 4 (by decide) wd939 rfl dX8_spells_76 ?_
        refine J_aload_n E dX8_spells_79 1 rfl ?_
        refine J_getI E in_X8 rfl (S_X8.h S0) 7 (by decide) wd942 rfl dX8_spells_80 (fun x61 e62 => ?_)
        rw [show x61 = x52 from e62.trans (e53).symm]
        refine J_iconst E 3 dX8_spells_83 (by decide) ?_
        refine J_iadd E dX8_spells_84 (fun x63 e64 => ?_)
        have b65 : Bd x63 3 148 := (Bd.add e64 b59 (Bd.lit 3 3 (by decide)) (by decide)).w _ _ (by decide)
        refine J_bald1 E (S_X8.f4 S0) (Bd.in b65 (by decide)) dX8_spells_85 (fun x66 e67 => ?_)
        have b68 : Bd x66 (-128) 127 := Bd.e (Ok.ld hOk (S_X8.f4 S0) b65 3 146 (-128) 127 (by decide) (by decide +kernel)) e67
        refine J_iload E dX8_spells_86 2 rfl ?_
        refine J_icmp_ne E 117 dX8_spells_88 (by decide) (fun c69 => ?_) (fun c69 => ?_)
        · exact J.sub [1, 4, 5] rfl (J117 b47 (Bd.lit 5 5 (by decide)) ((kx_X8_spells_5_9 (e53) (e64) (e67) (c56) (c60) (c69)).symm.trans hK))
        · have b70 : Bd x66 110 118 := Bd.eq_l c69 b68 b45 110 118 (by decide)
          exact J.sub [1, 3, 4, 5] rfl (J91 b46 b47 (Bd.lit 5 5 (by decide)) x52 (e53) b59 ((kx_X8_spells_5_10 (e53) (e64) (e67) (c56) (c60) (c69)).symm.trans hK))
  have J61 : Bd x_3 110 118 → Bd x_4 101 115 → Bd x_5 0 0 → Bd 5 5 5 → K_X8_spells_5_61 G w h0 v x_3 x_4 x_5 (5 : Int32) = F_X8_spells_5 G w v h0 x_0 x_1 x_2 x_3 x_4 x_5 → J p l e rm_X8_spells_5 s m args below meth c 0 0 (MQ below (QcI D dA G (fun r v1 w1 => v1 = v ∧ w1 = w ∧ Bd r 0 1 ∧ r = F_X8_spells_5 G w v h0 x_0 x_1 x_2 x_3 x_4 x_5)) args s 0 0 (dm G)) D dA G (dm G) s.heap 9 v w [(0, .ref h0), (4, .int x_3), (5, .int x_4), (6, .int x_5), (7, .int 5)] 61 [] := by
    intro b71 b72 b73 b74 hK
    refine J_iconst E 0 dX8_spells_61 (by decide) ?_
    obtain ⟨x76, e77⟩ : ∃ z : Int32, z = v h0 7 := ⟨_, rfl⟩
    have b78 : Bd x76 0 150 := Ok.fd hOk e77 (S_X8.h S0) rfl
    exact J.sub [0, 1, 2, 3, 4] rfl (J62 b71 b72 b73 (Bd.lit 5 5 (by decide)) 0 ((Bd.lit 0 0 (by decide)).w 0 1 (by decide)) x76 (e77) b78 (Or.inl rfl) ((kx_X8_spells_5_11).symm.trans hK))
  have hK : K_X8_spells_5_e G w v h0 x_0 x_1 x_2 x_3 x_4 x_5 = F_X8_spells_5 G w v h0 x_0 x_1 x_2 x_3 x_4 x_5 := rfl
  refine J_aload_n E dX8_spells_0 0 rfl ?_
  refine J_getI E in_X8 rfl (S_X8.h S0) 6 (by decide) wd941 rfl dX8_spells_1 (fun x79 e80 => ?_)
  have b81 : Bd x79 0 150 := Ok.fd hOk e80 (S_X8.h S0) rfl
  refine J_aload_n E dX8_spells_4 0 rfl ?_
  refine J_getI E in_X8 rfl (S_X8.h S0) 7 (by decide) wd942 rfl dX8_spells_5 (fun x82 e83 => ?_)
  have b84 : Bd x82 0 150 := Ok.fd hOk e83 (S_X8.h S0) rfl
  refine J_isub E dX8_spells_8 (fun x85 e86 => ?_)
  have b87 : Bd x85 (-150) 150 := (Bd.sub e86 b81 b84 (by decide)).w _ _ (by decide)
  refine J_iload E dX8_spells_9 7 rfl ?_
  refine J_icmp_ne E 61 dX8_spells_11 (by decide) (fun c88 => ?_) (fun c88 => ?_)
  · exact J.sub [0, 4, 5, 6, 7] rfl (J61 bx_3 bx_4 bx_5 (Bd.lit 5 5 (by decide)) ((kx_X8_spells_5_12 (e80) (e83) (e86) (c88)).symm.trans hK))
  · have b89 : Bd x85 5 5 := Bd.eq_l c88 b87 (Bd.lit 5 5 (by decide)) 5 5 (by decide)
    have b90 : Bd x82 0 145 := Bd.suby e86 b81 b84 b89 0 145 (by decide)
    refine J_aload_n E dX8_spells_14 0 rfl ?_
    refine J_getR E in_X8 rfl (S_X8.h S0) 4 (by decide) wd939 rfl dX8_spells_15 ?_
    refine J_aload_n E dX8_spells_18 0 rfl ?_
    refine J_getI E in_X8 rfl (S_X8.h S0) 7 (by decide) wd942 rfl dX8_spells_19 (fun x91 e92 => ?_)
    rw [show x91 = x82 from e92.trans (e83).symm]
    refine J_bald1 E (S_X8.f4 S0) (Bd.in b90 (by decide)) dX8_spells_22 (fun x93 e94 => ?_)
    have b95 : Bd x93 (-128) 127 := Bd.e (Ok.ld hOk (S_X8.f4 S0) b90 0 146 (-128) 127 (by decide) (by decide +kernel)) e94
    refine J_iload_n E dX8_spells_23 1 rfl ?_
    refine J_icmp_ne E 61 dX8_spells_24 (by decide) (fun c96 => ?_) (fun c96 => ?_)
    · exact J.sub [0, 4, 5, 6, 7] rfl (J61 bx_3 bx_4 bx_5 (Bd.lit 5 5 (by decide)) ((kx_X8_spells_5_13 (e80) (e83) (e86) (e94) (c88) (c96)).symm.trans hK))
    · have b97 : Bd x93 108 121 := Bd.eq_l c96 b95 bx_0 108 121 (by decide)
      refine J_aload_n E dX8_spells_27 0 rfl ?_
      refine J_getR E in_X8 rfl (S_X8.h S0) 4 (by decide) wd939 rfl dX8_spells_28 ?_
      refine J_aload_n E dX8_spells_31 0 rfl ?_
      refine J_getI E in_X8 rfl (S_X8.h S0) 7 (by decide) wd942 rfl dX8_spells_32 (fun x98 e99 => ?_)
      rw [show x98 = x82 from e99.trans (e83).symm]
      refine J_iconst E 1 dX8_spells_35 (by decide) ?_
      refine J_iadd E dX8_spells_36 (fun x100 e101 => ?_)
      have b102 : Bd x100 1 146 := (Bd.add e101 b90 (Bd.lit 1 1 (by decide)) (by decide)).w _ _ (by decide)
      refine J_bald1 E (S_X8.f4 S0) (Bd.in b102 (by decide)) dX8_spells_37 (fun x103 e104 => ?_)
      have b105 : Bd x103 (-128) 127 := Bd.e (Ok.ld hOk (S_X8.f4 S0) b102 1 146 (-128) 127 (by decide) (by decide +kernel)) e104
      refine J_iload_n E dX8_spells_38 2 rfl ?_
      refine J_icmp_ne E 61 dX8_spells_39 (by decide) (fun c106 => ?_) (fun c106 => ?_)
      · exact J.sub [0, 4, 5, 6, 7] rfl (J61 bx_3 bx_4 bx_5 (Bd.lit 5 5 (by decide)) ((kx_X8_spells_5_14 (e80) (e83) (e86) (e94) (e101) (e104) (c88) (c96) (c106)).symm.trans hK))
      · have b107 : Bd x103 101 104 := Bd.eq_l c106 b105 bx_1 101 104 (by decide)
        refine J_aload_n E dX8_spells_42 0 rfl ?_
        refine J_getR E in_X8 rfl (S_X8.h S0) 4 (by decide) wd939 rfl dX8_spells_43 ?_
        refine J_aload_n E dX8_spells_46 0 rfl ?_
        refine J_getI E in_X8 rfl (S_X8.h S0) 7 (by decide) wd942 rfl dX8_spells_47 (fun x108 e109 => ?_)
        rw [show x108 = x82 from e109.trans (e83).symm]
        refine J_iconst E 2 dX8_spells_50 (by decide) ?_
        refine J_iadd E dX8_spells_51 (fun x110 e111 => ?_)
        have b112 : Bd x110 2 147 := (Bd.add e111 b90 (Bd.lit 2 2 (by decide)) (by decide)).w _ _ (by decide)
        refine J_bald1 E (S_X8.f4 S0) (Bd.in b112 (by decide)) dX8_spells_52 (fun x113 e114 => ?_)
        have b115 : Bd x113 (-128) 127 := Bd.e (Ok.ld hOk (S_X8.f4 S0) b112 2 146 (-128) 127 (by decide) (by decide +kernel)) e114
        refine J_iload_n E dX8_spells_53 3 rfl ?_
        refine J_icmp_ne E 61 dX8_spells_54 (by decide) (fun c116 => ?_) (fun c116 => ?_)
        · exact J.sub [0, 4, 5, 6, 7] rfl (J61 bx_3 bx_4 bx_5 (Bd.lit 5 5 (by decide)) ((kx_X8_spells_5_15 (e80) (e83) (e86) (e94) (e101) (e104) (e111) (e114) (c88) (c96) (c106) (c116)).symm.trans hK))
        · have b117 : Bd x113 97 105 := Bd.eq_l c116 b115 bx_2 97 105 (by decide)
          refine J_iconst E 1 dX8_spells_57 (by decide) ?_
          refine J_goto E 62 dX8_spells_58 (by decide) ?_
          exact J.sub [0, 4, 5, 6, 7] rfl (J62 bx_3 bx_4 bx_5 (Bd.lit 5 5 (by decide)) 1 ((Bd.lit 1 1 (by decide)).w 0 1 (by decide)) x82 (e83) (b90.w 0 150 (by decide)) (Or.inr b90) ((kx_X8_spells_5_16 (e80) (e83) (e86) (e94) (e101) (e104) (e111) (e114) (c88) (c96) (c106) (c116)).symm.trans hK))

def K_X8_spells_6_148 (G : Gm) (w : Mw) (h0 : Nat) (v : Mv) : Int32 :=
  (1 : Int32)
def K_X8_spells_6_118 (G : Gm) (w : Mw) (h0 : Nat) (v : Mv) (x_5 : Int32) (x9 : Int32) (x3 : Int32) : Int32 :=
  if x3 = (0 : Int32) then ((0 : Int32)) else (if (6 : Int32) < (6 : Int32) then ((0 : Int32)) else (if (v (rf G h0 4) (Int32.toNatClampNeg ((v h0 7) + (5 : Int32)))) = x_5 then (K_X8_spells_6_148 G w h0 v) else ((0 : Int32))))
def K_X8_spells_6_117 (G : Gm) (w : Mw) (h0 : Nat) (v : Mv) (x_5 : Int32) (x27 : Int32) : Int32 :=
  K_X8_spells_6_118 G w h0 v x_5 (6 : Int32) (0 : Int32)
def K_X8_spells_6_113 (G : Gm) (w : Mw) (h0 : Nat) (v : Mv) (x_5 : Int32) (x36 : Int32) : Int32 :=
  K_X8_spells_6_118 G w h0 v x_5 (6 : Int32) (1 : Int32)
def K_X8_spells_6_91 (G : Gm) (w : Mw) (h0 : Nat) (v : Mv) (x_4 : Int32) (x_5 : Int32) (x43 : Int32) : Int32 :=
  if (6 : Int32) < (5 : Int32) then ((0 : Int32)) else (if (v (rf G h0 4) (Int32.toNatClampNeg ((v h0 7) + (4 : Int32)))) = x_4 then (K_X8_spells_6_113 G w h0 v x_5 (6 : Int32)) else (K_X8_spells_6_117 G w h0 v x_5 (6 : Int32)))
def K_X8_spells_6_62 (G : Gm) (w : Mw) (h0 : Nat) (v : Mv) (x_3 : Int32) (x_4 : Int32) (x_5 : Int32) (x65 : Int32) (x59 : Int32) : Int32 :=
  if x59 = (0 : Int32) then (K_X8_spells_6_117 G w h0 v x_5 (6 : Int32)) else (if (6 : Int32) < (4 : Int32) then ((0 : Int32)) else (if (v (rf G h0 4) (Int32.toNatClampNeg ((v h0 7) + (3 : Int32)))) = x_3 then (K_X8_spells_6_91 G w h0 v x_4 x_5 (6 : Int32)) else (K_X8_spells_6_117 G w h0 v x_5 (6 : Int32))))
def K_X8_spells_6_61 (G : Gm) (w : Mw) (h0 : Nat) (v : Mv) (x_3 : Int32) (x_4 : Int32) (x_5 : Int32) (x85 : Int32) : Int32 :=
  K_X8_spells_6_62 G w h0 v x_3 x_4 x_5 (6 : Int32) (0 : Int32)
def K_X8_spells_6_e (G : Gm) (w : Mw) (v : Mv) (h0 : Nat) (x_0 : Int32) (x_1 : Int32) (x_2 : Int32) (x_3 : Int32) (x_4 : Int32) (x_5 : Int32) : Int32 :=
  if ((v h0 6) - (v h0 7)) = (6 : Int32) then (if (v (rf G h0 4) (Int32.toNatClampNeg (v h0 7))) = x_0 then (if (v (rf G h0 4) (Int32.toNatClampNeg ((v h0 7) + (1 : Int32)))) = x_1 then (if (v (rf G h0 4) (Int32.toNatClampNeg ((v h0 7) + (2 : Int32)))) = x_2 then (K_X8_spells_6_62 G w h0 v x_3 x_4 x_5 (6 : Int32) (1 : Int32)) else (K_X8_spells_6_61 G w h0 v x_3 x_4 x_5 (6 : Int32))) else (K_X8_spells_6_61 G w h0 v x_3 x_4 x_5 (6 : Int32))) else (K_X8_spells_6_61 G w h0 v x_3 x_4 x_5 (6 : Int32))) else (K_X8_spells_6_61 G w h0 v x_3 x_4 x_5 (6 : Int32))
def F_X8_spells_6 (G : Gm) (w : Mw) (v : Mv) (h0 : Nat) (x_0 : Int32) (x_1 : Int32) (x_2 : Int32) (x_3 : Int32) (x_4 : Int32) (x_5 : Int32) : Int32 := K_X8_spells_6_e G w v h0 x_0 x_1 x_2 x_3 x_4 x_5
set_option maxRecDepth 100000 in
theorem kx_X8_spells_6_1 {G : Gm} {w : Mw} {h0 : Nat} {v : Mv}   : K_X8_spells_6_148 G w h0 v = (1 : Int32) := by
  first | rw [K_X8_spells_6_148] | simp only [K_X8_spells_6_148]
set_option maxRecDepth 100000 in
theorem kx_X8_spells_6_2 {G : Gm} {w : Mw} {h0 : Nat} {v : Mv} {x_5 : Int32} {x3 : Int32}  (k0 : x3 = (0 : Int32)) : K_X8_spells_6_118 G w h0 v x_5 (6 : Int32) x3 = (0 : Int32) := by
  first | rw [K_X8_spells_6_118, if_pos k0] | simp only [K_X8_spells_6_118, if_pos k0]
set_option maxRecDepth 100000 in
theorem kx_X8_spells_6_3 {G : Gm} {w : Mw} {h0 : Nat} {v : Mv} {x_5 : Int32} {x3 : Int32} {x6 : Int32} {x17 : Int32} {x20 : Int32} (a0 : x6 = v h0 7) (a1 : x17 = x6 + (5 : Int32)) (a2 : x20 = v (rf G h0 4) (Int32.toNatClampNeg x17)) (k0 : ¬ (x3 = (0 : Int32))) (k1 : ¬ ((6 : Int32) < (6 : Int32))) (k2 : ¬ (x20 = x_5)) : K_X8_spells_6_118 G w h0 v x_5 (6 : Int32) x3 = (0 : Int32) := by
  subst a2; subst a1; subst a0; first | rw [K_X8_spells_6_118, if_neg k0, if_neg k1, if_neg k2] | simp only [K_X8_spells_6_118, if_neg k0, if_neg k1, if_neg k2]
set_option maxRecDepth 100000 in
theorem kx_X8_spells_6_4 {G : Gm} {w : Mw} {h0 : Nat} {v : Mv} {x_5 : Int32} {x3 : Int32} {x6 : Int32} {x17 : Int32} {x20 : Int32} (a0 : x6 = v h0 7) (a1 : x17 = x6 + (5 : Int32)) (a2 : x20 = v (rf G h0 4) (Int32.toNatClampNeg x17)) (k0 : ¬ (x3 = (0 : Int32))) (k1 : ¬ ((6 : Int32) < (6 : Int32))) (k2 : x20 = x_5) : K_X8_spells_6_118 G w h0 v x_5 (6 : Int32) x3 = K_X8_spells_6_148 G w h0 v := by
  subst a2; subst a1; subst a0; first | rw [K_X8_spells_6_118, if_neg k0, if_neg k1, if_pos k2] | simp only [K_X8_spells_6_118, if_neg k0, if_neg k1, if_pos k2]
set_option maxRecDepth 100000 in
theorem kx_X8_spells_6_5 {G : Gm} {w : Mw} {h0 : Nat} {v : Mv} {x_5 : Int32}   : K_X8_spells_6_117 G w h0 v x_5 (6 : Int32) = K_X8_spells_6_118 G w h0 v x_5 (6 : Int32) (0 : Int32) := by
  first | rw [K_X8_spells_6_117] | simp only [K_X8_spells_6_117]
set_option maxRecDepth 100000 in
theorem kx_X8_spells_6_6 {G : Gm} {w : Mw} {h0 : Nat} {v : Mv} {x_5 : Int32}   : K_X8_spells_6_113 G w h0 v x_5 (6 : Int32) = K_X8_spells_6_118 G w h0 v x_5 (6 : Int32) (1 : Int32) := by
  first | rw [K_X8_spells_6_113] | simp only [K_X8_spells_6_113]
set_option maxRecDepth 100000 in
theorem kx_X8_spells_6_7 {G : Gm} {w : Mw} {h0 : Nat} {v : Mv} {x_4 : Int32} {x_5 : Int32} {x41 : Int32} {x47 : Int32} {x50 : Int32} (a0 : x41 = v h0 7) (a1 : x47 = x41 + (4 : Int32)) (a2 : x50 = v (rf G h0 4) (Int32.toNatClampNeg x47)) (k0 : ¬ ((6 : Int32) < (5 : Int32))) (k1 : ¬ (x50 = x_4)) : K_X8_spells_6_91 G w h0 v x_4 x_5 (6 : Int32) = K_X8_spells_6_117 G w h0 v x_5 (6 : Int32) := by
  subst a2; subst a1; subst a0; first | rw [K_X8_spells_6_91, if_neg k0, if_neg k1] | simp only [K_X8_spells_6_91, if_neg k0, if_neg k1]
set_option maxRecDepth 100000 in
theorem kx_X8_spells_6_8 {G : Gm} {w : Mw} {h0 : Nat} {v : Mv} {x_4 : Int32} {x_5 : Int32} {x41 : Int32} {x47 : Int32} {x50 : Int32} (a0 : x41 = v h0 7) (a1 : x47 = x41 + (4 : Int32)) (a2 : x50 = v (rf G h0 4) (Int32.toNatClampNeg x47)) (k0 : ¬ ((6 : Int32) < (5 : Int32))) (k1 : x50 = x_4) : K_X8_spells_6_91 G w h0 v x_4 x_5 (6 : Int32) = K_X8_spells_6_113 G w h0 v x_5 (6 : Int32) := by
  subst a2; subst a1; subst a0; first | rw [K_X8_spells_6_91, if_neg k0, if_pos k1] | simp only [K_X8_spells_6_91, if_neg k0, if_pos k1]
set_option maxRecDepth 100000 in
theorem kx_X8_spells_6_9 {G : Gm} {w : Mw} {h0 : Nat} {v : Mv} {x_3 : Int32} {x_4 : Int32} {x_5 : Int32} {x59 : Int32}  (k0 : x59 = (0 : Int32)) : K_X8_spells_6_62 G w h0 v x_3 x_4 x_5 (6 : Int32) x59 = K_X8_spells_6_117 G w h0 v x_5 (6 : Int32) := by
  first | rw [K_X8_spells_6_62, if_pos k0] | simp only [K_X8_spells_6_62, if_pos k0]
set_option maxRecDepth 100000 in
theorem kx_X8_spells_6_10 {G : Gm} {w : Mw} {h0 : Nat} {v : Mv} {x_3 : Int32} {x_4 : Int32} {x_5 : Int32} {x59 : Int32} {x62 : Int32} {x73 : Int32} {x76 : Int32} (a0 : x62 = v h0 7) (a1 : x73 = x62 + (3 : Int32)) (a2 : x76 = v (rf G h0 4) (Int32.toNatClampNeg x73)) (k0 : ¬ (x59 = (0 : Int32))) (k1 : ¬ ((6 : Int32) < (4 : Int32))) (k2 : ¬ (x76 = x_3)) : K_X8_spells_6_62 G w h0 v x_3 x_4 x_5 (6 : Int32) x59 = K_X8_spells_6_117 G w h0 v x_5 (6 : Int32) := by
  subst a2; subst a1; subst a0; first | rw [K_X8_spells_6_62, if_neg k0, if_neg k1, if_neg k2] | simp only [K_X8_spells_6_62, if_neg k0, if_neg k1, if_neg k2]
set_option maxRecDepth 100000 in
theorem kx_X8_spells_6_11 {G : Gm} {w : Mw} {h0 : Nat} {v : Mv} {x_3 : Int32} {x_4 : Int32} {x_5 : Int32} {x59 : Int32} {x62 : Int32} {x73 : Int32} {x76 : Int32} (a0 : x62 = v h0 7) (a1 : x73 = x62 + (3 : Int32)) (a2 : x76 = v (rf G h0 4) (Int32.toNatClampNeg x73)) (k0 : ¬ (x59 = (0 : Int32))) (k1 : ¬ ((6 : Int32) < (4 : Int32))) (k2 : x76 = x_3) : K_X8_spells_6_62 G w h0 v x_3 x_4 x_5 (6 : Int32) x59 = K_X8_spells_6_91 G w h0 v x_4 x_5 (6 : Int32) := by
  subst a2; subst a1; subst a0; first | rw [K_X8_spells_6_62, if_neg k0, if_neg k1, if_pos k2] | simp only [K_X8_spells_6_62, if_neg k0, if_neg k1, if_pos k2]
set_option maxRecDepth 100000 in
theorem kx_X8_spells_6_12 {G : Gm} {w : Mw} {h0 : Nat} {v : Mv} {x_3 : Int32} {x_4 : Int32} {x_5 : Int32}   : K_X8_spells_6_61 G w h0 v x_3 x_4 x_5 (6 : Int32) = K_X8_spells_6_62 G w h0 v x_3 x_4 x_5 (6 : Int32) (0 : Int32) := by
  first | rw [K_X8_spells_6_61] | simp only [K_X8_spells_6_61]
set_option maxRecDepth 100000 in
theorem kx_X8_spells_6_13 {G : Gm} {w : Mw} {v : Mv} {h0 : Nat} {x_0 : Int32} {x_1 : Int32} {x_2 : Int32} {x_3 : Int32} {x_4 : Int32} {x_5 : Int32} {x89 : Int32} {x92 : Int32} {x95 : Int32} (a0 : x89 = v h0 6) (a1 : x92 = v h0 7) (a2 : x95 = x89 - x92) (k0 : ¬ (x95 = (6 : Int32))) : K_X8_spells_6_e G w v h0 x_0 x_1 x_2 x_3 x_4 x_5 = K_X8_spells_6_61 G w h0 v x_3 x_4 x_5 (6 : Int32) := by
  subst a2; subst a1; subst a0; first | rw [K_X8_spells_6_e, if_neg k0] | simp only [K_X8_spells_6_e, if_neg k0]
set_option maxRecDepth 100000 in
theorem kx_X8_spells_6_14 {G : Gm} {w : Mw} {v : Mv} {h0 : Nat} {x_0 : Int32} {x_1 : Int32} {x_2 : Int32} {x_3 : Int32} {x_4 : Int32} {x_5 : Int32} {x89 : Int32} {x92 : Int32} {x95 : Int32} {x103 : Int32} (a0 : x89 = v h0 6) (a1 : x92 = v h0 7) (a2 : x95 = x89 - x92) (a3 : x103 = v (rf G h0 4) (Int32.toNatClampNeg x92)) (k0 : x95 = (6 : Int32)) (k1 : ¬ (x103 = x_0)) : K_X8_spells_6_e G w v h0 x_0 x_1 x_2 x_3 x_4 x_5 = K_X8_spells_6_61 G w h0 v x_3 x_4 x_5 (6 : Int32) := by
  subst a3; subst a2; subst a1; subst a0; first | rw [K_X8_spells_6_e, if_pos k0, if_neg k1] | simp only [K_X8_spells_6_e, if_pos k0, if_neg k1]
set_option maxRecDepth 100000 in
theorem kx_X8_spells_6_15 {G : Gm} {w : Mw} {v : Mv} {h0 : Nat} {x_0 : Int32} {x_1 : Int32} {x_2 : Int32} {x_3 : Int32} {x_4 : Int32} {x_5 : Int32} {x89 : Int32} {x92 : Int32} {x110 : Int32} {x95 : Int32} {x103 : Int32} {x113 : Int32} (a0 : x89 = v h0 6) (a1 : x92 = v h0 7) (a2 : x95 = x89 - x92) (a3 : x103 = v (rf G h0 4) (Int32.toNatClampNeg x92)) (a4 : x110 = x92 + (1 : Int32)) (a5 : x113 = v (rf G h0 4) (Int32.toNatClampNeg x110)) (k0 : x95 = (6 : Int32)) (k1 : x103 = x_0) (k2 : ¬ (x113 = x_1)) : K_X8_spells_6_e G w v h0 x_0 x_1 x_2 x_3 x_4 x_5 = K_X8_spells_6_61 G w h0 v x_3 x_4 x_5 (6 : Int32) := by
  subst a5; subst a4; subst a3; subst a2; subst a1; subst a0; first | rw [K_X8_spells_6_e, if_pos k0, if_pos k1, if_neg k2] | simp only [K_X8_spells_6_e, if_pos k0, if_pos k1, if_neg k2]
set_option maxRecDepth 100000 in
theorem kx_X8_spells_6_16 {G : Gm} {w : Mw} {v : Mv} {h0 : Nat} {x_0 : Int32} {x_1 : Int32} {x_2 : Int32} {x_3 : Int32} {x_4 : Int32} {x_5 : Int32} {x89 : Int32} {x92 : Int32} {x110 : Int32} {x120 : Int32} {x95 : Int32} {x103 : Int32} {x113 : Int32} {x123 : Int32} (a0 : x89 = v h0 6) (a1 : x92 = v h0 7) (a2 : x95 = x89 - x92) (a3 : x103 = v (rf G h0 4) (Int32.toNatClampNeg x92)) (a4 : x110 = x92 + (1 : Int32)) (a5 : x113 = v (rf G h0 4) (Int32.toNatClampNeg x110)) (a6 : x120 = x92 + (2 : Int32)) (a7 : x123 = v (rf G h0 4) (Int32.toNatClampNeg x120)) (k0 : x95 = (6 : Int32)) (k1 : x103 = x_0) (k2 : x113 = x_1) (k3 : ¬ (x123 = x_2)) : K_X8_spells_6_e G w v h0 x_0 x_1 x_2 x_3 x_4 x_5 = K_X8_spells_6_61 G w h0 v x_3 x_4 x_5 (6 : Int32) := by
  subst a7; subst a6; subst a5; subst a4; subst a3; subst a2; subst a1; subst a0; first | rw [K_X8_spells_6_e, if_pos k0, if_pos k1, if_pos k2, if_neg k3] | simp only [K_X8_spells_6_e, if_pos k0, if_pos k1, if_pos k2, if_neg k3]
set_option maxRecDepth 100000 in
theorem kx_X8_spells_6_17 {G : Gm} {w : Mw} {v : Mv} {h0 : Nat} {x_0 : Int32} {x_1 : Int32} {x_2 : Int32} {x_3 : Int32} {x_4 : Int32} {x_5 : Int32} {x89 : Int32} {x92 : Int32} {x110 : Int32} {x120 : Int32} {x95 : Int32} {x103 : Int32} {x113 : Int32} {x123 : Int32} (a0 : x89 = v h0 6) (a1 : x92 = v h0 7) (a2 : x95 = x89 - x92) (a3 : x103 = v (rf G h0 4) (Int32.toNatClampNeg x92)) (a4 : x110 = x92 + (1 : Int32)) (a5 : x113 = v (rf G h0 4) (Int32.toNatClampNeg x110)) (a6 : x120 = x92 + (2 : Int32)) (a7 : x123 = v (rf G h0 4) (Int32.toNatClampNeg x120)) (k0 : x95 = (6 : Int32)) (k1 : x103 = x_0) (k2 : x113 = x_1) (k3 : x123 = x_2) : K_X8_spells_6_e G w v h0 x_0 x_1 x_2 x_3 x_4 x_5 = K_X8_spells_6_62 G w h0 v x_3 x_4 x_5 (6 : Int32) (1 : Int32) := by
  subst a7; subst a6; subst a5; subst a4; subst a3; subst a2; subst a1; subst a0; first | rw [K_X8_spells_6_e, if_pos k0, if_pos k1, if_pos k2, if_pos k3] | simp only [K_X8_spells_6_e, if_pos k0, if_pos k1, if_pos k2, if_pos k3]
abbrev rm_X8_spells_6 : Room := { frames := 0, cells := 0, slots := 0, locals := 0 }
set_option maxHeartbeats 4000000 in
set_option maxRecDepth 100000 in
theorem ct_X8_spells_6 (l : Launch) (D : va_G) (dA : Nat → ClassId) (G : Gm) (v : Mv) (w : Mw) (hOk : Ok G v w) (h0 : Nat) (S0 : S_X8 G h0) (x_0 : Int32) (bx_0 : Bd x_0 112 112) (x_1 : Int32) (bx_1 : Bd x_1 101 101) (x_2 : Int32) (bx_2 : Bd x_2 111 111) (x_3 : Int32) (bx_3 : Bd x_3 112 112) (x_4 : Int32) (bx_4 : Bd x_4 108 108) (x_5 : Int32) (bx_5 : Bd x_5 101 101) : CtI l yX8_spells cX8_spells 9 (some .boolean) rm_X8_spells_6 D dA G [.ref h0, .int x_0, .int x_1, .int x_2, .int x_3, .int x_4, .int x_5, .int 6] v w (fun r v1 w1 => v1 = v ∧ w1 = w ∧ Bd r 0 1 ∧ r = F_X8_spells_6 G w v h0 x_0 x_1 x_2 x_3 x_4 x_5) := by
  refine CtI.of RX8 [(0, .ref h0), (1, .int x_0), (2, .int x_1), (3, .int x_2), (4, .int x_3), (5, .int x_4), (6, .int x_5), (7, .int 6)] (Nat.le_of_ble_eq_true rfl) rfl (by decide) rfl ?_
  intro p e s m args below meth c E hr
  have J148 : K_X8_spells_6_148 G w h0 v = F_X8_spells_6 G w v h0 x_0 x_1 x_2 x_3 x_4 x_5 → J p l e rm_X8_spells_6 s m args below meth c 0 0 (MQ below (QcI D dA G (fun r v1 w1 => v1 = v ∧ w1 = w ∧ Bd r 0 1 ∧ r = F_X8_spells_6 G w v h0 x_0 x_1 x_2 x_3 x_4 x_5)) args s 0 0 (dm G)) D dA G (dm G) s.heap 9 v w [] 148 [] := by
    intro hK
    refine J_iconst E 1 dX8_spells_148 (by decide) ?_
    refine J_goto E 153 dX8_spells_149 (by decide) ?_
    exact J_zret E hr (Bd.z (Bd.lit 1 1 (by decide)) (by decide)) dX8_spells_153 ⟨rfl, rfl, ((Bd.lit 1 1 (by decide)).w 0 1 (by decide)), ((kx_X8_spells_6_1).symm.trans hK)⟩
  have J118 : Bd x_5 101 101 → Bd 6 6 6 → ∀ x3 : Int32, Bd x3 0 1 → ∀ x6 : Int32, x6 = v h0 7 → Bd x6 0 150 → (x3 = 0 ∨ Bd x6 0 144) → K_X8_spells_6_118 G w h0 v x_5 (6 : Int32) x3 = F_X8_spells_6 G w v h0 x_0 x_1 x_2 x_3 x_4 x_5 → J p l e rm_X8_spells_6 s m args below meth c 0 0 (MQ below (QcI D dA G (fun r v1 w1 => v1 = v ∧ w1 = w ∧ Bd r 0 1 ∧ r = F_X8_spells_6 G w v h0 x_0 x_1 x_2 x_3 x_4 x_5)) args s 0 0 (dm G)) D dA G (dm G) s.heap 9 v w [(0, .ref h0), (6, .int x_5), (7, .int 6)] 118 [.int x3] := by
    intro b1 b2 x3 b4 x6 e7 b5 h8 hK
    refine J_istore E [(8, .int x3), (0, .ref h0), (6, .int x_5), (7, .int 6)] dX8_spells_118 (by decide) rfl ?_
    refine J_iload E dX8_spells_120 0 rfl ?_
    refine J_if_eq E 152 dX8_spells_122 (by decide) (fun c10 => ?_) (fun c10 => ?_)
    · have b11 : Bd x3 0 0 := Bd.eq_l c10 b4 (Bd.lit 0 0 (by decide)) 0 0 (by decide)
      refine J_iconst E 0 dX8_spells_152 (by decide) ?_
      exact J_zret E hr (Bd.z (Bd.lit 0 0 (by decide)) (by decide)) dX8_spells_153 ⟨rfl, rfl, ((Bd.lit 0 0 (by decide)).w 0 1 (by decide)), ((kx_X8_spells_6_2 (c10)).symm.trans hK)⟩
    · have b12 : Bd x3 1 1 := (Bd.ne_lo c10 b4 (Bd.lit 0 0 (by decide))).w _ _ (by decide)
      have b13 : Bd x6 0 144 := h8.resolve_left c10
      refine J_iload E dX8_spells_125 3 rfl ?_
      refine J_bipush E 6 dX8_spells_127 (by decide) ?_
      refine J_icmp_lt E 148 dX8_spells_129 (by decide) (fun c14 => ?_) (fun c14 => ?_)
      · exact Bd.no (Bd.lt_l c14 (Bd.lit 6 6 (by decide)) (Bd.lit 6 6 (by decide)) 5 (by decide)) (by decide)
      · refine J_aload_n E dX8_spells_132 1 rfl ?_
        refine J_getR E in_X8 rfl (S_X8.h S0) 4 (by decide) wd939 rfl dX8_spells_133 ?_
        refine J_aload_n E dX8_spells_136 1 rfl ?_
        refine J_getI E in_X8 rfl (S_X8.h S0) 7 (by decide) wd942 rfl dX8_spells_137 (fun x15 e16 => ?_)
        rw [show x15 = x6 from e16.trans (e7).symm]
        refine J_iconst E 5 dX8_spells_140 (by decide) ?_
        refine J_iadd E dX8_spells_141 (fun x17 e18 => ?_)
        have b19 : Bd x17 5 149 := (Bd.add e18 b13 (Bd.lit 5 5 (by decide)) (by decide)).w _ _ (by decide)
        refine J_bald1 E (S_X8.f4 S0) (Bd.in b19 (by decide)) dX8_spells_142 (fun x20 e21 => ?_)
        have b22 : Bd x20 (-128) 127 := Bd.e (Ok.ld hOk (S_X8.f4 S0) b19 5 145 (-128) 127 (by decide) (by decide +kernel)) e21
        refine J_iload E dX8_spells_143 2 rfl ?_
        refine J_icmp_ne E 152 dX8_spells_145 (by decide) (fun c23 => ?_) (fun c23 => ?_)
        · refine J_iconst E 0 dX8_spells_152 (by decide) ?_
          exact J_zret E hr (Bd.z (Bd.lit 0 0 (by decide)) (by decide)) dX8_spells_153 ⟨rfl, rfl, ((Bd.lit 0 0 (by decide)).w 0 1 (by decide)), ((kx_X8_spells_6_3 (e7) (e18) (e21) (c10) (c14) (c23)).symm.trans hK)⟩
        · have b24 : Bd x20 101 101 := Bd.eq_l c23 b22 b1 101 101 (by decide)
          exact J.sub [] rfl (J148 ((kx_X8_spells_6_4 (e7) (e18) (e21) (c10) (c14) (c23)).symm.trans hK))
  have J117 : Bd x_5 101 101 → Bd 6 6 6 → K_X8_spells_6_117 G w h0 v x_5 (6 : Int32) = F_X8_spells_6 G w v h0 x_0 x_1 x_2 x_3 x_4 x_5 → J p l e rm_X8_spells_6 s m args below meth c 0 0 (MQ below (QcI D dA G (fun r v1 w1 => v1 = v ∧ w1 = w ∧ Bd r 0 1 ∧ r = F_X8_spells_6 G w v h0 x_0 x_1 x_2 x_3 x_4 x_5)) args s 0 0 (dm G)) D dA G (dm G) s.heap 9 v w [(0, .ref h0), (6, .int x_5), (7, .int 6)] 117 [] := by
    intro b25 b26 hK
    refine J_iconst E 0 dX8_spells_117 (by decide) ?_
    obtain ⟨x28, e29⟩ : ∃ z : Int32, z = v h0 7 := ⟨_, rfl⟩
    have b30 : Bd x28 0 150 := Ok.fd hOk e29 (S_X8.h S0) rfl
    exact J.sub [0, 1, 2] rfl (J118 b25 (Bd.lit 6 6 (by decide)) 0 ((Bd.lit 0 0 (by decide)).w 0 1 (by decide)) x28 (e29) b30 (Or.inl rfl) ((kx_X8_spells_6_5).symm.trans hK))
  have J113 : Bd x_5 101 101 → Bd 6 6 6 → ∀ x34 : Int32, x34 = v h0 7 → Bd x34 0 144 → K_X8_spells_6_113 G w h0 v x_5 (6 : Int32) = F_X8_spells_6 G w v h0 x_0 x_1 x_2 x_3 x_4 x_5 → J p l e rm_X8_spells_6 s m args below meth c 0 0 (MQ below (QcI D dA G (fun r v1 w1 => v1 = v ∧ w1 = w ∧ Bd r 0 1 ∧ r = F_X8_spells_6 G w v h0 x_0 x_1 x_2 x_3 x_4 x_5)) args s 0 0 (dm G)) D dA G (dm G) s.heap 9 v w [(0, .ref h0), (6, .int x_5), (7, .int 6)] 113 [] := by
    intro b31 b32 x34 e35 b33 hK
    refine J_iconst E 1 dX8_spells_113 (by decide) ?_
    refine J_goto E 118 dX8_spells_114 (by decide) ?_
    exact J.sub [0, 1, 2] rfl (J118 b31 (Bd.lit 6 6 (by decide)) 1 ((Bd.lit 1 1 (by decide)).w 0 1 (by decide)) x34 (e35) (b33.w 0 150 (by decide)) (Or.inr b33) ((kx_X8_spells_6_6).symm.trans hK))
  have J91 : Bd x_4 108 108 → Bd x_5 101 101 → Bd 6 6 6 → ∀ x41 : Int32, x41 = v h0 7 → Bd x41 0 144 → K_X8_spells_6_91 G w h0 v x_4 x_5 (6 : Int32) = F_X8_spells_6 G w v h0 x_0 x_1 x_2 x_3 x_4 x_5 → J p l e rm_X8_spells_6 s m args below meth c 0 0 (MQ below (QcI D dA G (fun r v1 w1 => v1 = v ∧ w1 = w ∧ Bd r 0 1 ∧ r = F_X8_spells_6 G w v h0 x_0 x_1 x_2 x_3 x_4 x_5)) args s 0 0 (dm G)) D dA G (dm G) s.heap 9 v w [(0, .ref h0), (5, .int x_4), (6, .int x_5), (7, .int 6)] 91 [] := by
    intro b37 b38 b39 x41 e42 b40 hK
    refine J_iload E dX8_spells_91 3 rfl ?_
    refine J_iconst E 5 dX8_spells_93 (by decide) ?_
    refine J_icmp_lt E 113 dX8_spells_94 (by decide) (fun c44 => ?_) (fun c44 => ?_)
    · exact Bd.no (Bd.lt_l c44 (Bd.lit 6 6 (by decide)) (Bd.lit 5 5 (by decide)) 4 (by decide)) (by decide)
    · refine J_aload_n E dX8_spells_97 0 rfl ?_
      refine J_getR E in_X8 rfl (S_X8.h S0) 4 (by decide) wd939 rfl dX8_spells_98 ?_
      refine J_aload_n E dX8_spells_101 0 rfl ?_
      refine J_getI E in_X8 rfl (S_X8.h S0) 7 (by decide) wd942 rfl dX8_spells_102 (fun x45 e46 => ?_)
      rw [show x45 = x41 from e46.trans (e42).symm]
      refine J_iconst E 4 dX8_spells_105 (by decide) ?_
      refine J_iadd E dX8_spells_106 (fun x47 e48 => ?_)
      have b49 : Bd x47 4 148 := (Bd.add e48 b40 (Bd.lit 4 4 (by decide)) (by decide)).w _ _ (by decide)
      refine J_bald1 E (S_X8.f4 S0) (Bd.in b49 (by decide)) dX8_spells_107 (fun x50 e51 => ?_)
      have b52 : Bd x50 (-128) 127 := Bd.e (Ok.ld hOk (S_X8.f4 S0) b49 4 145 (-128) 127 (by decide) (by decide +kernel)) e51
      refine J_iload E dX8_spells_108 1 rfl ?_
      refine J_icmp_ne E 117 dX8_spells_110 (by decide) (fun c53 => ?_) (fun c53 => ?_)
      · exact J.sub [0, 2, 3] rfl (J117 b38 (Bd.lit 6 6 (by decide)) ((kx_X8_spells_6_7 (e42) (e48) (e51) (c44) (c53)).symm.trans hK))
      · have b54 : Bd x50 108 108 := Bd.eq_l c53 b52 b37 108 108 (by decide)
        exact J.sub [0, 2, 3] rfl (J113 b38 (Bd.lit 6 6 (by decide)) x41 (e42) b40 ((kx_X8_spells_6_8 (e42) (e48) (e51) (c44) (c53)).symm.trans hK))
  have J62 : Bd x_3 112 112 → Bd x_4 108 108 → Bd x_5 101 101 → Bd 6 6 6 → ∀ x59 : Int32, Bd x59 0 1 → ∀ x62 : Int32, x62 = v h0 7 → Bd x62 0 150 → (x59 = 0 ∨ Bd x62 0 144) → K_X8_spells_6_62 G w h0 v x_3 x_4 x_5 (6 : Int32) x59 = F_X8_spells_6 G w v h0 x_0 x_1 x_2 x_3 x_4 x_5 → J p l e rm_X8_spells_6 s m args below meth c 0 0 (MQ below (QcI D dA G (fun r v1 w1 => v1 = v ∧ w1 = w ∧ Bd r 0 1 ∧ r = F_X8_spells_6 G w v h0 x_0 x_1 x_2 x_3 x_4 x_5)) args s 0 0 (dm G)) D dA G (dm G) s.heap 9 v w [(0, .ref h0), (4, .int x_3), (5, .int x_4), (6, .int x_5), (7, .int 6)] 62 [.int x59] := by
    intro b55 b56 b57 b58 x59 b60 x62 e63 b61 h64 hK
    refine J_istore E [(8, .int x59), (0, .ref h0), (4, .int x_3), (5, .int x_4), (6, .int x_5), (7, .int 6)] dX8_spells_62 (by decide) rfl ?_
    refine J_iload E dX8_spells_64 0 rfl ?_
    refine J_if_eq E 117 dX8_spells_66 (by decide) (fun c66 => ?_) (fun c66 => ?_)
    · have b67 : Bd x59 0 0 := Bd.eq_l c66 b60 (Bd.lit 0 0 (by decide)) 0 0 (by decide)
      exact J.sub [1, 4, 5] rfl (J117 b57 (Bd.lit 6 6 (by decide)) ((kx_X8_spells_6_9 (c66)).symm.trans hK))
    · have b68 : Bd x59 1 1 := (Bd.ne_lo c66 b60 (Bd.lit 0 0 (by decide))).w _ _ (by decide)
      have b69 : Bd x62 0 144 := h64.resolve_left c66
      refine J_iload E dX8_spells_69 5 rfl ?_
      refine J_iconst E 4 dX8_spells_71 (by decide) ?_
      refine J_icmp_lt E 91 dX8_spells_72 (by decide) (fun c70 => ?_) (fun c70 => ?_)
      · exact Bd.no (Bd.lt_l c70 (Bd.lit 6 6 (by decide)) (Bd.lit 4 4 (by decide)) 3 (by decide)) (by decide)
      · refine J_aload_n E dX8_spells_75 1 rfl ?_
        refine J_getR E in_X8 rfl (S_X8.h S0) 4 (by decide) wd939 rfl dX8_spells_76 ?_
        refine J_aload_n E dX8_spells_79 1 rfl ?_
        refine J_getI E in_X8 rfl (S_X8.h S0) 7 (by decide) wd942 rfl dX8_spells_80 (fun x71 e72 => ?_)
        rw [show x71 = x62 from e72.trans (e63).symm]
        refine J_iconst E 3 dX8_spells_83 (by decide) ?_
        refine J_iadd E dX8_spells_84 (fun x73 e74 => ?_)
        have b75 : Bd x73 3 147 := (Bd.add e74 b69 (Bd.lit 3 3 (by decide)) (by decide)).w _ _ (by decide)
        refine J_bald1 E (S_X8.f4 S0) (Bd.in b75 (by decide)) dX8_spells_85 (fun x76 e77 => ?_)
        have b78 : Bd x76 (-128) 127 := Bd.e (Ok.ld hOk (S_X8.f4 S0) b75 3 145 (-128) 127 (by decide) (by decide +kernel)) e77
        refine J_iload E dX8_spells_86 2 rfl ?_
        refine J_icmp_ne E 117 dX8_spells_88 (by decide) (fun c79 => ?_) (fun c79 => ?_)
        · exact J.sub [1, 4, 5] rfl (J117 b57 (Bd.lit 6 6 (by decide)) ((kx_X8_spells_6_10 (e63) (e74) (e77) (c66) (c70) (c79)).symm.trans hK))
        · have b80 : Bd x76 112 112 := Bd.eq_l c79 b78 b55 112 112 (by decide)
          exact J.sub [1, 3, 4, 5] rfl (J91 b56 b57 (Bd.lit 6 6 (by decide)) x62 (e63) b69 ((kx_X8_spells_6_11 (e63) (e74) (e77) (c66) (c70) (c79)).symm.trans hK))
  have J61 : Bd x_3 112 112 → Bd x_4 108 108 → Bd x_5 101 101 → Bd 6 6 6 → K_X8_spells_6_61 G w h0 v x_3 x_4 x_5 (6 : Int32) = F_X8_spells_6 G w v h0 x_0 x_1 x_2 x_3 x_4 x_5 → J p l e rm_X8_spells_6 s m args below meth c 0 0 (MQ below (QcI D dA G (fun r v1 w1 => v1 = v ∧ w1 = w ∧ Bd r 0 1 ∧ r = F_X8_spells_6 G w v h0 x_0 x_1 x_2 x_3 x_4 x_5)) args s 0 0 (dm G)) D dA G (dm G) s.heap 9 v w [(0, .ref h0), (4, .int x_3), (5, .int x_4), (6, .int x_5), (7, .int 6)] 61 [] := by
    intro b81 b82 b83 b84 hK
    refine J_iconst E 0 dX8_spells_61 (by decide) ?_
    obtain ⟨x86, e87⟩ : ∃ z : Int32, z = v h0 7 := ⟨_, rfl⟩
    have b88 : Bd x86 0 150 := Ok.fd hOk e87 (S_X8.h S0) rfl
    exact J.sub [0, 1, 2, 3, 4] rfl (J62 b81 b82 b83 (Bd.lit 6 6 (by decide)) 0 ((Bd.lit 0 0 (by decide)).w 0 1 (by decide)) x86 (e87) b88 (Or.inl rfl) ((kx_X8_spells_6_12).symm.trans hK))
  have hK : K_X8_spells_6_e G w v h0 x_0 x_1 x_2 x_3 x_4 x_5 = F_X8_spells_6 G w v h0 x_0 x_1 x_2 x_3 x_4 x_5 := rfl
  refine J_aload_n E dX8_spells_0 0 rfl ?_
  refine J_getI E in_X8 rfl (S_X8.h S0) 6 (by decide) wd941 rfl dX8_spells_1 (fun x89 e90 => ?_)
  have b91 : Bd x89 0 150 := Ok.fd hOk e90 (S_X8.h S0) rfl
  refine J_aload_n E dX8_spells_4 0 rfl ?_
  refine J_getI E in_X8 rfl (S_X8.h S0) 7 (by decide) wd942 rfl dX8_spells_5 (fun x92 e93 => ?_)
  have b94 : Bd x92 0 150 := Ok.fd hOk e93 (S_X8.h S0) rfl
  refine J_isub E dX8_spells_8 (fun x95 e96 => ?_)
  have b97 : Bd x95 (-150) 150 := (Bd.sub e96 b91 b94 (by decide)).w _ _ (by decide)
  refine J_iload E dX8_spells_9 7 rfl ?_
  refine J_icmp_ne E 61 dX8_spells_11 (by decide) (fun c98 => ?_) (fun c98 => ?_)
  · exact J.sub [0, 4, 5, 6, 7] rfl (J61 bx_3 bx_4 bx_5 (Bd.lit 6 6 (by decide)) ((kx_X8_spells_6_13 (e90) (e93) (e96) (c98)).symm.trans hK))
  · have b99 : Bd x95 6 6 := Bd.eq_l c98 b97 (Bd.lit 6 6 (by decide)) 6 6 (by decide)
    have b100 : Bd x92 0 144 := Bd.suby e96 b91 b94 b99 0 144 (by decide)
    refine J_aload_n E dX8_spells_14 0 rfl ?_
    refine J_getR E in_X8 rfl (S_X8.h S0) 4 (by decide) wd939 rfl dX8_spells_15 ?_
    refine J_aload_n E dX8_spells_18 0 rfl ?_
    refine J_getI E in_X8 rfl (S_X8.h S0) 7 (by decide) wd942 rfl dX8_spells_19 (fun x101 e102 => ?_)
    rw [show x101 = x92 from e102.trans (e93).symm]
    refine J_bald1 E (S_X8.f4 S0) (Bd.in b100 (by decide)) dX8_spells_22 (fun x103 e104 => ?_)
    have b105 : Bd x103 (-128) 127 := Bd.e (Ok.ld hOk (S_X8.f4 S0) b100 0 145 (-128) 127 (by decide) (by decide +kernel)) e104
    refine J_iload_n E dX8_spells_23 1 rfl ?_
    refine J_icmp_ne E 61 dX8_spells_24 (by decide) (fun c106 => ?_) (fun c106 => ?_)
    · exact J.sub [0, 4, 5, 6, 7] rfl (J61 bx_3 bx_4 bx_5 (Bd.lit 6 6 (by decide)) ((kx_X8_spells_6_14 (e90) (e93) (e96) (e104) (c98) (c106)).symm.trans hK))
    · have b107 : Bd x103 112 112 := Bd.eq_l c106 b105 bx_0 112 112 (by decide)
      refine J_aload_n E dX8_spells_27 0 rfl ?_
      refine J_getR E in_X8 rfl (S_X8.h S0) 4 (by decide) wd939 rfl dX8_spells_28 ?_
      refine J_aload_n E dX8_spells_31 0 rfl ?_
      refine J_getI E in_X8 rfl (S_X8.h S0) 7 (by decide) wd942 rfl dX8_spells_32 (fun x108 e109 => ?_)
      rw [show x108 = x92 from e109.trans (e93).symm]
      refine J_iconst E 1 dX8_spells_35 (by decide) ?_
      refine J_iadd E dX8_spells_36 (fun x110 e111 => ?_)
      have b112 : Bd x110 1 145 := (Bd.add e111 b100 (Bd.lit 1 1 (by decide)) (by decide)).w _ _ (by decide)
      refine J_bald1 E (S_X8.f4 S0) (Bd.in b112 (by decide)) dX8_spells_37 (fun x113 e114 => ?_)
      have b115 : Bd x113 (-128) 127 := Bd.e (Ok.ld hOk (S_X8.f4 S0) b112 1 145 (-128) 127 (by decide) (by decide +kernel)) e114
      refine J_iload_n E dX8_spells_38 2 rfl ?_
      refine J_icmp_ne E 61 dX8_spells_39 (by decide) (fun c116 => ?_) (fun c116 => ?_)
      · exact J.sub [0, 4, 5, 6, 7] rfl (J61 bx_3 bx_4 bx_5 (Bd.lit 6 6 (by decide)) ((kx_X8_spells_6_15 (e90) (e93) (e96) (e104) (e111) (e114) (c98) (c106) (c116)).symm.trans hK))
      · have b117 : Bd x113 101 101 := Bd.eq_l c116 b115 bx_1 101 101 (by decide)
        refine J_aload_n E dX8_spells_42 0 rfl ?_
        refine J_getR E in_X8 rfl (S_X8.h S0) 4 (by decide) wd939 rfl dX8_spells_43 ?_
        refine J_aload_n E dX8_spells_46 0 rfl ?_
        refine J_getI E in_X8 rfl (S_X8.h S0) 7 (by decide) wd942 rfl dX8_spells_47 (fun x118 e119 => ?_)
        rw [show x118 = x92 from e119.trans (e93).symm]
        refine J_iconst E 2 dX8_spells_50 (by decide) ?_
        refine J_iadd E dX8_spells_51 (fun x120 e121 => ?_)
        have b122 : Bd x120 2 146 := (Bd.add e121 b100 (Bd.lit 2 2 (by decide)) (by decide)).w _ _ (by decide)
        refine J_bald1 E (S_X8.f4 S0) (Bd.in b122 (by decide)) dX8_spells_52 (fun x123 e124 => ?_)
        have b125 : Bd x123 (-128) 127 := Bd.e (Ok.ld hOk (S_X8.f4 S0) b122 2 145 (-128) 127 (by decide) (by decide +kernel)) e124
        refine J_iload_n E dX8_spells_53 3 rfl ?_
        refine J_icmp_ne E 61 dX8_spells_54 (by decide) (fun c126 => ?_) (fun c126 => ?_)
        · exact J.sub [0, 4, 5, 6, 7] rfl (J61 bx_3 bx_4 bx_5 (Bd.lit 6 6 (by decide)) ((kx_X8_spells_6_16 (e90) (e93) (e96) (e104) (e111) (e114) (e121) (e124) (c98) (c106) (c116) (c126)).symm.trans hK))
        · have b127 : Bd x123 111 111 := Bd.eq_l c126 b125 bx_2 111 111 (by decide)
          refine J_iconst E 1 dX8_spells_57 (by decide) ?_
          refine J_goto E 62 dX8_spells_58 (by decide) ?_
          exact J.sub [0, 4, 5, 6, 7] rfl (J62 bx_3 bx_4 bx_5 (Bd.lit 6 6 (by decide)) 1 ((Bd.lit 1 1 (by decide)).w 0 1 (by decide)) x92 (e93) (b100.w 0 150 (by decide)) (Or.inr b100) ((kx_X8_spells_6_17 (e90) (e93) (e96) (e104) (e111) (e114) (e121) (e124) (c98) (c106) (c116) (c126)).symm.trans hK))

def K_X8_wordOf_e (G : Gm) (w : Mw) (v : Mv) (h0 : Nat) : Int32 :=
  if (F_X8_spells_6 G w v h0 (112 : Int32) (101 : Int32) (111 : Int32) (112 : Int32) (108 : Int32) (101 : Int32)) = (0 : Int32) then (if (F_X8_spells_5 G w v h0 (116 : Int32) (104 : Int32) (105 : Int32) (110 : Int32) (103 : Int32) (0 : Int32)) = (0 : Int32) then (if (F_X8_spells_3 G w v h0 (111 : Int32) (110 : Int32) (101 : Int32) (0 : Int32) (0 : Int32) (0 : Int32)) = (0 : Int32) then (if (F_X8_spells_3 G w v h0 (111 : Int32) (119 : Int32) (110 : Int32) (0 : Int32) (0 : Int32) (0 : Int32)) = (0 : Int32) then (if (F_X8_spells_5 G w v h0 (108 : Int32) (101 : Int32) (97 : Int32) (118 : Int32) (101 : Int32) (0 : Int32)) = (0 : Int32) then (if (F_X8_spells_5 G w v h0 (121 : Int32) (101 : Int32) (97 : Int32) (114 : Int32) (115 : Int32) (0 : Int32)) = (0 : Int32) then ((9 : Int32)) else ((5 : Int32))) else ((4 : Int32))) else ((3 : Int32))) else ((2 : Int32))) else ((1 : Int32))) else ((0 : Int32))
def F_X8_wordOf (G : Gm) (w : Mw) (v : Mv) (h0 : Nat) : Int32 := K_X8_wordOf_e G w v h0
set_option maxRecDepth 100000 in
theorem kx_X8_wordOf_1 {G : Gm} {w : Mw} {v : Mv} {h0 : Nat} {x4 : Int32} {x12 : Int32} {x20 : Int32} {x28 : Int32} {x36 : Int32} {x44 : Int32} (a0 : x4 = F_X8_spells_6 G w v h0 (112 : Int32) (101 : Int32) (111 : Int32) (112 : Int32) (108 : Int32) (101 : Int32)) (a1 : x12 = F_X8_spells_5 G w v h0 (116 : Int32) (104 : Int32) (105 : Int32) (110 : Int32) (103 : Int32) (0 : Int32)) (a2 : x20 = F_X8_spells_3 G w v h0 (111 : Int32) (110 : Int32) (101 : Int32) (0 : Int32) (0 : Int32) (0 : Int32)) (a3 : x28 = F_X8_spells_3 G w v h0 (111 : Int32) (119 : Int32) (110 : Int32) (0 : Int32) (0 : Int32) (0 : Int32)) (a4 : x36 = F_X8_spells_5 G w v h0 (108 : Int32) (101 : Int32) (97 : Int32) (118 : Int32) (101 : Int32) (0 : Int32)) (a5 : x44 = F_X8_spells_5 G w v h0 (121 : Int32) (101 : Int32) (97 : Int32) (114 : Int32) (115 : Int32) (0 : Int32)) (k0 : x4 = (0 : Int32)) (k1 : x12 = (0 : Int32)) (k2 : x20 = (0 : Int32)) (k3 : x28 = (0 : Int32)) (k4 : x36 = (0 : Int32)) (k5 : x44 = (0 : Int32)) : K_X8_wordOf_e G w v h0 = (9 : Int32) := by
  subst a5; subst a4; subst a3; subst a2; subst a1; subst a0; first | rw [K_X8_wordOf_e, if_pos k0, if_pos k1, if_pos k2, if_pos k3, if_pos k4, if_pos k5] | simp only [K_X8_wordOf_e, if_pos k0, if_pos k1, if_pos k2, if_pos k3, if_pos k4, if_pos k5]
set_option maxRecDepth 100000 in
theorem kx_X8_wordOf_2 {G : Gm} {w : Mw} {v : Mv} {h0 : Nat} {x4 : Int32} {x12 : Int32} {x20 : Int32} {x28 : Int32} {x36 : Int32} {x44 : Int32} (a0 : x4 = F_X8_spells_6 G w v h0 (112 : Int32) (101 : Int32) (111 : Int32) (112 : Int32) (108 : Int32) (101 : Int32)) (a1 : x12 = F_X8_spells_5 G w v h0 (116 : Int32) (104 : Int32) (105 : Int32) (110 : Int32) (103 : Int32) (0 : Int32)) (a2 : x20 = F_X8_spells_3 G w v h0 (111 : Int32) (110 : Int32) (101 : Int32) (0 : Int32) (0 : Int32) (0 : Int32)) (a3 : x28 = F_X8_spells_3 G w v h0 (111 : Int32) (119 : Int32) (110 : Int32) (0 : Int32) (0 : Int32) (0 : Int32)) (a4 : x36 = F_X8_spells_5 G w v h0 (108 : Int32) (101 : Int32) (97 : Int32) (118 : Int32) (101 : Int32) (0 : Int32)) (a5 : x44 = F_X8_spells_5 G w v h0 (121 : Int32) (101 : Int32) (97 : Int32) (114 : Int32) (115 : Int32) (0 : Int32)) (k0 : x4 = (0 : Int32)) (k1 : x12 = (0 : Int32)) (k2 : x20 = (0 : Int32)) (k3 : x28 = (0 : Int32)) (k4 : x36 = (0 : Int32)) (k5 : ¬ (x44 = (0 : Int32))) : K_X8_wordOf_e G w v h0 = (5 : Int32) := by
  subst a5; subst a4; subst a3; subst a2; subst a1; subst a0; first | rw [K_X8_wordOf_e, if_pos k0, if_pos k1, if_pos k2, if_pos k3, if_pos k4, if_neg k5] | simp only [K_X8_wordOf_e, if_pos k0, if_pos k1, if_pos k2, if_pos k3, if_pos k4, if_neg k5]
set_option maxRecDepth 100000 in
theorem kx_X8_wordOf_3 {G : Gm} {w : Mw} {v : Mv} {h0 : Nat} {x4 : Int32} {x12 : Int32} {x20 : Int32} {x28 : Int32} {x36 : Int32} (a0 : x4 = F_X8_spells_6 G w v h0 (112 : Int32) (101 : Int32) (111 : Int32) (112 : Int32) (108 : Int32) (101 : Int32)) (a1 : x12 = F_X8_spells_5 G w v h0 (116 : Int32) (104 : Int32) (105 : Int32) (110 : Int32) (103 : Int32) (0 : Int32)) (a2 : x20 = F_X8_spells_3 G w v h0 (111 : Int32) (110 : Int32) (101 : Int32) (0 : Int32) (0 : Int32) (0 : Int32)) (a3 : x28 = F_X8_spells_3 G w v h0 (111 : Int32) (119 : Int32) (110 : Int32) (0 : Int32) (0 : Int32) (0 : Int32)) (a4 : x36 = F_X8_spells_5 G w v h0 (108 : Int32) (101 : Int32) (97 : Int32) (118 : Int32) (101 : Int32) (0 : Int32)) (k0 : x4 = (0 : Int32)) (k1 : x12 = (0 : Int32)) (k2 : x20 = (0 : Int32)) (k3 : x28 = (0 : Int32)) (k4 : ¬ (x36 = (0 : Int32))) : K_X8_wordOf_e G w v h0 = (4 : Int32) := by
  subst a4; subst a3; subst a2; subst a1; subst a0; first | rw [K_X8_wordOf_e, if_pos k0, if_pos k1, if_pos k2, if_pos k3, if_neg k4] | simp only [K_X8_wordOf_e, if_pos k0, if_pos k1, if_pos k2, if_pos k3, if_neg k4]
set_option maxRecDepth 100000 in
theorem kx_X8_wordOf_4 {G : Gm} {w : Mw} {v : Mv} {h0 : Nat} {x4 : Int32} {x12 : Int32} {x20 : Int32} {x28 : Int32} (a0 : x4 = F_X8_spells_6 G w v h0 (112 : Int32) (101 : Int32) (111 : Int32) (112 : Int32) (108 : Int32) (101 : Int32)) (a1 : x12 = F_X8_spells_5 G w v h0 (116 : Int32) (104 : Int32) (105 : Int32) (110 : Int32) (103 : Int32) (0 : Int32)) (a2 : x20 = F_X8_spells_3 G w v h0 (111 : Int32) (110 : Int32) (101 : Int32) (0 : Int32) (0 : Int32) (0 : Int32)) (a3 : x28 = F_X8_spells_3 G w v h0 (111 : Int32) (119 : Int32) (110 : Int32) (0 : Int32) (0 : Int32) (0 : Int32)) (k0 : x4 = (0 : Int32)) (k1 : x12 = (0 : Int32)) (k2 : x20 = (0 : Int32)) (k3 : ¬ (x28 = (0 : Int32))) : K_X8_wordOf_e G w v h0 = (3 : Int32) := by
  subst a3; subst a2; subst a1; subst a0; first | rw [K_X8_wordOf_e, if_pos k0, if_pos k1, if_pos k2, if_neg k3] | simp only [K_X8_wordOf_e, if_pos k0, if_pos k1, if_pos k2, if_neg k3]
set_option maxRecDepth 100000 in
theorem kx_X8_wordOf_5 {G : Gm} {w : Mw} {v : Mv} {h0 : Nat} {x4 : Int32} {x12 : Int32} {x20 : Int32} (a0 : x4 = F_X8_spells_6 G w v h0 (112 : Int32) (101 : Int32) (111 : Int32) (112 : Int32) (108 : Int32) (101 : Int32)) (a1 : x12 = F_X8_spells_5 G w v h0 (116 : Int32) (104 : Int32) (105 : Int32) (110 : Int32) (103 : Int32) (0 : Int32)) (a2 : x20 = F_X8_spells_3 G w v h0 (111 : Int32) (110 : Int32) (101 : Int32) (0 : Int32) (0 : Int32) (0 : Int32)) (k0 : x4 = (0 : Int32)) (k1 : x12 = (0 : Int32)) (k2 : ¬ (x20 = (0 : Int32))) : K_X8_wordOf_e G w v h0 = (2 : Int32) := by
  subst a2; subst a1; subst a0; first | rw [K_X8_wordOf_e, if_pos k0, if_pos k1, if_neg k2] | simp only [K_X8_wordOf_e, if_pos k0, if_pos k1, if_neg k2]
set_option maxRecDepth 100000 in
theorem kx_X8_wordOf_6 {G : Gm} {w : Mw} {v : Mv} {h0 : Nat} {x4 : Int32} {x12 : Int32} (a0 : x4 = F_X8_spells_6 G w v h0 (112 : Int32) (101 : Int32) (111 : Int32) (112 : Int32) (108 : Int32) (101 : Int32)) (a1 : x12 = F_X8_spells_5 G w v h0 (116 : Int32) (104 : Int32) (105 : Int32) (110 : Int32) (103 : Int32) (0 : Int32)) (k0 : x4 = (0 : Int32)) (k1 : ¬ (x12 = (0 : Int32))) : K_X8_wordOf_e G w v h0 = (1 : Int32) := by
  subst a1; subst a0; first | rw [K_X8_wordOf_e, if_pos k0, if_neg k1] | simp only [K_X8_wordOf_e, if_pos k0, if_neg k1]
set_option maxRecDepth 100000 in
theorem kx_X8_wordOf_7 {G : Gm} {w : Mw} {v : Mv} {h0 : Nat} {x4 : Int32} (a0 : x4 = F_X8_spells_6 G w v h0 (112 : Int32) (101 : Int32) (111 : Int32) (112 : Int32) (108 : Int32) (101 : Int32)) (k0 : ¬ (x4 = (0 : Int32))) : K_X8_wordOf_e G w v h0 = (0 : Int32) := by
  subst a0; first | rw [K_X8_wordOf_e, if_neg k0] | simp only [K_X8_wordOf_e, if_neg k0]
abbrev rm_X8_wordOf : Room := { frames := 1, cells := 0, slots := 0, locals := 28 }
set_option maxHeartbeats 4000000 in
set_option maxRecDepth 100000 in
theorem ct_X8_wordOf (l : Launch) (D : va_G) (dA : Nat → ClassId) (G : Gm) (v : Mv) (w : Mw) (hOk : Ok G v w) (h0 : Nat) (S0 : S_X8 G h0) : CtI l yX8_wordOf cX8_wordOf 1 (some .int) rm_X8_wordOf D dA G [.ref h0] v w (fun r v1 w1 => v1 = v ∧ w1 = w ∧ Bd r 0 9 ∧ r = F_X8_wordOf G w v h0) := by
  refine CtI.of RX8 [(0, .ref h0)] (Nat.le_of_ble_eq_true rfl) rfl (by decide) rfl ?_
  intro p e s m args below meth c E hr
  have hK : K_X8_wordOf_e G w v h0 = F_X8_wordOf G w v h0 := rfl
  refine J_aload_n E dX8_wordOf_0 0 rfl ?_
  refine J_bipush E 112 dX8_wordOf_1 (by decide) ?_
  refine J_bipush E 101 dX8_wordOf_3 (by decide) ?_
  refine J_bipush E 111 dX8_wordOf_5 (by decide) ?_
  refine J_bipush E 112 dX8_wordOf_7 (by decide) ?_
  refine J_bipush E 108 dX8_wordOf_9 (by decide) ?_
  refine J_bipush E 101 dX8_wordOf_11 (by decide) ?_
  refine J_bipush E 6 dX8_wordOf_13 (by decide) ?_
  refine J_callVI E cal_X8_spells wd1043 rfl (S_X8.h S0) [.int 112, .int 101, .int 111, .int 112, .int 108, .int 101, .int 6] [] (ct_X8_spells_6 l D dA G v w (hOk) h0 S0 112 (Bd.lit 112 112 (by decide)) 101 (Bd.lit 101 101 (by decide)) 111 (Bd.lit 111 111 (by decide)) 112 (Bd.lit 112 112 (by decide)) 108 (Bd.lit 108 108 (by decide)) 101 (Bd.lit 101 101 (by decide))) rfl rfl (Nat.le_of_ble_eq_true rfl) ⟨rfl, rfl⟩ ⟨Nat.le_of_ble_eq_true rfl, Nat.le_of_ble_eq_true rfl⟩ dX8_wordOf_15 (fun x4 v1 w2 p3 => ?_)
  rw [p3.1, p3.2.1]
  have b5 : Bd x4 0 1 := p3.2.2.1
  have e6 : x4 = F_X8_spells_6 G w v h0 (112 : Int32) (101 : Int32) (111 : Int32) (112 : Int32) (108 : Int32) (101 : Int32) := (p3.2.2.2)
  refine J_if_eq E 25 dX8_wordOf_18 (by decide) (fun c7 => ?_) (fun c7 => ?_)
  · have b8 : Bd x4 0 0 := Bd.eq_l c7 b5 (Bd.lit 0 0 (by decide)) 0 0 (by decide)
    refine J_aload_n E dX8_wordOf_25 0 rfl ?_
    refine J_bipush E 116 dX8_wordOf_26 (by decide) ?_
    refine J_bipush E 104 dX8_wordOf_28 (by decide) ?_
    refine J_bipush E 105 dX8_wordOf_30 (by decide) ?_
    refine J_bipush E 110 dX8_wordOf_32 (by decide) ?_
    refine J_bipush E 103 dX8_wordOf_34 (by decide) ?_
    refine J_iconst E 0 dX8_wordOf_36 (by decide) ?_
    refine J_iconst E 5 dX8_wordOf_37 (by decide) ?_
    refine J_callVI E cal_X8_spells wd1043 rfl (S_X8.h S0) [.int 116, .int 104, .int 105, .int 110, .int 103, .int 0, .int 5] [] (ct_X8_spells_5 l D dA G v w (hOk) h0 S0 116 ((Bd.lit 116 116 (by decide)).w 108 121 (by decide)) 104 ((Bd.lit 104 104 (by decide)).w 101 104 (by decide)) 105 ((Bd.lit 105 105 (by decide)).w 97 105 (by decide)) 110 ((Bd.lit 110 110 (by decide)).w 110 118 (by decide)) 103 ((Bd.lit 103 103 (by decide)).w 101 115 (by decide)) 0 (Bd.lit 0 0 (by decide))) rfl rfl (Nat.le_of_ble_eq_true rfl) ⟨rfl, rfl⟩ ⟨Nat.le_of_ble_eq_true rfl, Nat.le_of_ble_eq_true rfl⟩ dX8_wordOf_38 (fun x12 v9 w10 p11 => ?_)
    rw [p11.1, p11.2.1]
    have b13 : Bd x12 0 1 := p11.2.2.1
    have e14 : x12 = F_X8_spells_5 G w v h0 (116 : Int32) (104 : Int32) (105 : Int32) (110 : Int32) (103 : Int32) (0 : Int32) := (p11.2.2.2)
    refine J_if_eq E 48 dX8_wordOf_41 (by decide) (fun c15 => ?_) (fun c15 => ?_)
    · have b16 : Bd x12 0 0 := Bd.eq_l c15 b13 (Bd.lit 0 0 (by decide)) 0 0 (by decide)
      refine J_aload_n E dX8_wordOf_48 0 rfl ?_
      refine J_bipush E 111 dX8_wordOf_49 (by decide) ?_
      refine J_bipush E 110 dX8_wordOf_51 (by decide) ?_
      refine J_bipush E 101 dX8_wordOf_53 (by decide) ?_
      refine J_iconst E 0 dX8_wordOf_55 (by decide) ?_
      refine J_iconst E 0 dX8_wordOf_56 (by decide) ?_
      refine J_iconst E 0 dX8_wordOf_57 (by decide) ?_
      refine J_iconst E 3 dX8_wordOf_58 (by decide) ?_
      refine J_callVI E cal_X8_spells wd1043 rfl (S_X8.h S0) [.int 111, .int 110, .int 101, .int 0, .int 0, .int 0, .int 3] [] (ct_X8_spells_3 l D dA G v w (hOk) h0 S0 111 (Bd.lit 111 111 (by decide)) 110 ((Bd.lit 110 110 (by decide)).w 110 119 (by decide)) 101 ((Bd.lit 101 101 (by decide)).w 101 110 (by decide)) 0 (Bd.lit 0 0 (by decide)) 0 (Bd.lit 0 0 (by decide)) 0 (Bd.lit 0 0 (by decide))) rfl rfl (Nat.le_of_ble_eq_true rfl) ⟨rfl, rfl⟩ ⟨Nat.le_of_ble_eq_true rfl, Nat.le_of_ble_eq_true rfl⟩ dX8_wordOf_59 (fun x20 v17 w18 p19 => ?_)
      rw [p19.1, p19.2.1]
      have b21 : Bd x20 0 1 := p19.2.2.1
      have e22 : x20 = F_X8_spells_3 G w v h0 (111 : Int32) (110 : Int32) (101 : Int32) (0 : Int32) (0 : Int32) (0 : Int32) := (p19.2.2.2)
      refine J_if_eq E 69 dX8_wordOf_62 (by decide) (fun c23 => ?_) (fun c23 => ?_)
      · have b24 : Bd x20 0 0 := Bd.eq_l c23 b21 (Bd.lit 0 0 (by decide)) 0 0 (by decide)
        refine J_aload_n E dX8_wordOf_69 0 rfl ?_
        refine J_bipush E 111 dX8_wordOf_70 (by decide) ?_
        refine J_bipush E 119 dX8_wordOf_72 (by decide) ?_
        refine J_bipush E 110 dX8_wordOf_74 (by decide) ?_
        refine J_iconst E 0 dX8_wordOf_76 (by decide) ?_
        refine J_iconst E 0 dX8_wordOf_77 (by decide) ?_
        refine J_iconst E 0 dX8_wordOf_78 (by decide) ?_
        refine J_iconst E 3 dX8_wordOf_79 (by decide) ?_
        refine J_callVI E cal_X8_spells wd1043 rfl (S_X8.h S0) [.int 111, .int 119, .int 110, .int 0, .int 0, .int 0, .int 3] [] (ct_X8_spells_3 l D dA G v w (hOk) h0 S0 111 (Bd.lit 111 111 (by decide)) 119 ((Bd.lit 119 119 (by decide)).w 110 119 (by decide)) 110 ((Bd.lit 110 110 (by decide)).w 101 110 (by decide)) 0 (Bd.lit 0 0 (by decide)) 0 (Bd.lit 0 0 (by decide)) 0 (Bd.lit 0 0 (by decide))) rfl rfl (Nat.le_of_ble_eq_true rfl) ⟨rfl, rfl⟩ ⟨Nat.le_of_ble_eq_true rfl, Nat.le_of_ble_eq_true rfl⟩ dX8_wordOf_80 (fun x28 v25 w26 p27 => ?_)
        rw [p27.1, p27.2.1]
        have b29 : Bd x28 0 1 := p27.2.2.1
        have e30 : x28 = F_X8_spells_3 G w v h0 (111 : Int32) (119 : Int32) (110 : Int32) (0 : Int32) (0 : Int32) (0 : Int32) := (p27.2.2.2)
        refine J_if_eq E 90 dX8_wordOf_83 (by decide) (fun c31 => ?_) (fun c31 => ?_)
        · have b32 : Bd x28 0 0 := Bd.eq_l c31 b29 (Bd.lit 0 0 (by decide)) 0 0 (by decide)
          refine J_aload_n E dX8_wordOf_90 0 rfl ?_
          refine J_bipush E 108 dX8_wordOf_91 (by decide) ?_
          refine J_bipush E 101 dX8_wordOf_93 (by decide) ?_
          refine J_bipush E 97 dX8_wordOf_95 (by decide) ?_
          refine J_bipush E 118 dX8_wordOf_97 (by decide) ?_
          refine J_bipush E 101 dX8_wordOf_99 (by decide) ?_
          refine J_iconst E 0 dX8_wordOf_101 (by decide) ?_
          refine J_iconst E 5 dX8_wordOf_102 (by decide) ?_
          refine J_callVI E cal_X8_spells wd1043 rfl (S_X8.h S0) [.int 108, .int 101, .int 97, .int 118, .int 101, .int 0, .int 5] [] (ct_X8_spells_5 l D dA G v w (hOk) h0 S0 108 ((Bd.lit 108 108 (by decide)).w 108 121 (by decide)) 101 ((Bd.lit 101 101 (by decide)).w 101 104 (by decide)) 97 ((Bd.lit 97 97 (by decide)).w 97 105 (by decide)) 118 ((Bd.lit 118 118 (by decide)).w 110 118 (by decide)) 101 ((Bd.lit 101 101 (by decide)).w 101 115 (by decide)) 0 (Bd.lit 0 0 (by decide))) rfl rfl (Nat.le_of_ble_eq_true rfl) ⟨rfl, rfl⟩ ⟨Nat.le_of_ble_eq_true rfl, Nat.le_of_ble_eq_true rfl⟩ dX8_wordOf_103 (fun x36 v33 w34 p35 => ?_)
          rw [p35.1, p35.2.1]
          have b37 : Bd x36 0 1 := p35.2.2.1
          have e38 : x36 = F_X8_spells_5 G w v h0 (108 : Int32) (101 : Int32) (97 : Int32) (118 : Int32) (101 : Int32) (0 : Int32) := (p35.2.2.2)
          refine J_if_eq E 113 dX8_wordOf_106 (by decide) (fun c39 => ?_) (fun c39 => ?_)
          · have b40 : Bd x36 0 0 := Bd.eq_l c39 b37 (Bd.lit 0 0 (by decide)) 0 0 (by decide)
            refine J_aload_n E dX8_wordOf_113 0 rfl ?_
            refine J_bipush E 121 dX8_wordOf_114 (by decide) ?_
            refine J_bipush E 101 dX8_wordOf_116 (by decide) ?_
            refine J_bipush E 97 dX8_wordOf_118 (by decide) ?_
            refine J_bipush E 114 dX8_wordOf_120 (by decide) ?_
            refine J_bipush E 115 dX8_wordOf_122 (by decide) ?_
            refine J_iconst E 0 dX8_wordOf_124 (by decide) ?_
            refine J_iconst E 5 dX8_wordOf_125 (by decide) ?_
            refine J_callVI E cal_X8_spells wd1043 rfl (S_X8.h S0) [.int 121, .int 101, .int 97, .int 114, .int 115, .int 0, .int 5] [] (ct_X8_spells_5 l D dA G v w (hOk) h0 S0 121 ((Bd.lit 121 121 (by decide)).w 108 121 (by decide)) 101 ((Bd.lit 101 101 (by decide)).w 101 104 (by decide)) 97 ((Bd.lit 97 97 (by decide)).w 97 105 (by decide)) 114 ((Bd.lit 114 114 (by decide)).w 110 118 (by decide)) 115 ((Bd.lit 115 115 (by decide)).w 101 115 (by decide)) 0 (Bd.lit 0 0 (by decide))) rfl rfl (Nat.le_of_ble_eq_true rfl) ⟨rfl, rfl⟩ ⟨Nat.le_of_ble_eq_true rfl, Nat.le_of_ble_eq_true rfl⟩ dX8_wordOf_126 (fun x44 v41 w42 p43 => ?_)
            rw [p43.1, p43.2.1]
            have b45 : Bd x44 0 1 := p43.2.2.1
            have e46 : x44 = F_X8_spells_5 G w v h0 (121 : Int32) (101 : Int32) (97 : Int32) (114 : Int32) (115 : Int32) (0 : Int32) := (p43.2.2.2)
            refine J_if_eq E 136 dX8_wordOf_129 (by decide) (fun c47 => ?_) (fun c47 => ?_)
            · have b48 : Bd x44 0 0 := Bd.eq_l c47 b45 (Bd.lit 0 0 (by decide)) 0 0 (by decide)
              refine J_bipush E 9 dX8_wordOf_136 (by decide) ?_
              exact J_iret E hr dX8_wordOf_138 ⟨rfl, rfl, ((Bd.lit 9 9 (by decide)).w 0 9 (by decide)), ((kx_X8_wordOf_1 (e6) (e14) (e22) (e30) (e38) (e46) (c7) (c15) (c23) (c31) (c39) (c47)).symm.trans hK)⟩
            · have b49 : Bd x44 1 1 := (Bd.ne_lo c47 b45 (Bd.lit 0 0 (by decide))).w _ _ (by decide)
              refine J_iconst E 5 dX8_wordOf_132 (by decide) ?_
              refine J_goto E 138 dX8_wordOf_133 (by decide) ?_
              exact J_iret E hr dX8_wordOf_138 ⟨rfl, rfl, ((Bd.lit 5 5 (by decide)).w 0 9 (by decide)), ((kx_X8_wordOf_2 (e6) (e14) (e22) (e30) (e38) (e46) (c7) (c15) (c23) (c31) (c39) (c47)).symm.trans hK)⟩
          · have b50 : Bd x36 1 1 := (Bd.ne_lo c39 b37 (Bd.lit 0 0 (by decide))).w _ _ (by decide)
            refine J_iconst E 4 dX8_wordOf_109 (by decide) ?_
            refine J_goto E 138 dX8_wordOf_110 (by decide) ?_
            exact J_iret E hr dX8_wordOf_138 ⟨rfl, rfl, ((Bd.lit 4 4 (by decide)).w 0 9 (by decide)), ((kx_X8_wordOf_3 (e6) (e14) (e22) (e30) (e38) (c7) (c15) (c23) (c31) (c39)).symm.trans hK)⟩
        · have b51 : Bd x28 1 1 := (Bd.ne_lo c31 b29 (Bd.lit 0 0 (by decide))).w _ _ (by decide)
          refine J_iconst E 3 dX8_wordOf_86 (by decide) ?_
          refine J_goto E 138 dX8_wordOf_87 (by decide) ?_
          exact J_iret E hr dX8_wordOf_138 ⟨rfl, rfl, ((Bd.lit 3 3 (by decide)).w 0 9 (by decide)), ((kx_X8_wordOf_4 (e6) (e14) (e22) (e30) (c7) (c15) (c23) (c31)).symm.trans hK)⟩
      · have b52 : Bd x20 1 1 := (Bd.ne_lo c23 b21 (Bd.lit 0 0 (by decide))).w _ _ (by decide)
        refine J_iconst E 2 dX8_wordOf_65 (by decide) ?_
        refine J_goto E 138 dX8_wordOf_66 (by decide) ?_
        exact J_iret E hr dX8_wordOf_138 ⟨rfl, rfl, ((Bd.lit 2 2 (by decide)).w 0 9 (by decide)), ((kx_X8_wordOf_5 (e6) (e14) (e22) (c7) (c15) (c23)).symm.trans hK)⟩
    · have b53 : Bd x12 1 1 := (Bd.ne_lo c15 b13 (Bd.lit 0 0 (by decide))).w _ _ (by decide)
      refine J_iconst E 1 dX8_wordOf_44 (by decide) ?_
      refine J_goto E 138 dX8_wordOf_45 (by decide) ?_
      exact J_iret E hr dX8_wordOf_138 ⟨rfl, rfl, ((Bd.lit 1 1 (by decide)).w 0 9 (by decide)), ((kx_X8_wordOf_6 (e6) (e14) (c7) (c15)).symm.trans hK)⟩
  · have b54 : Bd x4 1 1 := (Bd.ne_lo c7 b5 (Bd.lit 0 0 (by decide))).w _ _ (by decide)
    refine J_iconst E 0 dX8_wordOf_21 (by decide) ?_
    refine J_goto E 138 dX8_wordOf_22 (by decide) ?_
    exact J_iret E hr dX8_wordOf_138 ⟨rfl, rfl, ((Bd.lit 0 0 (by decide)).w 0 9 (by decide)), ((kx_X8_wordOf_7 (e6) (c7)).symm.trans hK)⟩

def K_X8_step_165 (G : Gm) (w : Mw) (h0 : Nat) : Nat → Mv → Mv
  | 0, _ => (fun _ _ => 0 : Mv)
  | n165 + 1, v1 =>
    if (F_X8_in G w v1 (F_X8_here G w v1 h0) (97 : Int32) (122 : Int32)) = (0 : Int32) then ((stv v1 h0 8 (F_X8_wordOf G w v1 h0))) else ((K_X8_step_165 G w h0 n165) (stv v1 h0 6 ((v1 h0 6) + (1 : Int32))))
def K_X8_step_148 (G : Gm) (w : Mw) (h0 : Nat) (v62 : Mv) (x68 : Int32) : Mv :=
  (stv v62 h0 8 x68)
def K_X8_step_111 (G : Gm) (w : Mw) (h0 : Nat) (rec65 : Mv → Mv) (v83 : Mv) (x94 : Int32) : Mv :=
  rec65 (stv (stv v83 h0 9 x94) h0 6 ((v83 h0 6) + (1 : Int32)))
def K_X8_step_65 (G : Gm) (w : Mw) (h0 : Nat) : Nat → Mv → Mv
  | 0, _ => (fun _ _ => 0 : Mv)
  | n65 + 1, v83 =>
    if (F_X8_in G w v83 (F_X8_here G w v83 h0) (48 : Int32) (57 : Int32)) = (0 : Int32) then (if ((v83 h0 6) - (v83 h0 7)) ≤ (2 : Int32) then (K_X8_step_148 G w h0 v83 (6 : Int32)) else (K_X8_step_148 G w h0 v83 (9 : Int32))) else (if (v83 h0 9) ≤ (99 : Int32) then (K_X8_step_111 G w h0 (K_X8_step_65 G w h0 n65) v83 ((((10 : Int32) * (v83 h0 9)) + (F_X8_here G w v83 h0)) - (48 : Int32))) else (K_X8_step_111 G w h0 (K_X8_step_65 G w h0 n65) v83 (v83 h0 9)))
def K_X8_step_0 (G : Gm) (w : Mw) (h0 : Nat) : Nat → Mv → Mv
  | 0, _ => (fun _ _ => 0 : Mv)
  | n0 + 1, v179 =>
    if (F_X8_here G w v179 h0) = (32 : Int32) then ((K_X8_step_0 G w h0 n0) (stv v179 h0 6 ((v179 h0 6) + (1 : Int32)))) else (if (F_X8_here G w (stv (stv v179 h0 7 (v179 h0 6)) h0 9 (0 : Int32)) h0) = (-1 : Int32) then ((stv (stv (stv v179 h0 7 (v179 h0 6)) h0 9 (0 : Int32)) h0 8 (8 : Int32))) else (if (F_X8_in G w (stv (stv v179 h0 7 (v179 h0 6)) h0 9 (0 : Int32)) (F_X8_here G w (stv (stv v179 h0 7 (v179 h0 6)) h0 9 (0 : Int32)) h0) (48 : Int32) (57 : Int32)) = (0 : Int32) then (if (F_X8_in G w (stv (stv v179 h0 7 (v179 h0 6)) h0 9 (0 : Int32)) (F_X8_here G w (stv (stv v179 h0 7 (v179 h0 6)) h0 9 (0 : Int32)) h0) (97 : Int32) (122 : Int32)) = (0 : Int32) then (if (F_X8_here G w (stv (stv v179 h0 7 (v179 h0 6)) h0 9 (0 : Int32)) h0) = (59 : Int32) then ((stv (stv (stv (stv v179 h0 7 (v179 h0 6)) h0 9 (0 : Int32)) h0 6 ((v179 h0 6) + (1 : Int32))) h0 8 (7 : Int32))) else ((stv (stv (stv (stv v179 h0 7 (v179 h0 6)) h0 9 (0 : Int32)) h0 6 ((v179 h0 6) + (1 : Int32))) h0 8 (9 : Int32)))) else (K_X8_step_165 G w h0 151 (stv (stv v179 h0 7 (v179 h0 6)) h0 9 (0 : Int32)))) else (K_X8_step_65 G w h0 151 (stv (stv v179 h0 7 (v179 h0 6)) h0 9 (0 : Int32)))))
def K_X8_step_e (G : Gm) (w : Mw) (v : Mv) (h0 : Nat) : Mv :=
  K_X8_step_0 G w h0 151 v
def F_X8_step (G : Gm) (w : Mw) (v : Mv) (h0 : Nat) : Mv := K_X8_step_e G w v h0
set_option maxRecDepth 100000 in
theorem kx_X8_step_1 {G : Gm} {w : Mw} {h0 : Nat} {n165 : Nat} {v1 : Mv} {v34 : Mv} {x15 : Int32} {x31 : Int32} {x21 : Int32} (a0 : x15 = F_X8_here G w v1 h0) (a1 : x21 = F_X8_in G w v1 x15 (97 : Int32) (122 : Int32)) (a2 : x31 = F_X8_wordOf G w v1 h0) (a3 : v34 = stv v1 h0 8 x31) (k0 : x21 = (0 : Int32)) : K_X8_step_165 G w h0 (n165 + 1) v1 = v34 := by
  subst a3; subst a2; subst a1; subst a0; first | rw [K_X8_step_165, if_pos k0] | simp only [K_X8_step_165, if_pos k0]
set_option maxRecDepth 100000 in
theorem kx_X8_step_2 {G : Gm} {w : Mw} {h0 : Nat} {n165 : Nat} {v1 : Mv} {v53 : Mv} {x15 : Int32} {x8 : Int32} {x50 : Int32} {x21 : Int32} (a0 : x8 = v1 h0 6) (a1 : x15 = F_X8_here G w v1 h0) (a2 : x21 = F_X8_in G w v1 x15 (97 : Int32) (122 : Int32)) (a3 : x50 = x8 + (1 : Int32)) (a4 : v53 = stv v1 h0 6 x50) (k0 : ¬ (x21 = (0 : Int32))) : K_X8_step_165 G w h0 (n165 + 1) v1 = (K_X8_step_165 G w h0 n165) v53 := by
  subst a4; subst a3; subst a2; subst a1; subst a0; first | rw [K_X8_step_165, if_neg k0] | simp only [K_X8_step_165, if_neg k0]
set_option maxRecDepth 100000 in
theorem kx_X8_step_3 {G : Gm} {w : Mw} {h0 : Nat} {v62 : Mv} {x68 : Int32} {v74 : Mv} (a0 : v74 = stv v62 h0 8 x68)  : K_X8_step_148 G w h0 v62 x68 = v74 := by
  subst a0; first | rw [K_X8_step_148] | simp only [K_X8_step_148]
set_option maxRecDepth 100000 in
theorem kx_X8_step_4 {G : Gm} {w : Mw} {h0 : Nat} {rec65 : Mv → Mv} {v83 : Mv} {x94 : Int32} {v112 : Mv} {x90 : Int32} {v98 : Mv} {x109 : Int32} (a0 : x90 = v83 h0 6) (a1 : v98 = stv v83 h0 9 x94) (a2 : x109 = x90 + (1 : Int32)) (a3 : v112 = stv v98 h0 6 x109)  : K_X8_step_111 G w h0 rec65 v83 x94 = rec65 v112 := by
  subst a3; subst a2; subst a1; subst a0; first | rw [K_X8_step_111] | simp only [K_X8_step_111]
set_option maxRecDepth 100000 in
theorem kx_X8_step_5 {G : Gm} {w : Mw} {h0 : Nat} {n65 : Nat} {v83 : Mv} {x125 : Int32} {x90 : Int32} {x140 : Int32} {x131 : Int32} {x143 : Int32} (a0 : x90 = v83 h0 6) (a1 : x125 = F_X8_here G w v83 h0) (a2 : x131 = F_X8_in G w v83 x125 (48 : Int32) (57 : Int32)) (a3 : x140 = v83 h0 7) (a4 : x143 = x90 - x140) (k0 : x131 = (0 : Int32)) (k1 : x143 ≤ (2 : Int32)) : K_X8_step_65 G w h0 (n65 + 1) v83 = K_X8_step_148 G w h0 v83 (6 : Int32) := by
  subst a4; subst a3; subst a2; subst a1; subst a0; first | rw [K_X8_step_65, if_pos k0, if_pos k1] | simp only [K_X8_step_65, if_pos k0, if_pos k1]
set_option maxRecDepth 100000 in
theorem kx_X8_step_6 {G : Gm} {w : Mw} {h0 : Nat} {n65 : Nat} {v83 : Mv} {x125 : Int32} {x90 : Int32} {x140 : Int32} {x131 : Int32} {x143 : Int32} (a0 : x90 = v83 h0 6) (a1 : x125 = F_X8_here G w v83 h0) (a2 : x131 = F_X8_in G w v83 x125 (48 : Int32) (57 : Int32)) (a3 : x140 = v83 h0 7) (a4 : x143 = x90 - x140) (k0 : x131 = (0 : Int32)) (k1 : ¬ (x143 ≤ (2 : Int32))) : K_X8_step_65 G w h0 (n65 + 1) v83 = K_X8_step_148 G w h0 v83 (9 : Int32) := by
  subst a4; subst a3; subst a2; subst a1; subst a0; first | rw [K_X8_step_65, if_pos k0, if_neg k1] | simp only [K_X8_step_65, if_pos k0, if_neg k1]
set_option maxRecDepth 100000 in
theorem kx_X8_step_7 {G : Gm} {w : Mw} {h0 : Nat} {n65 : Nat} {v83 : Mv} {x173 : Int32} {x125 : Int32} {x154 : Int32} {x161 : Int32} {x170 : Int32} {x131 : Int32} (a0 : x125 = F_X8_here G w v83 h0) (a1 : x131 = F_X8_in G w v83 x125 (48 : Int32) (57 : Int32)) (a2 : x154 = v83 h0 9) (a3 : x161 = (10 : Int32) * x154) (a4 : x170 = x161 + x125) (a5 : x173 = x170 - (48 : Int32)) (k0 : ¬ (x131 = (0 : Int32))) (k1 : x154 ≤ (99 : Int32)) : K_X8_step_65 G w h0 (n65 + 1) v83 = K_X8_step_111 G w h0 (K_X8_step_65 G w h0 n65) v83 x173 := by
  subst a5; subst a4; subst a3; subst a2; subst a1; subst a0; first | rw [K_X8_step_65, if_neg k0, if_pos k1] | simp only [K_X8_step_65, if_neg k0, if_pos k1]
set_option maxRecDepth 100000 in
theorem kx_X8_step_8 {G : Gm} {w : Mw} {h0 : Nat} {n65 : Nat} {v83 : Mv} {x154 : Int32} {x125 : Int32} {x131 : Int32} (a0 : x125 = F_X8_here G w v83 h0) (a1 : x131 = F_X8_in G w v83 x125 (48 : Int32) (57 : Int32)) (a2 : x154 = v83 h0 9) (k0 : ¬ (x131 = (0 : Int32))) (k1 : ¬ (x154 ≤ (99 : Int32))) : K_X8_step_65 G w h0 (n65 + 1) v83 = K_X8_step_111 G w h0 (K_X8_step_65 G w h0 n65) v83 x154 := by
  subst a2; subst a1; subst a0; first | rw [K_X8_step_65, if_neg k0, if_neg k1] | simp only [K_X8_step_65, if_neg k0, if_neg k1]
set_option maxRecDepth 100000 in
theorem kx_X8_step_9 {G : Gm} {w : Mw} {h0 : Nat} {n0 : Nat} {v179 : Mv} {v260 : Mv} {x186 : Int32} {v198 : Mv} {v207 : Mv} {x220 : Int32} {x245 : Int32} {v248 : Mv} {x192 : Int32} {x228 : Int32} {x237 : Int32} (a0 : x186 = v179 h0 6) (a1 : x192 = F_X8_here G w v179 h0) (a2 : v198 = stv v179 h0 7 x186) (a3 : v207 = stv v198 h0 9 (0 : Int32)) (a4 : x220 = F_X8_here G w v207 h0) (a5 : x228 = F_X8_in G w v207 x220 (48 : Int32) (57 : Int32)) (a6 : x237 = F_X8_in G w v207 x220 (97 : Int32) (122 : Int32)) (a7 : x245 = x186 + (1 : Int32)) (a8 : v248 = stv v207 h0 6 x245) (a9 : v260 = stv v248 h0 8 (9 : Int32)) (k0 : ¬ (x192 = (32 : Int32))) (k1 : ¬ (x220 = (-1 : Int32))) (k2 : x228 = (0 : Int32)) (k3 : x237 = (0 : Int32)) (k4 : ¬ (x220 = (59 : Int32))) : K_X8_step_0 G w h0 (n0 + 1) v179 = v260 := by
  subst a9; subst a8; subst a7; subst a6; subst a5; subst a4; subst a3; subst a2; subst a1; subst a0; first | rw [K_X8_step_0, if_neg k0, if_neg k1, if_pos k2, if_pos k3, if_neg k4] | simp only [K_X8_step_0, if_neg k0, if_neg k1, if_pos k2, if_pos k3, if_neg k4]
set_option maxRecDepth 100000 in
theorem kx_X8_step_10 {G : Gm} {w : Mw} {h0 : Nat} {n0 : Nat} {v179 : Mv} {v272 : Mv} {x186 : Int32} {v198 : Mv} {v207 : Mv} {x220 : Int32} {x245 : Int32} {v248 : Mv} {x192 : Int32} {x228 : Int32} {x237 : Int32} (a0 : x186 = v179 h0 6) (a1 : x192 = F_X8_here G w v179 h0) (a2 : v198 = stv v179 h0 7 x186) (a3 : v207 = stv v198 h0 9 (0 : Int32)) (a4 : x220 = F_X8_here G w v207 h0) (a5 : x228 = F_X8_in G w v207 x220 (48 : Int32) (57 : Int32)) (a6 : x237 = F_X8_in G w v207 x220 (97 : Int32) (122 : Int32)) (a7 : x245 = x186 + (1 : Int32)) (a8 : v248 = stv v207 h0 6 x245) (a9 : v272 = stv v248 h0 8 (7 : Int32)) (k0 : ¬ (x192 = (32 : Int32))) (k1 : ¬ (x220 = (-1 : Int32))) (k2 : x228 = (0 : Int32)) (k3 : x237 = (0 : Int32)) (k4 : x220 = (59 : Int32)) : K_X8_step_0 G w h0 (n0 + 1) v179 = v272 := by
  subst a9; subst a8; subst a7; subst a6; subst a5; subst a4; subst a3; subst a2; subst a1; subst a0; first | rw [K_X8_step_0, if_neg k0, if_neg k1, if_pos k2, if_pos k3, if_pos k4] | simp only [K_X8_step_0, if_neg k0, if_neg k1, if_pos k2, if_pos k3, if_pos k4]
set_option maxRecDepth 100000 in
theorem kx_X8_step_11 {G : Gm} {w : Mw} {h0 : Nat} {n0 : Nat} {v179 : Mv} {v207 : Mv} {x186 : Int32} {v198 : Mv} {x220 : Int32} {x192 : Int32} {x228 : Int32} {x237 : Int32} (a0 : x186 = v179 h0 6) (a1 : x192 = F_X8_here G w v179 h0) (a2 : v198 = stv v179 h0 7 x186) (a3 : v207 = stv v198 h0 9 (0 : Int32)) (a4 : x220 = F_X8_here G w v207 h0) (a5 : x228 = F_X8_in G w v207 x220 (48 : Int32) (57 : Int32)) (a6 : x237 = F_X8_in G w v207 x220 (97 : Int32) (122 : Int32)) (k0 : ¬ (x192 = (32 : Int32))) (k1 : ¬ (x220 = (-1 : Int32))) (k2 : x228 = (0 : Int32)) (k3 : ¬ (x237 = (0 : Int32))) : K_X8_step_0 G w h0 (n0 + 1) v179 = K_X8_step_165 G w h0 151 v207 := by
  subst a6; subst a5; subst a4; subst a3; subst a2; subst a1; subst a0; first | rw [K_X8_step_0, if_neg k0, if_neg k1, if_pos k2, if_neg k3] | simp only [K_X8_step_0, if_neg k0, if_neg k1, if_pos k2, if_neg k3]
set_option maxRecDepth 100000 in
theorem kx_X8_step_12 {G : Gm} {w : Mw} {h0 : Nat} {n0 : Nat} {v179 : Mv} {v207 : Mv} {x186 : Int32} {v198 : Mv} {x220 : Int32} {x192 : Int32} {x228 : Int32} (a0 : x186 = v179 h0 6) (a1 : x192 = F_X8_here G w v179 h0) (a2 : v198 = stv v179 h0 7 x186) (a3 : v207 = stv v198 h0 9 (0 : Int32)) (a4 : x220 = F_X8_here G w v207 h0) (a5 : x228 = F_X8_in G w v207 x220 (48 : Int32) (57 : Int32)) (k0 : ¬ (x192 = (32 : Int32))) (k1 : ¬ (x220 = (-1 : Int32))) (k2 : ¬ (x228 = (0 : Int32))) : K_X8_step_0 G w h0 (n0 + 1) v179 = K_X8_step_65 G w h0 151 v207 := by
  subst a5; subst a4; subst a3; subst a2; subst a1; subst a0; first | rw [K_X8_step_0, if_neg k0, if_neg k1, if_neg k2] | simp only [K_X8_step_0, if_neg k0, if_neg k1, if_neg k2]
set_option maxRecDepth 100000 in
theorem kx_X8_step_13 {G : Gm} {w : Mw} {h0 : Nat} {n0 : Nat} {v179 : Mv} {v292 : Mv} {x186 : Int32} {v198 : Mv} {v207 : Mv} {x192 : Int32} {x220 : Int32} (a0 : x186 = v179 h0 6) (a1 : x192 = F_X8_here G w v179 h0) (a2 : v198 = stv v179 h0 7 x186) (a3 : v207 = stv v198 h0 9 (0 : Int32)) (a4 : x220 = F_X8_here G w v207 h0) (a5 : v292 = stv v207 h0 8 (8 : Int32)) (k0 : ¬ (x192 = (32 : Int32))) (k1 : x220 = (-1 : Int32)) : K_X8_step_0 G w h0 (n0 + 1) v179 = v292 := by
  subst a5; subst a4; subst a3; subst a2; subst a1; subst a0; first | rw [K_X8_step_0, if_neg k0, if_pos k1] | simp only [K_X8_step_0, if_neg k0, if_pos k1]
set_option maxRecDepth 100000 in
theorem kx_X8_step_14 {G : Gm} {w : Mw} {h0 : Nat} {n0 : Nat} {v179 : Mv} {v310 : Mv} {x186 : Int32} {x307 : Int32} {x192 : Int32} (a0 : x186 = v179 h0 6) (a1 : x192 = F_X8_here G w v179 h0) (a2 : x307 = x186 + (1 : Int32)) (a3 : v310 = stv v179 h0 6 x307) (k0 : x192 = (32 : Int32)) : K_X8_step_0 G w h0 (n0 + 1) v179 = (K_X8_step_0 G w h0 n0) v310 := by
  subst a3; subst a2; subst a1; subst a0; first | rw [K_X8_step_0, if_pos k0] | simp only [K_X8_step_0, if_pos k0]
set_option maxRecDepth 100000 in
theorem kx_X8_step_15 {G : Gm} {w : Mw} {v : Mv} {h0 : Nat}   : K_X8_step_e G w v h0 = K_X8_step_0 G w h0 151 v := by
  first | rw [K_X8_step_e] | simp only [K_X8_step_e]
abbrev rm_X8_step : Room := { frames := 2, cells := 0, slots := 0, locals := 48 }
set_option maxHeartbeats 4000000 in
set_option maxRecDepth 100000 in
theorem ct_X8_step (l : Launch) (D : va_G) (dA : Nat → ClassId) (G : Gm) (v : Mv) (w : Mw) (hOk : Ok G v w) (h0 : Nat) (S0 : S_X8 G h0) : CtV l yX8_step cX8_step 2 none rm_X8_step D dA G [.ref h0] v w (fun v1 w1 => Ok G v1 w1 ∧ Kp G v v1 ∧ (Ps h0 v v1) ∧ v1 h0 10 = v h0 10 ∧ v1 h0 11 = v h0 11 ∧ (w1 = w ∧ v1 = F_X8_step G w v h0) ∧ Fr G [8] v v1) := by
  refine CtV.of RX8 [(0, .ref h0)] (Nat.le_of_ble_eq_true rfl) rfl (by decide) rfl ?_
  intro p e s m args below meth c E hr
  have J165 : ∀ n165 : Nat, ∀ (v1 : Mv), Ok G v1 w → Kp G v v1 → Fr G [8] v v1 → v1 h0 10 = v h0 10 → v1 h0 11 = v h0 11 → ∀ x8 : Int32, x8 = v1 h0 6 → Bd x8 0 150 → ((v h0 6).toInt ≤ x8.toInt) → ((v h0 6).toInt < x8.toInt ∨ (97 ≤ hF G v1 h0 ∧ hF G v1 h0 ≤ 122)) → Mu x8 150 n165 → K_X8_step_165 G w h0 n165 v1 = F_X8_step G w v h0 → J p l e rm_X8_step s m args below meth c 0 0 (MQ below (QcV D dA G (fun v1 w1 => Ok G v1 w1 ∧ Kp G v v1 ∧ (Ps h0 v v1) ∧ v1 h0 10 = v h0 10 ∧ v1 h0 11 = v h0 11 ∧ (w1 = w ∧ v1 = F_X8_step G w v h0) ∧ Fr G [8] v v1)) args s 0 0 (dm G)) D dA G (dm G) s.heap 2 v1 w [(0, .ref h0)] 165 [] := by
    intro n165
    induction n165 with
    | zero => intro v1 o2 k3 f4 u5 u6 x8 e9 b7 h10 h11 hm hK; exact hm.zero b7 (by decide)
    | succ n165 ih165 =>
      intro v1 o2 k3 f4 u5 u6 x8 e9 b7 h10 h11 hmu165 hK
      refine J_aload_n E dX8_step_165 0 rfl ?_
      refine J_callVI E cal_X8_here wd1035 rfl (S_X8.h S0) [] [] (ct_X8_here l D dA G v1 w (o2) h0 S0) rfl rfl (Nat.le_of_ble_eq_true rfl) ⟨rfl, rfl⟩ ⟨Nat.le_of_ble_eq_true rfl, Nat.le_of_ble_eq_true rfl⟩ dX8_step_166 (fun x15 v12 w13 p14 => ?_)
      rw [p14.1, p14.2.1]
      have b16 : Bd x15 (-128) 127 := p14.2.2.1
      have e17 : x15 = F_X8_here G w v1 h0 := (p14.2.2.2.2.2)
      refine J_bipush E 97 dX8_step_169 (by decide) ?_
      refine J_bipush E 122 dX8_step_171 (by decide) ?_
      refine J_callSI E cal_X8_in wd996 [.int x15, .int 97, .int 122] [] (ct_X8_in l D dA G v1 w (o2) x15 97 122) rfl rfl (Nat.le_of_ble_eq_true rfl) ⟨rfl, rfl⟩ ⟨Nat.le_of_ble_eq_true rfl, Nat.le_of_ble_eq_true rfl⟩ dX8_step_173 (fun x21 v18 w19 p20 => ?_)
      rw [p20.1, p20.2.1]
      have b22 : Bd x21 0 1 := p20.2.2.1
      have e23 : x21 = F_X8_in G w v1 x15 (97 : Int32) (122 : Int32) := (p20.2.2.2.2.2)
      refine J_if_eq E 192 dX8_step_176 (by decide) (fun c24 => ?_) (fun c24 => ?_)
      · have b25 : Bd x21 0 0 := Bd.eq_l c24 b22 (Bd.lit 0 0 (by decide)) 0 0 (by decide)
        have g26 : ¬ (97 ≤ x15 ∧ x15 ≤ 122) := (p20.2.2.2.2.1).resolve_left (fun h9 => h9 c24)
        have t27 : (v h0 6).toInt < x8.toInt := h11.resolve_right (fun q9 => g26 (by rw [(p14.2.2.2.1)]; exact q9))
        refine J_aload_n E dX8_step_192 0 rfl ?_
        refine J_aload_n E dX8_step_193 0 rfl ?_
        refine J_callVI E cal_X8_wordOf wd1039 rfl (S_X8.h S0) [] [.ref h0] (ct_X8_wordOf l D dA G v1 w (o2) h0 S0) rfl rfl (Nat.le_of_ble_eq_true rfl) ⟨rfl, rfl⟩ ⟨Nat.le_of_ble_eq_true rfl, Nat.le_of_ble_eq_true rfl⟩ dX8_step_194 (fun x31 v28 w29 p30 => ?_)
        rw [p30.1, p30.2.1]
        have b32 : Bd x31 0 9 := p30.2.2.1
        have e33 : x31 = F_X8_wordOf G w v1 h0 := (p30.2.2.2)
        refine J_pI E in_X8 rfl (S_X8.h S0) 8 (by decide) wd943 tyX8 tyX8_ok nmX8 rfl rfl .int (by decide +kernel) rfl rfl dX8_step_197 (fun v34 e35 => ?_)
        have o36 : Ok G v34 w := Ok.pf o2 e35 (S_X8.h S0) rfl (b32.w I0 I1 (by decide))
        have k37 : Kp G v v34 := Kp.pf k3 e35 (S_X8.h S0) rfl
        have e38 : x8 = v34 h0 6 := by rw [e35, stv_k (by decide)]; exact e9
        have f39 : Fr G [8] v v34 := Fr.st f4 e35 (S_X8.h S0) rfl
        have u40 : v34 h0 10 = v h0 10 := by rw [e35, stv_k (by decide)]; exact u5
        have u41 : v34 h0 11 = v h0 11 := by rw [e35, stv_k (by decide)]; exact u6
        have e42 : x31 = v34 h0 8 := by rw [e35, stv_s]
        refine J_goto E 230 dX8_step_200 (by decide) ?_
        exact J_vret E hr dX8_step_230 ⟨o36, k37, ⟨⟨by rw [← e38]; exact Int.le_of_lt t27, Or.inr (by rw [← e38]; exact t27)⟩, u40, u41, ⟨rfl, ((kx_X8_step_1 (e17) (e23) (e33) (e35) (c24)).symm.trans hK)⟩, f39⟩⟩
      · have b43 : Bd x21 1 1 := (Bd.ne_lo c24 b22 (Bd.lit 0 0 (by decide))).w _ _ (by decide)
        have g44 := (p20.2.2.2.1).resolve_left c24
        have b45 : Bd x15 97 127 := Bd.le_r g44.1 (Bd.lit 97 97 (by decide)) b16 97 (by decide)
        have b46 : Bd x8 0 149 := Bd.e ((p14.2.2.2.2.1).resolve_left (fun q9 => by have q8 := b45; unfold Bd at q9 q8; omega)) e9
        have b47 : Bd x15 97 122 := Bd.le_l g44.2 b45 (Bd.lit 122 122 (by decide)) 122 (by decide)
        refine J_aload_n E dX8_step_179 0 rfl ?_
        refine J_dup E dX8_step_180 rfl ?_
        refine J_getI E in_X8 rfl (S_X8.h S0) 6 (by decide) wd941 rfl dX8_step_181 (fun x48 e49 => ?_)
        rw [show x48 = x8 from e49.trans (e9).symm]
        refine J_iconst E 1 dX8_step_184 (by decide) ?_
        refine J_iadd E dX8_step_185 (fun x50 e51 => ?_)
        have b52 : Bd x50 1 150 := (Bd.add e51 b46 (Bd.lit 1 1 (by decide)) (by decide)).w _ _ (by decide)
        refine J_pI E in_X8 rfl (S_X8.h S0) 6 (by decide) wd941 tyX8 tyX8_ok nmX8 rfl rfl .int (by decide +kernel) rfl rfl dX8_step_186 (fun v53 e54 => ?_)
        have o55 : Ok G v53 w := Ok.pf o2 e54 (S_X8.h S0) rfl (b52.w 0 150 (by decide))
        have k56 : Kp G v v53 := Kp.pf k3 e54 (S_X8.h S0) rfl
        have f57 : Fr G [8] v v53 := Fr.st f4 e54 (S_X8.h S0) rfl
        have u58 : v53 h0 10 = v h0 10 := by rw [e54, stv_k (by decide)]; exact u5
        have u59 : v53 h0 11 = v h0 11 := by rw [e54, stv_k (by decide)]; exact u6
        have e60 : x50 = v53 h0 6 := by rw [e54, stv_s]
        have t61 : (v h0 6).toInt < x50.toInt := at_inc h10 e51 b46
        refine J_goto E 165 dX8_step_189 (by decide) ?_
        exact J.sub [0] rfl (ih165 v53 (o55) (k56) f57 u58 u59 x50 (e60) (b52.w 0 150 (by decide)) (Int.le_of_lt t61) (Or.inl t61) (Mu.step hmu165 e51 b46 (Bd.lit 1 1 (by decide)) (by decide)) ((kx_X8_step_2 (e9) (e17) (e23) (e51) (e54) (c24)).symm.trans hK))
  have J148 : ∀ (v62 : Mv), Ok G v62 w → Kp G v v62 → Fr G [8] v v62 → v62 h0 10 = v h0 10 → v62 h0 11 = v h0 11 → ∀ x68 : Int32, Bd x68 6 9 → ∀ x71 : Int32, x71 = v62 h0 6 → Bd x71 0 150 → ((v h0 6).toInt < x71.toInt) → K_X8_step_148 G w h0 v62 x68 = F_X8_step G w v h0 → J p l e rm_X8_step s m args below meth c 0 0 (MQ below (QcV D dA G (fun v1 w1 => Ok G v1 w1 ∧ Kp G v v1 ∧ (Ps h0 v v1) ∧ v1 h0 10 = v h0 10 ∧ v1 h0 11 = v h0 11 ∧ (w1 = w ∧ v1 = F_X8_step G w v h0) ∧ Fr G [8] v v1)) args s 0 0 (dm G)) D dA G (dm G) s.heap 2 v62 w [] 148 [.int x68, .ref h0] := by
    intro v62 o63 k64 f65 u66 u67 x68 b69 x71 e72 b70 h73 hK
    refine J_pI E in_X8 rfl (S_X8.h S0) 8 (by decide) wd943 tyX8 tyX8_ok nmX8 rfl rfl .int (by decide +kernel) rfl rfl dX8_step_148 (fun v74 e75 => ?_)
    have o76 : Ok G v74 w := Ok.pf o63 e75 (S_X8.h S0) rfl (b69.w I0 I1 (by decide))
    have k77 : Kp G v v74 := Kp.pf k64 e75 (S_X8.h S0) rfl
    have e78 : x71 = v74 h0 6 := by rw [e75, stv_k (by decide)]; exact e72
    have f79 : Fr G [8] v v74 := Fr.st f65 e75 (S_X8.h S0) rfl
    have u80 : v74 h0 10 = v h0 10 := by rw [e75, stv_k (by decide)]; exact u66
    have u81 : v74 h0 11 = v h0 11 := by rw [e75, stv_k (by decide)]; exact u67
    have e82 : x68 = v74 h0 8 := by rw [e75, stv_s]
    refine J_goto E 230 dX8_step_151 (by decide) ?_
    exact J_vret E hr dX8_step_230 ⟨o76, k77, ⟨⟨by rw [← e78]; exact Int.le_of_lt h73, Or.inr (by rw [← e78]; exact h73)⟩, u80, u81, ⟨rfl, ((kx_X8_step_3 (e75)).symm.trans hK)⟩, f79⟩⟩
  have J65 : ∀ n65 : Nat, ∀ (v83 : Mv), Ok G v83 w → Kp G v v83 → Fr G [8] v v83 → v83 h0 10 = v h0 10 → v83 h0 11 = v h0 11 → ∀ x90 : Int32, x90 = v83 h0 6 → Bd x90 0 150 → ((v h0 6).toInt ≤ x90.toInt) → ((v h0 6).toInt < x90.toInt ∨ (48 ≤ hF G v83 h0 ∧ hF G v83 h0 ≤ 57)) → Mu x90 150 n65 → K_X8_step_65 G w h0 n65 v83 = F_X8_step G w v h0 → J p l e rm_X8_step s m args below meth c 0 0 (MQ below (QcV D dA G (fun v1 w1 => Ok G v1 w1 ∧ Kp G v v1 ∧ (Ps h0 v v1) ∧ v1 h0 10 = v h0 10 ∧ v1 h0 11 = v h0 11 ∧ (w1 = w ∧ v1 = F_X8_step G w v h0) ∧ Fr G [8] v v1)) args s 0 0 (dm G)) D dA G (dm G) s.heap 2 v83 w [(0, .ref h0)] 65 [] := by
    intro n65
    induction n65 with
    | zero => intro v83 o84 k85 f86 u87 u88 x90 e91 b89 h92 h93 hm hK; exact hm.zero b89 (by decide)
    | succ n65 ih65 =>
      intro v83 o84 k85 f86 u87 u88 x90 e91 b89 h92 h93 hmu65 hK
      have J111 : ∀ x94 : Int32, Bd x94 0 999 → Bd x90 0 149 → ((v h0 6).toInt ≤ x90.toInt) → K_X8_step_111 G w h0 (K_X8_step_65 G w h0 n65) v83 x94 = F_X8_step G w v h0 → J p l e rm_X8_step s m args below meth c 0 0 (MQ below (QcV D dA G (fun v1 w1 => Ok G v1 w1 ∧ Kp G v v1 ∧ (Ps h0 v v1) ∧ v1 h0 10 = v h0 10 ∧ v1 h0 11 = v h0 11 ∧ (w1 = w ∧ v1 = F_X8_step G w v h0) ∧ Fr G [8] v v1)) args s 0 0 (dm G)) D dA G (dm G) s.heap 2 v83 w [(0, .ref h0)] 111 [.int x94, .ref h0] := by
        intro x94 b95 b96 h97 hK
        refine J_pI E in_X8 rfl (S_X8.h S0) 9 (by decide) wd944 tyX8 tyX8_ok nmX8 rfl rfl .int (by decide +kernel) rfl rfl dX8_step_111 (fun v98 e99 => ?_)
        have o100 : Ok G v98 w := Ok.pf o84 e99 (S_X8.h S0) rfl b95
        have k101 : Kp G v v98 := Kp.pf k85 e99 (S_X8.h S0) rfl
        have e102 : x90 = v98 h0 6 := by rw [e99, stv_k (by decide)]; exact e91
        have f103 : Fr G [8] v v98 := Fr.st f86 e99 (S_X8.h S0) rfl
        have u104 : v98 h0 10 = v h0 10 := by rw [e99, stv_k (by decide)]; exact u87
        have u105 : v98 h0 11 = v h0 11 := by rw [e99, stv_k (by decide)]; exact u88
        have e106 : x94 = v98 h0 9 := by rw [e99, stv_s]
        refine J_aload_n E dX8_step_114 0 rfl ?_
        refine J_dup E dX8_step_115 rfl ?_
        refine J_getI E in_X8 rfl (S_X8.h S0) 6 (by decide) wd941 rfl dX8_step_116 (fun x107 e108 => ?_)
        rw [show x107 = x90 from e108.trans (e102).symm]
        refine J_iconst E 1 dX8_step_119 (by decide) ?_
        refine J_iadd E dX8_step_120 (fun x109 e110 => ?_)
        have b111 : Bd x109 1 150 := (Bd.add e110 b96 (Bd.lit 1 1 (by decide)) (by decide)).w _ _ (by decide)
        refine J_pI E in_X8 rfl (S_X8.h S0) 6 (by decide) wd941 tyX8 tyX8_ok nmX8 rfl rfl .int (by decide +kernel) rfl rfl dX8_step_121 (fun v112 e113 => ?_)
        have o114 : Ok G v112 w := Ok.pf o100 e113 (S_X8.h S0) rfl (b111.w 0 150 (by decide))
        have k115 : Kp G v v112 := Kp.pf k101 e113 (S_X8.h S0) rfl
        have e116 : x94 = v112 h0 9 := by rw [e113, stv_k (by decide)]; exact e106
        have f117 : Fr G [8] v v112 := Fr.st f103 e113 (S_X8.h S0) rfl
        have u118 : v112 h0 10 = v h0 10 := by rw [e113, stv_k (by decide)]; exact u104
        have u119 : v112 h0 11 = v h0 11 := by rw [e113, stv_k (by decide)]; exact u105
        have e120 : x109 = v112 h0 6 := by rw [e113, stv_s]
        have t121 : (v h0 6).toInt < x109.toInt := at_inc h97 e110 b96
        refine J_goto E 65 dX8_step_124 (by decide) ?_
        exact J.sub [0] rfl (ih65 v112 (o114) (k115) f117 u118 u119 x109 (e120) (b111.w 0 150 (by decide)) (Int.le_of_lt t121) (Or.inl t121) (Mu.step hmu65 e110 b96 (Bd.lit 1 1 (by decide)) (by decide)) ((kx_X8_step_4 (e91) (e99) (e110) (e113)).symm.trans hK))
      refine J_aload_n E dX8_step_65 0 rfl ?_
      refine J_callVI E cal_X8_here wd1035 rfl (S_X8.h S0) [] [] (ct_X8_here l D dA G v83 w (o84) h0 S0) rfl rfl (Nat.le_of_ble_eq_true rfl) ⟨rfl, rfl⟩ ⟨Nat.le_of_ble_eq_true rfl, Nat.le_of_ble_eq_true rfl⟩ dX8_step_66 (fun x125 v122 w123 p124 => ?_)
      rw [p124.1, p124.2.1]
      have b126 : Bd x125 (-128) 127 := p124.2.2.1
      have e127 : x125 = F_X8_here G w v83 h0 := (p124.2.2.2.2.2)
      refine J_bipush E 48 dX8_step_69 (by decide) ?_
      refine J_bipush E 57 dX8_step_71 (by decide) ?_
      refine J_callSI E cal_X8_in wd996 [.int x125, .int 48, .int 57] [] (ct_X8_in l D dA G v83 w (o84) x125 48 57) rfl rfl (Nat.le_of_ble_eq_true rfl) ⟨rfl, rfl⟩ ⟨Nat.le_of_ble_eq_true rfl, Nat.le_of_ble_eq_true rfl⟩ dX8_step_73 (fun x131 v128 w129 p130 => ?_)
      rw [p130.1, p130.2.1]
      have b132 : Bd x131 0 1 := p130.2.2.1
      have e133 : x131 = F_X8_in G w v83 x125 (48 : Int32) (57 : Int32) := (p130.2.2.2.2.2)
      refine J_if_eq E 127 dX8_step_76 (by decide) (fun c134 => ?_) (fun c134 => ?_)
      · have b135 : Bd x131 0 0 := Bd.eq_l c134 b132 (Bd.lit 0 0 (by decide)) 0 0 (by decide)
        have g136 : ¬ (48 ≤ x125 ∧ x125 ≤ 57) := (p130.2.2.2.2.1).resolve_left (fun h9 => h9 c134)
        have t137 : (v h0 6).toInt < x90.toInt := h93.resolve_right (fun q9 => g136 (by rw [(p124.2.2.2.1)]; exact q9))
        refine J_aload_n E dX8_step_127 0 rfl ?_
        refine J_aload_n E dX8_step_128 0 rfl ?_
        refine J_getI E in_X8 rfl (S_X8.h S0) 6 (by decide) wd941 rfl dX8_step_129 (fun x138 e139 => ?_)
        rw [show x138 = x90 from e139.trans (e91).symm]
        refine J_aload_n E dX8_step_132 0 rfl ?_
        refine J_getI E in_X8 rfl (S_X8.h S0) 7 (by decide) wd942 rfl dX8_step_133 (fun x140 e141 => ?_)
        have b142 : Bd x140 0 150 := Ok.fd o84 e141 (S_X8.h S0) rfl
        refine J_isub E dX8_step_136 (fun x143 e144 => ?_)
        have b145 : Bd x143 (-150) 150 := (Bd.sub e144 b89 b142 (by decide)).w _ _ (by decide)
        refine J_iconst E 2 dX8_step_137 (by decide) ?_
        refine J_icmp_le E 146 dX8_step_138 (by decide) (fun c146 => ?_) (fun c146 => ?_)
        · have b147 : Bd x143 (-150) 2 := Bd.le_l c146 b145 (Bd.lit 2 2 (by decide)) 2 (by decide)
          refine J_bipush E 6 dX8_step_146 (by decide) ?_
          exact J.sub [] rfl (J148 v83 (o84) (k85) f86 u87 u88 6 ((Bd.lit 6 6 (by decide)).w 6 9 (by decide)) x90 (e91) b89 t137 ((kx_X8_step_5 (e91) (e127) (e133) (e141) (e144) (c134) (c146)).symm.trans hK))
        · have b148 : Bd x143 3 150 := Bd.lt_r (nle c146) (Bd.lit 2 2 (by decide)) b145 3 (by decide)
          refine J_bipush E 9 dX8_step_141 (by decide) ?_
          refine J_goto E 148 dX8_step_143 (by decide) ?_
          exact J.sub [] rfl (J148 v83 (o84) (k85) f86 u87 u88 9 ((Bd.lit 9 9 (by decide)).w 6 9 (by decide)) x90 (e91) b89 t137 ((kx_X8_step_6 (e91) (e127) (e133) (e141) (e144) (c134) (c146)).symm.trans hK))
      · have b149 : Bd x131 1 1 := (Bd.ne_lo c134 b132 (Bd.lit 0 0 (by decide))).w _ _ (by decide)
        have g150 := (p130.2.2.2.1).resolve_left c134
        have b151 : Bd x125 48 127 := Bd.le_r g150.1 (Bd.lit 48 48 (by decide)) b126 48 (by decide)
        have b152 : Bd x90 0 149 := Bd.e ((p124.2.2.2.2.1).resolve_left (fun q9 => by have q8 := b151; unfold Bd at q9 q8; omega)) e91
        have b153 : Bd x125 48 57 := Bd.le_l g150.2 b151 (Bd.lit 57 57 (by decide)) 57 (by decide)
        refine J_aload_n E dX8_step_79 0 rfl ?_
        refine J_aload_n E dX8_step_80 0 rfl ?_
        refine J_getI E in_X8 rfl (S_X8.h S0) 9 (by decide) wd944 rfl dX8_step_81 (fun x154 e155 => ?_)
        have b156 : Bd x154 0 999 := Ok.fd o84 e155 (S_X8.h S0) rfl
        refine J_bipush E 99 dX8_step_84 (by decide) ?_
        refine J_icmp_le E 96 dX8_step_86 (by decide) (fun c157 => ?_) (fun c157 => ?_)
        · have b158 : Bd x154 0 99 := Bd.le_l c157 b156 (Bd.lit 99 99 (by decide)) 99 (by decide)
          refine J_bipush E 10 dX8_step_96 (by decide) ?_
          refine J_aload_n E dX8_step_98 0 rfl ?_
          refine J_getI E in_X8 rfl (S_X8.h S0) 9 (by decide) wd944 rfl dX8_step_99 (fun x159 e160 => ?_)
          rw [show x159 = x154 from e160.trans (e155).symm]
          refine J_imul E dX8_step_102 (fun x161 e162 => ?_)
          have b163 : Bd x161 0 990 := Bd.mul e162 (Bd.lit 10 10 (by decide)) b158 (by decide)
          refine J_aload_n E dX8_step_103 0 rfl ?_
          refine J_callVI E cal_X8_here wd1035 rfl (S_X8.h S0) [] [.int x161, .ref h0] (ct_X8_here l D dA G v83 w (o84) h0 S0) rfl rfl (Nat.le_of_ble_eq_true rfl) ⟨rfl, rfl⟩ ⟨Nat.le_of_ble_eq_true rfl, Nat.le_of_ble_eq_true rfl⟩ dX8_step_104 (fun x167 v164 w165 p166 => ?_)
          rw [p166.1, p166.2.1]
          have b168 : Bd x167 (-128) 127 := p166.2.2.1
          have e169 : x167 = F_X8_here G w v83 h0 := (p166.2.2.2.2.2)
          rw [show x167 = x125 from ((p166.2.2.2.1)).trans ((p124.2.2.2.1)).symm]
          refine J_iadd E dX8_step_107 (fun x170 e171 => ?_)
          have b172 : Bd x170 48 1047 := (Bd.add e171 b163 b153 (by decide)).w _ _ (by decide)
          refine J_bipush E 48 dX8_step_108 (by decide) ?_
          refine J_isub E dX8_step_110 (fun x173 e174 => ?_)
          have b175 : Bd x173 0 999 := (Bd.sub e174 b172 (Bd.lit 48 48 (by decide)) (by decide)).w _ _ (by decide)
          exact J.sub [0] rfl (J111 x173 b175 b152 h92 ((kx_X8_step_7 (e127) (e133) (e155) (e162) (e171) (e174) (c134) (c157)).symm.trans hK))
        · have b176 : Bd x154 100 999 := Bd.lt_r (nle c157) (Bd.lit 99 99 (by decide)) b156 100 (by decide)
          refine J_aload_n E dX8_step_89 0 rfl ?_
          refine J_getI E in_X8 rfl (S_X8.h S0) 9 (by decide) wd944 rfl dX8_step_90 (fun x177 e178 => ?_)
          rw [show x177 = x154 from e178.trans (e155).symm]
          refine J_goto E 111 dX8_step_93 (by decide) ?_
          exact J.sub [0] rfl (J111 x154 (b176.w 0 999 (by decide)) b152 h92 ((kx_X8_step_8 (e127) (e133) (e155) (c134) (c157)).symm.trans hK))
  have J0 : ∀ n0 : Nat, ∀ (v179 : Mv), Ok G v179 w → Kp G v v179 → Fr G [8] v v179 → v179 h0 10 = v h0 10 → v179 h0 11 = v h0 11 → ∀ x186 : Int32, x186 = v179 h0 6 → Bd x186 0 150 → ((v h0 6).toInt ≤ x186.toInt) → Mu x186 150 n0 → K_X8_step_0 G w h0 n0 v179 = F_X8_step G w v h0 → J p l e rm_X8_step s m args below meth c 0 0 (MQ below (QcV D dA G (fun v1 w1 => Ok G v1 w1 ∧ Kp G v v1 ∧ (Ps h0 v v1) ∧ v1 h0 10 = v h0 10 ∧ v1 h0 11 = v h0 11 ∧ (w1 = w ∧ v1 = F_X8_step G w v h0) ∧ Fr G [8] v v1)) args s 0 0 (dm G)) D dA G (dm G) s.heap 2 v179 w [(0, .ref h0)] 0 [] := by
    intro n0
    induction n0 with
    | zero => intro v179 o180 k181 f182 u183 u184 x186 e187 b185 h188 hm hK; exact hm.zero b185 (by decide)
    | succ n0 ih0 =>
      intro v179 o180 k181 f182 u183 u184 x186 e187 b185 h188 hmu0 hK
      refine J_aload_n E dX8_step_0 0 rfl ?_
      refine J_callVI E cal_X8_here wd1035 rfl (S_X8.h S0) [] [] (ct_X8_here l D dA G v179 w (o180) h0 S0) rfl rfl (Nat.le_of_ble_eq_true rfl) ⟨rfl, rfl⟩ ⟨Nat.le_of_ble_eq_true rfl, Nat.le_of_ble_eq_true rfl⟩ dX8_step_1 (fun x192 v189 w190 p191 => ?_)
      rw [p191.1, p191.2.1]
      have b193 : Bd x192 (-128) 127 := p191.2.2.1
      have e194 : x192 = F_X8_here G w v179 h0 := (p191.2.2.2.2.2)
      refine J_bipush E 32 dX8_step_4 (by decide) ?_
      refine J_icmp_ne E 22 dX8_step_6 (by decide) (fun c195 => ?_) (fun c195 => ?_)
      · refine J_aload_n E dX8_step_22 0 rfl ?_
        refine J_aload_n E dX8_step_23 0 rfl ?_
        refine J_getI E in_X8 rfl (S_X8.h S0) 6 (by decide) wd941 rfl dX8_step_24 (fun x196 e197 => ?_)
        rw [show x196 = x186 from e197.trans (e187).symm]
        refine J_pI E in_X8 rfl (S_X8.h S0) 7 (by decide) wd942 tyX8 tyX8_ok nmX8 rfl rfl .int (by decide +kernel) rfl rfl dX8_step_27 (fun v198 e199 => ?_)
        have o200 : Ok G v198 w := Ok.pf o180 e199 (S_X8.h S0) rfl b185
        have k201 : Kp G v v198 := Kp.pf k181 e199 (S_X8.h S0) rfl
        have e202 : x186 = v198 h0 6 := by rw [e199, stv_k (by decide)]; exact e187
        have f203 : Fr G [8] v v198 := Fr.st f182 e199 (S_X8.h S0) rfl
        have u204 : v198 h0 10 = v h0 10 := by rw [e199, stv_k (by decide)]; exact u183
        have u205 : v198 h0 11 = v h0 11 := by rw [e199, stv_k (by decide)]; exact u184
        have e206 : x186 = v198 h0 7 := by rw [e199, stv_s]
        refine J_aload_n E dX8_step_30 0 rfl ?_
        refine J_iconst E 0 dX8_step_31 (by decide) ?_
        refine J_pI E in_X8 rfl (S_X8.h S0) 9 (by decide) wd944 tyX8 tyX8_ok nmX8 rfl rfl .int (by decide +kernel) rfl rfl dX8_step_32 (fun v207 e208 => ?_)
        have o209 : Ok G v207 w := Ok.pf o200 e208 (S_X8.h S0) rfl ((Bd.lit 0 0 (by decide)).w 0 999 (by decide))
        have k210 : Kp G v v207 := Kp.pf k201 e208 (S_X8.h S0) rfl
        have e211 : x186 = v207 h0 6 := by rw [e208, stv_k (by decide)]; exact e202
        have e212 : x186 = v207 h0 7 := by rw [e208, stv_k (by decide)]; exact e206
        have f213 : Fr G [8] v v207 := Fr.st f203 e208 (S_X8.h S0) rfl
        have u214 : v207 h0 10 = v h0 10 := by rw [e208, stv_k (by decide)]; exact u204
        have u215 : v207 h0 11 = v h0 11 := by rw [e208, stv_k (by decide)]; exact u205
        have e216 : (0 : Int32) = v207 h0 9 := by rw [e208, stv_s]
        refine J_aload_n E dX8_step_35 0 rfl ?_
        refine J_callVI E cal_X8_here wd1035 rfl (S_X8.h S0) [] [] (ct_X8_here l D dA G v207 w (o209) h0 S0) rfl rfl (Nat.le_of_ble_eq_true rfl) ⟨rfl, rfl⟩ ⟨Nat.le_of_ble_eq_true rfl, Nat.le_of_ble_eq_true rfl⟩ dX8_step_36 (fun x220 v217 w218 p219 => ?_)
        rw [p219.1, p219.2.1]
        have b221 : Bd x220 (-128) 127 := p219.2.2.1
        have e222 : x220 = F_X8_here G w v207 h0 := (p219.2.2.2.2.2)
        refine J_istore_n E [(1, .int x220), (0, .ref h0)] dX8_step_39 rfl (by decide) rfl ?_
        refine J_iload_n E dX8_step_40 0 rfl ?_
        refine J_iconst E (-1) dX8_step_41 (by decide) ?_
        refine J_icmp_ne E 54 dX8_step_42 (by decide) (fun c223 => ?_) (fun c223 => ?_)
        · have b224 : Bd x186 0 149 := Bd.e ((p219.2.2.2.2.1).resolve_left (fun q9 => c223 (Bd.m1 q9))) e211
          refine J_iload_n E dX8_step_54 0 rfl ?_
          refine J_bipush E 48 dX8_step_55 (by decide) ?_
          refine J_bipush E 57 dX8_step_57 (by decide) ?_
          refine J_callSI E cal_X8_in wd996 [.int x220, .int 48, .int 57] [] (ct_X8_in l D dA G v207 w (o209) x220 48 57) rfl rfl (Nat.le_of_ble_eq_true rfl) ⟨rfl, rfl⟩ ⟨Nat.le_of_ble_eq_true rfl, Nat.le_of_ble_eq_true rfl⟩ dX8_step_59 (fun x228 v225 w226 p227 => ?_)
          rw [p227.1, p227.2.1]
          have b229 : Bd x228 0 1 := p227.2.2.1
          have e230 : x228 = F_X8_in G w v207 x220 (48 : Int32) (57 : Int32) := (p227.2.2.2.2.2)
          refine J_if_eq E 154 dX8_step_62 (by decide) (fun c231 => ?_) (fun c231 => ?_)
          · have b232 : Bd x228 0 0 := Bd.eq_l c231 b229 (Bd.lit 0 0 (by decide)) 0 0 (by decide)
            have g233 : ¬ (48 ≤ x220 ∧ x220 ≤ 57) := (p227.2.2.2.2.1).resolve_left (fun h9 => h9 c231)
            refine J_iload_n E dX8_step_154 0 rfl ?_
            refine J_bipush E 97 dX8_step_155 (by decide) ?_
            refine J_bipush E 122 dX8_step_157 (by decide) ?_
            refine J_callSI E cal_X8_in wd996 [.int x220, .int 97, .int 122] [] (ct_X8_in l D dA G v207 w (o209) x220 97 122) rfl rfl (Nat.le_of_ble_eq_true rfl) ⟨rfl, rfl⟩ ⟨Nat.le_of_ble_eq_true rfl, Nat.le_of_ble_eq_true rfl⟩ dX8_step_159 (fun x237 v234 w235 p236 => ?_)
            rw [p236.1, p236.2.1]
            have b238 : Bd x237 0 1 := p236.2.2.1
            have e239 : x237 = F_X8_in G w v207 x220 (97 : Int32) (122 : Int32) := (p236.2.2.2.2.2)
            refine J_if_eq E 203 dX8_step_162 (by decide) (fun c240 => ?_) (fun c240 => ?_)
            · have b241 : Bd x237 0 0 := Bd.eq_l c240 b238 (Bd.lit 0 0 (by decide)) 0 0 (by decide)
              have g242 : ¬ (97 ≤ x220 ∧ x220 ≤ 122) := (p236.2.2.2.2.1).resolve_left (fun h9 => h9 c240)
              refine J_aload_n E dX8_step_203 1 rfl ?_
              refine J_dup E dX8_step_204 rfl ?_
              refine J_getI E in_X8 rfl (S_X8.h S0) 6 (by decide) wd941 rfl dX8_step_205 (fun x243 e244 => ?_)
              rw [show x243 = x186 from e244.trans (e211).symm]
              refine J_iconst E 1 dX8_step_208 (by decide) ?_
              refine J_iadd E dX8_step_209 (fun x245 e246 => ?_)
              have b247 : Bd x245 1 150 := (Bd.add e246 b224 (Bd.lit 1 1 (by decide)) (by decide)).w _ _ (by decide)
              refine J_pI E in_X8 rfl (S_X8.h S0) 6 (by decide) wd941 tyX8 tyX8_ok nmX8 rfl rfl .int (by decide +kernel) rfl rfl dX8_step_210 (fun v248 e249 => ?_)
              have o250 : Ok G v248 w := Ok.pf o209 e249 (S_X8.h S0) rfl (b247.w 0 150 (by decide))
              have k251 : Kp G v v248 := Kp.pf k210 e249 (S_X8.h S0) rfl
              have e252 : x186 = v248 h0 7 := by rw [e249, stv_k (by decide)]; exact e212
              have e253 : 0 = v248 h0 9 := by rw [e249, stv_k (by decide)]; exact e216
              have f254 : Fr G [8] v v248 := Fr.st f213 e249 (S_X8.h S0) rfl
              have u255 : v248 h0 10 = v h0 10 := by rw [e249, stv_k (by decide)]; exact u214
              have u256 : v248 h0 11 = v h0 11 := by rw [e249, stv_k (by decide)]; exact u215
              have e257 : x245 = v248 h0 6 := by rw [e249, stv_s]
              have t258 : (v h0 6).toInt < x245.toInt := at_inc h188 e246 b224
              refine J_aload_n E dX8_step_213 1 rfl ?_
              refine J_iload_n E dX8_step_214 0 rfl ?_
              refine J_bipush E 59 dX8_step_215 (by decide) ?_
              refine J_icmp_ne E 225 dX8_step_217 (by decide) (fun c259 => ?_) (fun c259 => ?_)
              · refine J_bipush E 9 dX8_step_225 (by decide) ?_
                refine J_pI E in_X8 rfl (S_X8.h S0) 8 (by decide) wd943 tyX8 tyX8_ok nmX8 rfl rfl .int (by decide +kernel) rfl rfl dX8_step_227 (fun v260 e261 => ?_)
                have o262 : Ok G v260 w := Ok.pf o250 e261 (S_X8.h S0) rfl ((Bd.lit 9 9 (by decide)).w I0 I1 (by decide))
                have k263 : Kp G v v260 := Kp.pf k251 e261 (S_X8.h S0) rfl
                have e264 : x186 = v260 h0 7 := by rw [e261, stv_k (by decide)]; exact e252
                have e265 : 0 = v260 h0 9 := by rw [e261, stv_k (by decide)]; exact e253
                have e266 : x245 = v260 h0 6 := by rw [e261, stv_k (by decide)]; exact e257
                have f267 : Fr G [8] v v260 := Fr.st f254 e261 (S_X8.h S0) rfl
                have u268 : v260 h0 10 = v h0 10 := by rw [e261, stv_k (by decide)]; exact u255
                have u269 : v260 h0 11 = v h0 11 := by rw [e261, stv_k (by decide)]; exact u256
                have e270 : (9 : Int32) = v260 h0 8 := by rw [e261, stv_s]
                exact J_vret E hr dX8_step_230 ⟨o262, k263, ⟨⟨by rw [← e266]; exact Int.le_of_lt t258, Or.inr (by rw [← e266]; exact t258)⟩, u268, u269, ⟨rfl, ((kx_X8_step_9 (e187) (e194) (e199) (e208) (e222) (e230) (e239) (e246) (e249) (e261) (c195) (c223) (c231) (c240) (c259)).symm.trans hK)⟩, f267⟩⟩
              · have b271 : Bd x220 59 59 := Bd.eq_l c259 b221 (Bd.lit 59 59 (by decide)) 59 59 (by decide)
                refine J_bipush E 7 dX8_step_220 (by decide) ?_
                refine J_goto E 227 dX8_step_222 (by decide) ?_
                refine J_pI E in_X8 rfl (S_X8.h S0) 8 (by decide) wd943 tyX8 tyX8_ok nmX8 rfl rfl .int (by decide +kernel) rfl rfl dX8_step_227 (fun v272 e273 => ?_)
                have o274 : Ok G v272 w := Ok.pf o250 e273 (S_X8.h S0) rfl ((Bd.lit 7 7 (by decide)).w I0 I1 (by decide))
                have k275 : Kp G v v272 := Kp.pf k251 e273 (S_X8.h S0) rfl
                have e276 : x186 = v272 h0 7 := by rw [e273, stv_k (by decide)]; exact e252
                have e277 : 0 = v272 h0 9 := by rw [e273, stv_k (by decide)]; exact e253
                have e278 : x245 = v272 h0 6 := by rw [e273, stv_k (by decide)]; exact e257
                have f279 : Fr G [8] v v272 := Fr.st f254 e273 (S_X8.h S0) rfl
                have u280 : v272 h0 10 = v h0 10 := by rw [e273, stv_k (by decide)]; exact u255
                have u281 : v272 h0 11 = v h0 11 := by rw [e273, stv_k (by decide)]; exact u256
                have e282 : (7 : Int32) = v272 h0 8 := by rw [e273, stv_s]
                exact J_vret E hr dX8_step_230 ⟨o274, k275, ⟨⟨by rw [← e278]; exact Int.le_of_lt t258, Or.inr (by rw [← e278]; exact t258)⟩, u280, u281, ⟨rfl, ((kx_X8_step_10 (e187) (e194) (e199) (e208) (e222) (e230) (e239) (e246) (e249) (e273) (c195) (c223) (c231) (c240) (c259)).symm.trans hK)⟩, f279⟩⟩
            · have b283 : Bd x237 1 1 := (Bd.ne_lo c240 b238 (Bd.lit 0 0 (by decide))).w _ _ (by decide)
              have g284 := (p236.2.2.2.1).resolve_left c240
              have b285 : Bd x220 97 127 := Bd.le_r g284.1 (Bd.lit 97 97 (by decide)) b221 97 (by decide)
              have b286 : Bd x220 97 122 := Bd.le_l g284.2 b285 (Bd.lit 122 122 (by decide)) 122 (by decide)
              exact J.sub [1] rfl (J165 151 v207 (o209) (k210) f213 u214 u215 x186 (e211) (b224.w 0 150 (by decide)) h188 (Or.inr (by rw [← (p219.2.2.2.1)]; exact ⟨g284.1, g284.2⟩)) (Mu.start _ b224 (by decide)) ((kx_X8_step_11 (e187) (e194) (e199) (e208) (e222) (e230) (e239) (c195) (c223) (c231) (c240)).symm.trans hK))
          · have b287 : Bd x228 1 1 := (Bd.ne_lo c231 b229 (Bd.lit 0 0 (by decide))).w _ _ (by decide)
            have g288 := (p227.2.2.2.1).resolve_left c231
            have b289 : Bd x220 48 127 := Bd.le_r g288.1 (Bd.lit 48 48 (by decide)) b221 48 (by decide)
            have b290 : Bd x220 48 57 := Bd.le_l g288.2 b289 (Bd.lit 57 57 (by decide)) 57 (by decide)
            exact J.sub [1] rfl (J65 151 v207 (o209) (k210) f213 u214 u215 x186 (e211) (b224.w 0 150 (by decide)) h188 (Or.inr (by rw [← (p219.2.2.2.1)]; exact ⟨g288.1, g288.2⟩)) (Mu.start _ b224 (by decide)) ((kx_X8_step_12 (e187) (e194) (e199) (e208) (e222) (e230) (c195) (c223) (c231)).symm.trans hK))
        · have b291 : Bd x220 (-1) (-1) := Bd.eq_l c223 b221 (Bd.lit (-1) (-1) (by decide)) (-1) (-1) (by decide)
          refine J_aload_n E dX8_step_45 1 rfl ?_
          refine J_bipush E 8 dX8_step_46 (by decide) ?_
          refine J_pI E in_X8 rfl (S_X8.h S0) 8 (by decide) wd943 tyX8 tyX8_ok nmX8 rfl rfl .int (by decide +kernel) rfl rfl dX8_step_48 (fun v292 e293 => ?_)
          have o294 : Ok G v292 w := Ok.pf o209 e293 (S_X8.h S0) rfl ((Bd.lit 8 8 (by decide)).w I0 I1 (by decide))
          have k295 : Kp G v v292 := Kp.pf k210 e293 (S_X8.h S0) rfl
          have e296 : x186 = v292 h0 6 := by rw [e293, stv_k (by decide)]; exact e211
          have e297 : x186 = v292 h0 7 := by rw [e293, stv_k (by decide)]; exact e212
          have e298 : 0 = v292 h0 9 := by rw [e293, stv_k (by decide)]; exact e216
          have f299 : Fr G [8] v v292 := Fr.st f213 e293 (S_X8.h S0) rfl
          have u300 : v292 h0 10 = v h0 10 := by rw [e293, stv_k (by decide)]; exact u214
          have u301 : v292 h0 11 = v h0 11 := by rw [e293, stv_k (by decide)]; exact u215
          have e302 : (8 : Int32) = v292 h0 8 := by rw [e293, stv_s]
          refine J_goto E 230 dX8_step_51 (by decide) ?_
          exact J_vret E hr dX8_step_230 ⟨o294, k295, ⟨⟨by rw [← e296]; exact h188, Or.inl (e302).symm⟩, u300, u301, ⟨rfl, ((kx_X8_step_13 (e187) (e194) (e199) (e208) (e222) (e293) (c195) (c223)).symm.trans hK)⟩, f299⟩⟩
      · have b303 : Bd x192 32 32 := Bd.eq_l c195 b193 (Bd.lit 32 32 (by decide)) 32 32 (by decide)
        have b304 : Bd x186 0 149 := Bd.e ((p191.2.2.2.2.1).resolve_left (fun q9 => by have q8 := b303; unfold Bd at q9 q8; omega)) e187
        refine J_aload_n E dX8_step_9 0 rfl ?_
        refine J_dup E dX8_step_10 rfl ?_
        refine J_getI E in_X8 rfl (S_X8.h S0) 6 (by decide) wd941 rfl dX8_step_11 (fun x305 e306 => ?_)
        rw [show x305 = x186 from e306.trans (e187).symm]
        refine J_iconst E 1 dX8_step_14 (by decide) ?_
        refine J_iadd E dX8_step_15 (fun x307 e308 => ?_)
        have b309 : Bd x307 1 150 := (Bd.add e308 b304 (Bd.lit 1 1 (by decide)) (by decide)).w _ _ (by decide)
        refine J_pI E in_X8 rfl (S_X8.h S0) 6 (by decide) wd941 tyX8 tyX8_ok nmX8 rfl rfl .int (by decide +kernel) rfl rfl dX8_step_16 (fun v310 e311 => ?_)
        have o312 : Ok G v310 w := Ok.pf o180 e311 (S_X8.h S0) rfl (b309.w 0 150 (by decide))
        have k313 : Kp G v v310 := Kp.pf k181 e311 (S_X8.h S0) rfl
        have f314 : Fr G [8] v v310 := Fr.st f182 e311 (S_X8.h S0) rfl
        have u315 : v310 h0 10 = v h0 10 := by rw [e311, stv_k (by decide)]; exact u183
        have u316 : v310 h0 11 = v h0 11 := by rw [e311, stv_k (by decide)]; exact u184
        have e317 : x307 = v310 h0 6 := by rw [e311, stv_s]
        have t318 : (v h0 6).toInt < x307.toInt := at_inc h188 e308 b304
        refine J_goto E 0 dX8_step_19 (by decide) ?_
        exact J.sub [0] rfl (ih0 v310 (o312) (k313) f314 u315 u316 x307 (e317) (b309.w 0 150 (by decide)) (Int.le_of_lt t318) (Mu.step hmu0 e308 b304 (Bd.lit 1 1 (by decide)) (by decide)) ((kx_X8_step_14 (e187) (e194) (e308) (e311) (c195)).symm.trans hK))
  have hK : K_X8_step_e G w v h0 = F_X8_step G w v h0 := rfl
  obtain ⟨x319, e320⟩ : ∃ z : Int32, z = v h0 6 := ⟨_, rfl⟩
  have b321 : Bd x319 0 150 := Ok.fd hOk e320 (S_X8.h S0) rfl
  exact J.sub [0] rfl (J0 151 v (hOk) (Kp.rf) Fr.rf rfl rfl x319 (e320) b321 (by rw [e320]; exact Int.le_refl _) (Mu.start _ b321 (by decide)) ((kx_X8_step_15).symm.trans hK))

def K_X8_due_c1 (G : Gm) (w : Mw) (h0 : Nat) (v16 : Mv) : Mv :=
  v16
def K_X8_due_e (G : Gm) (w : Mw) (v : Mv) (h0 : Nat) (x_0 : Int32) : Mv :=
  if (v h0 10) = (0 : Int32) then (if x_0 = (0 : Int32) then ((stv v h0 10 (1 : Int32))) else (K_X8_due_c1 G w h0 (F_X8_step G w v h0))) else (v)
def F_X8_due (G : Gm) (w : Mw) (v : Mv) (h0 : Nat) (x_0 : Int32) : Mv := K_X8_due_e G w v h0 x_0
set_option maxRecDepth 100000 in
theorem kx_X8_due_1 {G : Gm} {w : Mw} {v : Mv} {h0 : Nat} {x_0 : Int32} {v8 : Mv} {x1 : Int32} (a0 : x1 = v h0 10) (a1 : v8 = stv v h0 10 (1 : Int32)) (k0 : x1 = (0 : Int32)) (k1 : x_0 = (0 : Int32)) : K_X8_due_e G w v h0 x_0 = v8 := by
  subst a1; subst a0; first | rw [K_X8_due_e, if_pos k0, if_pos k1] | simp only [K_X8_due_e, if_pos k0, if_pos k1]
set_option maxRecDepth 100000 in
theorem kx_X8_due_2 {G : Gm} {w : Mw} {v : Mv} {h0 : Nat} {x_0 : Int32} {v16 : Mv} {x1 : Int32} (a0 : x1 = v h0 10) (a1 : v16 = F_X8_step G w v h0) (k0 : x1 = (0 : Int32)) (k1 : ¬ (x_0 = (0 : Int32))) : K_X8_due_e G w v h0 x_0 = K_X8_due_c1 G w h0 v16 := by
  subst a1; subst a0; first | rw [K_X8_due_e, if_pos k0, if_neg k1] | simp only [K_X8_due_e, if_pos k0, if_neg k1]
set_option maxRecDepth 100000 in
theorem kx_X8_due_3 {G : Gm} {w : Mw} {h0 : Nat} {v16 : Mv}   : K_X8_due_c1 G w h0 v16 = v16 := by
  first | rw [K_X8_due_c1] | simp only [K_X8_due_c1]
set_option maxRecDepth 100000 in
theorem kx_X8_due_4 {G : Gm} {w : Mw} {v : Mv} {h0 : Nat} {x_0 : Int32} {x1 : Int32} (a0 : x1 = v h0 10) (k0 : ¬ (x1 = (0 : Int32))) : K_X8_due_e G w v h0 x_0 = v := by
  subst a0; first | rw [K_X8_due_e, if_neg k0] | simp only [K_X8_due_e, if_neg k0]
abbrev rm_X8_due : Room := { frames := 3, cells := 0, slots := 0, locals := 69 }
set_option maxHeartbeats 4000000 in
set_option maxRecDepth 100000 in
theorem ct_X8_due (l : Launch) (D : va_G) (dA : Nat → ClassId) (G : Gm) (v : Mv) (w : Mw) (hOk : Ok G v w) (h0 : Nat) (S0 : S_X8 G h0) (x_0 : Int32) (bx_0 : Bd x_0 0 1) : CtV l yX8_due cX8_due 2 none rm_X8_due D dA G [.ref h0, .int x_0] v w (fun v1 w1 => Ok G v1 w1 ∧ Kp G v v1 ∧ (¬ v1 h0 10 = 0 ∨ (¬ x_0 = 0 ∧ v h0 10 = 0 ∧ Ps h0 v v1)) ∧ Pg h0 v v1 ∧ (w1 = w ∧ v1 = F_X8_due G w v h0 x_0) ∧ Fr G [8] v v1) := by
  refine CtV.of RX8 [(0, .ref h0), (1, .int x_0)] (Nat.le_of_ble_eq_true rfl) rfl (by decide) rfl ?_
  intro p e s m args below meth c E hr
  have hK : K_X8_due_e G w v h0 x_0 = F_X8_due G w v h0 x_0 := rfl
  refine J_aload_n E dX8_due_0 0 rfl ?_
  refine J_getI E in_X8 rfl (S_X8.h S0) 10 (by decide) wd945 rfl dX8_due_1 (fun x1 e2 => ?_)
  have b3 : Bd x1 0 1 := Ok.fd hOk e2 (S_X8.h S0) rfl
  refine J_if_eq E 8 dX8_due_4 (by decide) (fun c4 => ?_) (fun c4 => ?_)
  · have b5 : Bd x1 0 0 := Bd.eq_l c4 b3 (Bd.lit 0 0 (by decide)) 0 0 (by decide)
    refine J_iload_n E dX8_due_8 1 rfl ?_
    refine J_if_eq E 19 dX8_due_9 (by decide) (fun c6 => ?_) (fun c6 => ?_)
    · have b7 : Bd x_0 0 0 := Bd.eq_l c6 bx_0 (Bd.lit 0 0 (by decide)) 0 0 (by decide)
      refine J_aload_n E dX8_due_19 0 rfl ?_
      refine J_iconst E 1 dX8_due_20 (by decide) ?_
      refine J_pI E in_X8 rfl (S_X8.h S0) 10 (by decide) wd945 tyX8 tyX8_ok nmX8 rfl rfl .boolean (by decide +kernel) (Bd.z (Bd.lit 1 1 (by decide)) (by decide)) (Bd.zf (Bd.lit 1 1 (by decide)) (by decide)) dX8_due_21 (fun v8 e9 => ?_)
      have o10 : Ok G v8 w := Ok.pf hOk e9 (S_X8.h S0) rfl ((Bd.lit 1 1 (by decide)).w 0 1 (by decide))
      have k11 : Kp G v v8 := Kp.pf Kp.rf e9 (S_X8.h S0) rfl
      have f12 : Fr G [8] v v8 := Fr.st Fr.rf e9 (S_X8.h S0) rfl
      have g13 : Pg h0 v v8 := Pg.same Pg.rf (by rw [e9, stv_k (by decide)]) (by rw [e9, stv_k (by decide)])
      have e14 : (1 : Int32) = v8 h0 10 := by rw [e9, stv_s]
      exact J_vret E hr dX8_due_24 ⟨o10, k11, ⟨(Or.inl (by rw [← e14]; decide)), g13, ⟨rfl, ((kx_X8_due_1 (e2) (e9) (c4) (c6)).symm.trans hK)⟩, f12⟩⟩
    · have b15 : Bd x_0 1 1 := (Bd.ne_lo c6 bx_0 (Bd.lit 0 0 (by decide))).w _ _ (by decide)
      refine J_aload_n E dX8_due_12 0 rfl ?_
      refine J_callVV E cal_X8_step wd1031 rfl (S_X8.h S0) [] [] (ct_X8_step l D dA G v w (hOk) h0 S0) rfl rfl (Nat.le_of_ble_eq_true rfl) ⟨rfl, rfl⟩ ⟨Nat.le_of_ble_eq_true rfl, Nat.le_of_ble_eq_true rfl⟩ dX8_due_13 (fun v16 w17 p18 => ?_)
      have ew9 : w = w17 := p18.2.2.2.2.2.1.1.symm
      subst ew9
      have o20 := p18.1
      have k21 : Kp G v v16 := (Kp.rf).tr p18.2.1
      have f22 : Fr G [8] v v16 := Fr.tr Fr.rf (p18.2.2.2.2.2.2) (by decide)
      have g23 : Pg h0 v v16 := Pg.rf.tr (Ps.g p18.2.2.1)
      have e24 : v16 = F_X8_step G w v h0 := (p18.2.2.2.2.2.1).2
      have hK : K_X8_due_c1 G w h0 v16 = F_X8_due G w v h0 x_0 := ((kx_X8_due_2 (e2) (e24) (c4) (c6)).symm.trans hK)
      refine J_goto E 24 dX8_due_16 (by decide) ?_
      exact J_vret E hr dX8_due_24 ⟨o20, k21, ⟨(Or.inr ⟨c6, e2.symm.trans c4, (p18.2.2.1)⟩), g23, ⟨rfl, ((kx_X8_due_3).symm.trans hK)⟩, f22⟩⟩
  · have b25 : Bd x1 1 1 := (Bd.ne_lo c4 b3 (Bd.lit 0 0 (by decide))).w _ _ (by decide)
    exact J_vret E hr dX8_due_7 ⟨hOk, Kp.rf, ⟨(Or.inl (by rw [← e2]; exact c4)), Pg.rf, ⟨rfl, ((kx_X8_due_4 (e2) (c4)).symm.trans hK)⟩, Fr.rf⟩⟩

def K_X8_number_c1 (G : Gm) (w : Mw) (h0 : Nat) (v5 : Mv) (x1 : Int32) : Int32 × Mv :=
  (x1, v5)
def K_X8_number_29 (G : Gm) (w : Mw) (h0 : Nat) (v : Mv) (x1 : Int32) (x3 : Int32) : Int32 × Mv :=
  K_X8_number_c1 G w h0 (F_X8_due G w v h0 x3) x1
def K_X8_number_28 (G : Gm) (w : Mw) (h0 : Nat) (v : Mv) (x14 : Int32) : Int32 × Mv :=
  K_X8_number_29 G w h0 v x14 (0 : Int32)
def K_X8_number_e (G : Gm) (w : Mw) (v : Mv) (h0 : Nat) (x_0 : Int32) (x_1 : Int32) : Int32 × Mv :=
  if (v h0 8) = (6 : Int32) then (if (F_X8_in G w v (v h0 9) x_0 x_1) = (0 : Int32) then (K_X8_number_28 G w h0 v (v h0 9)) else (K_X8_number_29 G w h0 v (v h0 9) (1 : Int32))) else (K_X8_number_28 G w h0 v (v h0 9))
def F_X8_number (G : Gm) (w : Mw) (v : Mv) (h0 : Nat) (x_0 : Int32) (x_1 : Int32) : Int32 × Mv := K_X8_number_e G w v h0 x_0 x_1
set_option maxRecDepth 100000 in
theorem kx_X8_number_1 {G : Gm} {w : Mw} {h0 : Nat} {v : Mv} {x1 : Int32} {x3 : Int32} {v5 : Mv} (a0 : v5 = F_X8_due G w v h0 x3)  : K_X8_number_29 G w h0 v x1 x3 = K_X8_number_c1 G w h0 v5 x1 := by
  subst a0; first | rw [K_X8_number_29] | simp only [K_X8_number_29]
set_option maxRecDepth 100000 in
theorem kx_X8_number_2 {G : Gm} {w : Mw} {h0 : Nat} {v5 : Mv} {x1 : Int32}   : K_X8_number_c1 G w h0 v5 x1 = (x1, v5) := by
  first | rw [K_X8_number_c1] | simp only [K_X8_number_c1]
set_option maxRecDepth 100000 in
theorem kx_X8_number_3 {G : Gm} {w : Mw} {h0 : Nat} {v : Mv} {x14 : Int32}   : K_X8_number_28 G w h0 v x14 = K_X8_number_29 G w h0 v x14 (0 : Int32) := by
  first | rw [K_X8_number_28] | simp only [K_X8_number_28]
set_option maxRecDepth 100000 in
theorem kx_X8_number_4 {G : Gm} {w : Mw} {v : Mv} {h0 : Nat} {x_0 : Int32} {x_1 : Int32} {x16 : Int32} {x19 : Int32} (a0 : x16 = v h0 9) (a1 : x19 = v h0 8) (k0 : ¬ (x19 = (6 : Int32))) : K_X8_number_e G w v h0 x_0 x_1 = K_X8_number_28 G w h0 v x16 := by
  subst a1; subst a0; first | rw [K_X8_number_e, if_neg k0] | simp only [K_X8_number_e, if_neg k0]
set_option maxRecDepth 100000 in
theorem kx_X8_number_5 {G : Gm} {w : Mw} {v : Mv} {h0 : Nat} {x_0 : Int32} {x_1 : Int32} {x16 : Int32} {x19 : Int32} {x26 : Int32} (a0 : x16 = v h0 9) (a1 : x19 = v h0 8) (a2 : x26 = F_X8_in G w v x16 x_0 x_1) (k0 : x19 = (6 : Int32)) (k1 : x26 = (0 : Int32)) : K_X8_number_e G w v h0 x_0 x_1 = K_X8_number_28 G w h0 v x16 := by
  subst a2; subst a1; subst a0; first | rw [K_X8_number_e, if_pos k0, if_pos k1] | simp only [K_X8_number_e, if_pos k0, if_pos k1]
set_option maxRecDepth 100000 in
theorem kx_X8_number_6 {G : Gm} {w : Mw} {v : Mv} {h0 : Nat} {x_0 : Int32} {x_1 : Int32} {x16 : Int32} {x19 : Int32} {x26 : Int32} (a0 : x16 = v h0 9) (a1 : x19 = v h0 8) (a2 : x26 = F_X8_in G w v x16 x_0 x_1) (k0 : x19 = (6 : Int32)) (k1 : ¬ (x26 = (0 : Int32))) : K_X8_number_e G w v h0 x_0 x_1 = K_X8_number_29 G w h0 v x16 (1 : Int32) := by
  subst a2; subst a1; subst a0; first | rw [K_X8_number_e, if_pos k0, if_neg k1] | simp only [K_X8_number_e, if_pos k0, if_neg k1]
abbrev rm_X8_number : Room := { frames := 4, cells := 0, slots := 0, locals := 90 }
set_option maxHeartbeats 4000000 in
set_option maxRecDepth 100000 in
theorem ct_X8_number (l : Launch) (D : va_G) (dA : Nat → ClassId) (G : Gm) (v : Mv) (w : Mw) (hOk : Ok G v w) (h0 : Nat) (S0 : S_X8 G h0) (x_0 : Int32) (x_1 : Int32) : CtI l yX8_number cX8_number 4 (some .int) rm_X8_number D dA G [.ref h0, .int x_0, .int x_1] v w (fun r v1 w1 => Ok G v1 w1 ∧ Kp G v v1 ∧ Bd r 0 999 ∧ Pg h0 v v1 ∧ (w1 = w ∧ (r, v1) = F_X8_number G w v h0 x_0 x_1) ∧ Fr G [8] v v1) := by
  refine CtI.of RX8 [(0, .ref h0), (1, .int x_0), (2, .int x_1)] (Nat.le_of_ble_eq_true rfl) rfl (by decide) rfl ?_
  intro p e s m args below meth c E hr
  have J29 : ∀ x1 : Int32, Bd x1 0 999 → ∀ x3 : Int32, Bd x3 0 1 → K_X8_number_29 G w h0 v x1 x3 = F_X8_number G w v h0 x_0 x_1 → J p l e rm_X8_number s m args below meth c 0 0 (MQ below (QcI D dA G (fun r v1 w1 => Ok G v1 w1 ∧ Kp G v v1 ∧ Bd r 0 999 ∧ Pg h0 v v1 ∧ (w1 = w ∧ (r, v1) = F_X8_number G w v h0 x_0 x_1) ∧ Fr G [8] v v1)) args s 0 0 (dm G)) D dA G (dm G) s.heap 4 v w [(3, .int x1)] 29 [.int x3, .ref h0] := by
    intro x1 b2 x3 b4 hK
    refine J_callVV E cal_X8_due wd1051 rfl (S_X8.h S0) [.int x3] [] (ct_X8_due l D dA G v w (hOk) h0 S0 x3 b4) rfl rfl (Nat.le_of_ble_eq_true rfl) ⟨rfl, rfl⟩ ⟨Nat.le_of_ble_eq_true rfl, Nat.le_of_ble_eq_true rfl⟩ dX8_number_29 (fun v5 w6 p7 => ?_)
    have ew9 : w = w6 := p7.2.2.2.2.1.1.symm
    subst ew9
    have o9 := p7.1
    have k10 : Kp G v v5 := (Kp.rf).tr p7.2.1
    have f11 : Fr G [8] v v5 := Fr.tr Fr.rf (p7.2.2.2.2.2) (by decide)
    have g12 : Pg h0 v v5 := Pg.rf.tr p7.2.2.2.1
    have e13 : v5 = F_X8_due G w v h0 x3 := (p7.2.2.2.2.1).2
    have hK : K_X8_number_c1 G w h0 v5 x1 = F_X8_number G w v h0 x_0 x_1 := ((kx_X8_number_1 (e13)).symm.trans hK)
    refine J_iload_n E dX8_number_32 0 rfl ?_
    exact J_iret E hr dX8_number_33 ⟨o9, k10, b2, ⟨g12, ⟨rfl, ((kx_X8_number_2).symm.trans hK)⟩, f11⟩⟩
  have J28 : ∀ x14 : Int32, Bd x14 0 999 → K_X8_number_28 G w h0 v x14 = F_X8_number G w v h0 x_0 x_1 → J p l e rm_X8_number s m args below meth c 0 0 (MQ below (QcI D dA G (fun r v1 w1 => Ok G v1 w1 ∧ Kp G v v1 ∧ Bd r 0 999 ∧ Pg h0 v v1 ∧ (w1 = w ∧ (r, v1) = F_X8_number G w v h0 x_0 x_1) ∧ Fr G [8] v v1)) args s 0 0 (dm G)) D dA G (dm G) s.heap 4 v w [(3, .int x14)] 28 [.ref h0] := by
    intro x14 b15 hK
    refine J_iconst E 0 dX8_number_28 (by decide) ?_
    exact J.sub [0] rfl (J29 x14 b15 0 ((Bd.lit 0 0 (by decide)).w 0 1 (by decide)) ((kx_X8_number_3).symm.trans hK))
  have hK : K_X8_number_e G w v h0 x_0 x_1 = F_X8_number G w v h0 x_0 x_1 := rfl
  refine J_aload_n E dX8_number_0 0 rfl ?_
  refine J_getI E in_X8 rfl (S_X8.h S0) 9 (by decide) wd944 rfl dX8_number_1 (fun x16 e17 => ?_)
  have b18 : Bd x16 0 999 := Ok.fd hOk e17 (S_X8.h S0) rfl
  refine J_istore_n E [(3, .int x16), (0, .ref h0), (1, .int x_0), (2, .int x_1)] dX8_number_4 rfl (by decide) rfl ?_
  refine J_aload_n E dX8_number_5 1 rfl ?_
  refine J_aload_n E dX8_number_6 1 rfl ?_
  refine J_getI E in_X8 rfl (S_X8.h S0) 8 (by decide) wd943 rfl dX8_number_7 (fun x19 e20 => ?_)
  refine J_bipush E 6 dX8_number_10 (by decide) ?_
  refine J_icmp_ne E 28 dX8_number_12 (by decide) (fun c21 => ?_) (fun c21 => ?_)
  · exact J.sub [0] rfl (J28 x16 b18 ((kx_X8_number_4 (e17) (e20) (c21)).symm.trans hK))
  · have b22 : Bd x19 6 6 := Bd.eq_l c21 (Bd.any x19) (Bd.lit 6 6 (by decide)) 6 6 (by decide)
    refine J_iload_n E dX8_number_15 0 rfl ?_
    refine J_iload_n E dX8_number_16 2 rfl ?_
    refine J_iload_n E dX8_number_17 3 rfl ?_
    refine J_callSI E cal_X8_in wd996 [.int x16, .int x_0, .int x_1] [.ref h0] (ct_X8_in l D dA G v w (hOk) x16 x_0 x_1) rfl rfl (Nat.le_of_ble_eq_true rfl) ⟨rfl, rfl⟩ ⟨Nat.le_of_ble_eq_true rfl, Nat.le_of_ble_eq_true rfl⟩ dX8_number_18 (fun x26 v23 w24 p25 => ?_)
    rw [p25.1, p25.2.1]
    have b27 : Bd x26 0 1 := p25.2.2.1
    have e28 : x26 = F_X8_in G w v x16 x_0 x_1 := (p25.2.2.2.2.2)
    refine J_if_eq E 28 dX8_number_21 (by decide) (fun c29 => ?_) (fun c29 => ?_)
    · have b30 : Bd x26 0 0 := Bd.eq_l c29 b27 (Bd.lit 0 0 (by decide)) 0 0 (by decide)
      have g31 : ¬ (x_0 ≤ x16 ∧ x16 ≤ x_1) := (p25.2.2.2.2.1).resolve_left (fun h9 => h9 c29)
      exact J.sub [0] rfl (J28 x16 b18 ((kx_X8_number_5 (e17) (e20) (e28) (c21) (c29)).symm.trans hK))
    · have b32 : Bd x26 1 1 := (Bd.ne_lo c29 b27 (Bd.lit 0 0 (by decide))).w _ _ (by decide)
      have g33 := (p25.2.2.2.1).resolve_left c29
      have b34 : Bd x_0 I0 999 := Bd.le_l g33.1 (Bd.any x_0) b18 999 (by decide)
      have b35 : Bd x_1 0 I1 := Bd.le_r g33.2 b18 (Bd.any x_1) 0 (by decide)
      refine J_iconst E 1 dX8_number_24 (by decide) ?_
      refine J_goto E 29 dX8_number_25 (by decide) ?_
      exact J.sub [0] rfl (J29 x16 b18 1 ((Bd.lit 1 1 (by decide)).w 0 1 (by decide)) ((kx_X8_number_6 (e17) (e20) (e28) (c21) (c29)).symm.trans hK))

def K_X8_readThing_c3 (G : Gm) (w : Mw) (h0 : Nat) (v29 : Mv) (x32 : Int32) : Mv :=
  v29
def K_X8_readThing_c2 (G : Gm) (w : Mw) (h0 : Nat) (v12 : Mv) (x4 : Int32) (x15 : Int32) : Mv :=
  if (v12 h0 10) = (0 : Int32) then (K_X8_readThing_c3 G w h0 ((F_X8_add_738 G w v12 h0 x4 x15).2) ((F_X8_add_738 G w v12 h0 x4 x15).1)) else (v12)
def K_X8_readThing_c1 (G : Gm) (w : Mw) (h0 : Nat) (v1 : Mv) (x4 : Int32) : Mv :=
  K_X8_readThing_c2 G w h0 ((F_X8_number G w v1 h0 (1 : Int32) (30 : Int32)).2) x4 ((F_X8_number G w v1 h0 (1 : Int32) (30 : Int32)).1)
def K_X8_readThing_e (G : Gm) (w : Mw) (v : Mv) (h0 : Nat) : Mv :=
  K_X8_readThing_c1 G w h0 ((F_X8_number G w v h0 (0 : Int32) (5 : Int32)).2) ((F_X8_number G w v h0 (0 : Int32) (5 : Int32)).1)
def F_X8_readThing (G : Gm) (w : Mw) (v : Mv) (h0 : Nat) : Mv := K_X8_readThing_e G w v h0
set_option maxRecDepth 100000 in
theorem kx_X8_readThing_1 {G : Gm} {w : Mw} {v : Mv} {h0 : Nat} {v1 : Mv} {x4 : Int32} (a0 : x4 = (F_X8_number G w v h0 (0 : Int32) (5 : Int32)).1) (a1 : v1 = (F_X8_number G w v h0 (0 : Int32) (5 : Int32)).2)  : K_X8_readThing_e G w v h0 = K_X8_readThing_c1 G w h0 v1 x4 := by
  subst a1; subst a0; first | rw [K_X8_readThing_e] | simp only [K_X8_readThing_e]
set_option maxRecDepth 100000 in
theorem kx_X8_readThing_2 {G : Gm} {w : Mw} {h0 : Nat} {v1 : Mv} {x4 : Int32} {v12 : Mv} {x15 : Int32} (a0 : x15 = (F_X8_number G w v1 h0 (1 : Int32) (30 : Int32)).1) (a1 : v12 = (F_X8_number G w v1 h0 (1 : Int32) (30 : Int32)).2)  : K_X8_readThing_c1 G w h0 v1 x4 = K_X8_readThing_c2 G w h0 v12 x4 x15 := by
  subst a1; subst a0; first | rw [K_X8_readThing_c1] | simp only [K_X8_readThing_c1]
set_option maxRecDepth 100000 in
theorem kx_X8_readThing_3 {G : Gm} {w : Mw} {h0 : Nat} {v12 : Mv} {x4 : Int32} {x15 : Int32} {x23 : Int32} (a0 : x23 = v12 h0 10) (k0 : ¬ (x23 = (0 : Int32))) : K_X8_readThing_c2 G w h0 v12 x4 x15 = v12 := by
  subst a0; first | rw [K_X8_readThing_c2, if_neg k0] | simp only [K_X8_readThing_c2, if_neg k0]
set_option maxRecDepth 100000 in
theorem kx_X8_readThing_4 {G : Gm} {w : Mw} {h0 : Nat} {v12 : Mv} {x4 : Int32} {x15 : Int32} {v29 : Mv} {x32 : Int32} {x23 : Int32} (a0 : x23 = v12 h0 10) (a1 : x32 = (F_X8_add_738 G w v12 h0 x4 x15).1) (a2 : v29 = (F_X8_add_738 G w v12 h0 x4 x15).2) (k0 : x23 = (0 : Int32)) : K_X8_readThing_c2 G w h0 v12 x4 x15 = K_X8_readThing_c3 G w h0 v29 x32 := by
  subst a2; subst a1; subst a0; first | rw [K_X8_readThing_c2, if_pos k0] | simp only [K_X8_readThing_c2, if_pos k0]
set_option maxRecDepth 100000 in
theorem kx_X8_readThing_5 {G : Gm} {w : Mw} {h0 : Nat} {v29 : Mv} {x32 : Int32}   : K_X8_readThing_c3 G w h0 v29 x32 = v29 := by
  first | rw [K_X8_readThing_c3] | simp only [K_X8_readThing_c3]
abbrev rm_X8_readThing : Room := { frames := 5, cells := 0, slots := 0, locals := 113 }
set_option maxHeartbeats 4000000 in
set_option maxRecDepth 100000 in
theorem ct_X8_readThing (l : Launch) (D : va_G) (dA : Nat → ClassId) (G : Gm) (v : Mv) (w : Mw) (hOk : Ok G v w) (h0 : Nat) (S0 : S_X8 G h0) (z_0 : Int32) (ez_0 : z_0 = v (rf G h0 1) 738) (pre0 : Bd z_0 0 6) : CtV l yX8_readThing cX8_readThing 3 none rm_X8_readThing D dA G [.ref h0] v w (fun v1 w1 => Ok G v1 w1 ∧ True ∧ Pg h0 v v1 ∧ (w1 = w ∧ v1 = F_X8_readThing G w v h0) ∧ Fr G [8, 1084] v v1) := by
  refine CtV.of RX8 [(0, .ref h0)] (Nat.le_of_ble_eq_true rfl) rfl (by decide) rfl ?_
  intro p e s m args below meth c E hr
  have hK : K_X8_readThing_e G w v h0 = F_X8_readThing G w v h0 := rfl
  refine J_aload_n E dX8_readThing_0 0 rfl ?_
  refine J_iconst E 0 dX8_readThing_1 (by decide) ?_
  refine J_iconst E 5 dX8_readThing_2 (by decide) ?_
  refine J_callVI E cal_X8_number wd1063 rfl (S_X8.h S0) [.int 0, .int 5] [] (ct_X8_number l D dA G v w (hOk) h0 S0 0 5) rfl rfl (Nat.le_of_ble_eq_true rfl) ⟨rfl, rfl⟩ ⟨Nat.le_of_ble_eq_true rfl, Nat.le_of_ble_eq_true rfl⟩ dX8_readThing_3 (fun x4 v1 w2 p3 => ?_)
  have ew9 : w = w2 := p3.2.2.2.2.1.1.symm
  subst ew9
  have o5 := p3.1
  have k6 : True := trivial
  have f7 : Fr G [8, 1084] v v1 := Fr.tr Fr.rf (p3.2.2.2.2.2) (by decide)
  have g8 : Pg h0 v v1 := Pg.rf.tr p3.2.2.2.1
  have b9 : Bd x4 0 999 := p3.2.2.1
  have e10 : x4 = (F_X8_number G w v h0 (0 : Int32) (5 : Int32)).1 := congrArg Prod.fst (p3.2.2.2.2.1).2
  have e11 : v1 = (F_X8_number G w v h0 (0 : Int32) (5 : Int32)).2 := congrArg Prod.snd (p3.2.2.2.2.1).2
  have hK : K_X8_readThing_c1 G w h0 v1 x4 = F_X8_readThing G w v h0 := ((kx_X8_readThing_1 (e10) (e11)).symm.trans hK)
  refine J_istore_n E [(1, .int x4), (0, .ref h0)] dX8_readThing_6 rfl (by decide) rfl ?_
  refine J_aload_n E dX8_readThing_7 1 rfl ?_
  refine J_iconst E 1 dX8_readThing_8 (by decide) ?_
  refine J_bipush E 30 dX8_readThing_9 (by decide) ?_
  refine J_callVI E cal_X8_number wd1063 rfl (S_X8.h S0) [.int 1, .int 30] [] (ct_X8_number l D dA G v1 w (o5) h0 S0 1 30) rfl rfl (Nat.le_of_ble_eq_true rfl) ⟨rfl, rfl⟩ ⟨Nat.le_of_ble_eq_true rfl, Nat.le_of_ble_eq_true rfl⟩ dX8_readThing_11 (fun x15 v12 w13 p14 => ?_)
  have ew9 : w = w13 := p14.2.2.2.2.1.1.symm
  subst ew9
  have o16 := p14.1
  have k17 : True := trivial
  have f18 : Fr G [8, 1084] v v12 := Fr.tr f7 (p14.2.2.2.2.2) (by decide)
  have g19 : Pg h0 v v12 := g8.tr p14.2.2.2.1
  have b20 : Bd x15 0 999 := p14.2.2.1
  have e21 : x15 = (F_X8_number G w v1 h0 (1 : Int32) (30 : Int32)).1 := congrArg Prod.fst (p14.2.2.2.2.1).2
  have e22 : v12 = (F_X8_number G w v1 h0 (1 : Int32) (30 : Int32)).2 := congrArg Prod.snd (p14.2.2.2.2.1).2
  have hK : K_X8_readThing_c2 G w h0 v12 x4 x15 = F_X8_readThing G w v h0 := ((kx_X8_readThing_2 (e21) (e22)).symm.trans hK)
  refine J_istore_n E [(2, .int x15), (1, .int x4), (0, .ref h0)] dX8_readThing_14 rfl (by decide) rfl ?_
  refine J_aload_n E dX8_readThing_15 2 rfl ?_
  refine J_getI E in_X8 rfl (S_X8.h S0) 10 (by decide) wd945 rfl dX8_readThing_16 (fun x23 e24 => ?_)
  have b25 : Bd x23 0 1 := Ok.fd o16 e24 (S_X8.h S0) rfl
  refine J_if_ne E 32 dX8_readThing_19 (by decide) (fun c26 => ?_) (fun c26 => ?_)
  · have b27 : Bd x23 1 1 := (Bd.ne_lo c26 b25 (Bd.lit 0 0 (by decide))).w _ _ (by decide)
    exact J_vret E hr dX8_readThing_32 ⟨o16, k17, ⟨g19, ⟨rfl, ((kx_X8_readThing_3 (e24) (c26)).symm.trans hK)⟩, f18⟩⟩
  · have b28 : Bd x23 0 0 := Bd.eq_l c26 b25 (Bd.lit 0 0 (by decide)) 0 0 (by decide)
    refine J_aload_n E dX8_readThing_22 2 rfl ?_
    refine J_sipush E 738 dX8_readThing_23 (by decide) ?_
    refine J_iload_n E dX8_readThing_26 1 rfl ?_
    refine J_iload_n E dX8_readThing_27 0 rfl ?_
    refine J_callVI E cal_X8_add wd1007 rfl (S_X8.h S0) [.int 738, .int x4, .int x15] [] (ct_X8_add_738 l D dA G v12 w (o16) h0 S0 x4 b9 x15 b20 z_0 (((((ez_0).trans (Fr.at (p3.2.2.2.2.2) ((S_X8.f1 S0)) rfl 738).symm)).trans (Fr.at (p14.2.2.2.2.2) ((S_X8.f1 S0)) rfl 738).symm)) pre0) rfl rfl (Nat.le_of_ble_eq_true rfl) ⟨rfl, rfl⟩ ⟨Nat.le_of_ble_eq_true rfl, Nat.le_of_ble_eq_true rfl⟩ dX8_readThing_28 (fun x32 v29 w30 p31 => ?_)
    have ew9 : w = w30 := p31.2.2.2.1.1.symm
    subst ew9
    have o33 := p31.1
    have k34 : True := trivial
    have f35 : Fr G [8, 1084] v v29 := Fr.tr f18 (p31.2.2.2.2) (by decide)
    have g36 : Pg h0 v v29 := Pg.same g19 (Fr.at (p31.2.2.2.2) (S_X8.h S0) rfl 6) (Fr.at (p31.2.2.2.2) (S_X8.h S0) rfl 8)
    have b37 : Bd x32 0 6 := p31.2.2.1
    have e38 : x32 = (F_X8_add_738 G w v12 h0 x4 x15).1 := congrArg Prod.fst (p31.2.2.2.1).2
    have e39 : v29 = (F_X8_add_738 G w v12 h0 x4 x15).2 := congrArg Prod.snd (p31.2.2.2.1).2
    have hK : K_X8_readThing_c3 G w h0 v29 x32 = F_X8_readThing G w v h0 := ((kx_X8_readThing_4 (e24) (e38) (e39) (c26)).symm.trans hK)
    refine J_pop E dX8_readThing_31 rfl ?_
    exact J_vret E hr dX8_readThing_32 ⟨o33, k34, ⟨g36, ⟨rfl, ((kx_X8_readThing_5).symm.trans hK)⟩, f35⟩⟩

def K_X8_readOne_c4 (G : Gm) (w : Mw) (h0 : Nat) (v40 : Mv) (x43 : Int32) : Mv :=
  v40
def K_X8_readOne_c3 (G : Gm) (w : Mw) (h0 : Nat) (v23 : Mv) (x4 : Int32) (x15 : Int32) (x26 : Int32) : Mv :=
  if (v23 h0 10) = (0 : Int32) then (K_X8_readOne_c4 G w h0 ((F_X8_join_738 G w v23 h0 x4 x15 x26).2) ((F_X8_join_738 G w v23 h0 x4 x15 x26).1)) else (v23)
def K_X8_readOne_c2 (G : Gm) (w : Mw) (h0 : Nat) (v12 : Mv) (x4 : Int32) (x15 : Int32) : Mv :=
  K_X8_readOne_c3 G w h0 ((F_X8_number G w v12 h0 (0 : Int32) (99 : Int32)).2) x4 x15 ((F_X8_number G w v12 h0 (0 : Int32) (99 : Int32)).1)
def K_X8_readOne_c1 (G : Gm) (w : Mw) (h0 : Nat) (v1 : Mv) (x4 : Int32) : Mv :=
  K_X8_readOne_c2 G w h0 ((F_X8_number G w v1 h0 (1 : Int32) (9 : Int32)).2) x4 ((F_X8_number G w v1 h0 (1 : Int32) (9 : Int32)).1)
def K_X8_readOne_e (G : Gm) (w : Mw) (v : Mv) (h0 : Nat) : Mv :=
  K_X8_readOne_c1 G w h0 ((F_X8_number G w v h0 (0 : Int32) (5 : Int32)).2) ((F_X8_number G w v h0 (0 : Int32) (5 : Int32)).1)
def F_X8_readOne (G : Gm) (w : Mw) (v : Mv) (h0 : Nat) : Mv := K_X8_readOne_e G w v h0
set_option maxRecDepth 100000 in
theorem kx_X8_readOne_1 {G : Gm} {w : Mw} {v : Mv} {h0 : Nat} {v1 : Mv} {x4 : Int32} (a0 : x4 = (F_X8_number G w v h0 (0 : Int32) (5 : Int32)).1) (a1 : v1 = (F_X8_number G w v h0 (0 : Int32) (5 : Int32)).2)  : K_X8_readOne_e G w v h0 = K_X8_readOne_c1 G w h0 v1 x4 := by
  subst a1; subst a0; first | rw [K_X8_readOne_e] | simp only [K_X8_readOne_e]
set_option maxRecDepth 100000 in
theorem kx_X8_readOne_2 {G : Gm} {w : Mw} {h0 : Nat} {v1 : Mv} {x4 : Int32} {v12 : Mv} {x15 : Int32} (a0 : x15 = (F_X8_number G w v1 h0 (1 : Int32) (9 : Int32)).1) (a1 : v12 = (F_X8_number G w v1 h0 (1 : Int32) (9 : Int32)).2)  : K_X8_readOne_c1 G w h0 v1 x4 = K_X8_readOne_c2 G w h0 v12 x4 x15 := by
  subst a1; subst a0; first | rw [K_X8_readOne_c1] | simp only [K_X8_readOne_c1]
set_option maxRecDepth 100000 in
theorem kx_X8_readOne_3 {G : Gm} {w : Mw} {h0 : Nat} {v12 : Mv} {x4 : Int32} {x15 : Int32} {v23 : Mv} {x26 : Int32} (a0 : x26 = (F_X8_number G w v12 h0 (0 : Int32) (99 : Int32)).1) (a1 : v23 = (F_X8_number G w v12 h0 (0 : Int32) (99 : Int32)).2)  : K_X8_readOne_c2 G w h0 v12 x4 x15 = K_X8_readOne_c3 G w h0 v23 x4 x15 x26 := by
  subst a1; subst a0; first | rw [K_X8_readOne_c2] | simp only [K_X8_readOne_c2]
set_option maxRecDepth 100000 in
theorem kx_X8_readOne_4 {G : Gm} {w : Mw} {h0 : Nat} {v23 : Mv} {x4 : Int32} {x15 : Int32} {x26 : Int32} {x34 : Int32} (a0 : x34 = v23 h0 10) (k0 : ¬ (x34 = (0 : Int32))) : K_X8_readOne_c3 G w h0 v23 x4 x15 x26 = v23 := by
  subst a0; first | rw [K_X8_readOne_c3, if_neg k0] | simp only [K_X8_readOne_c3, if_neg k0]
set_option maxRecDepth 100000 in
theorem kx_X8_readOne_5 {G : Gm} {w : Mw} {h0 : Nat} {v23 : Mv} {x4 : Int32} {x15 : Int32} {x26 : Int32} {v40 : Mv} {x43 : Int32} {x34 : Int32} (a0 : x34 = v23 h0 10) (a1 : x43 = (F_X8_join_738 G w v23 h0 x4 x15 x26).1) (a2 : v40 = (F_X8_join_738 G w v23 h0 x4 x15 x26).2) (k0 : x34 = (0 : Int32)) : K_X8_readOne_c3 G w h0 v23 x4 x15 x26 = K_X8_readOne_c4 G w h0 v40 x43 := by
  subst a2; subst a1; subst a0; first | rw [K_X8_readOne_c3, if_pos k0] | simp only [K_X8_readOne_c3, if_pos k0]
set_option maxRecDepth 100000 in
theorem kx_X8_readOne_6 {G : Gm} {w : Mw} {h0 : Nat} {v40 : Mv} {x43 : Int32}   : K_X8_readOne_c4 G w h0 v40 x43 = v40 := by
  first | rw [K_X8_readOne_c4] | simp only [K_X8_readOne_c4]
abbrev rm_X8_readOne : Room := { frames := 5, cells := 0, slots := 0, locals := 113 }
set_option maxHeartbeats 4000000 in
set_option maxRecDepth 100000 in
theorem ct_X8_readOne (l : Launch) (D : va_G) (dA : Nat → ClassId) (G : Gm) (v : Mv) (w : Mw) (hOk : Ok G v w) (h0 : Nat) (S0 : S_X8 G h0) (z_0 : Int32) (ez_0 : z_0 = v (rf G h0 1) 739) (pre0 : Bd z_0 0 6) : CtV l yX8_readOne cX8_readOne 4 none rm_X8_readOne D dA G [.ref h0] v w (fun v1 w1 => Ok G v1 w1 ∧ True ∧ Pg h0 v v1 ∧ (w1 = w ∧ v1 = F_X8_readOne G w v h0) ∧ Fr G [8, 1084] v v1) := by
  refine CtV.of RX8 [(0, .ref h0)] (Nat.le_of_ble_eq_true rfl) rfl (by decide) rfl ?_
  intro p e s m args below meth c E hr
  have hK : K_X8_readOne_e G w v h0 = F_X8_readOne G w v h0 := rfl
  refine J_aload_n E dX8_readOne_0 0 rfl ?_
  refine J_iconst E 0 dX8_readOne_1 (by decide) ?_
  refine J_iconst E 5 dX8_readOne_2 (by decide) ?_
  refine J_callVI E cal_X8_number wd1063 rfl (S_X8.h S0) [.int 0, .int 5] [] (ct_X8_number l D dA G v w (hOk) h0 S0 0 5) rfl rfl (Nat.le_of_ble_eq_true rfl) ⟨rfl, rfl⟩ ⟨Nat.le_of_ble_eq_true rfl, Nat.le_of_ble_eq_true rfl⟩ dX8_readOne_3 (fun x4 v1 w2 p3 => ?_)
  have ew9 : w = w2 := p3.2.2.2.2.1.1.symm
  subst ew9
  have o5 := p3.1
  have k6 : True := trivial
  have f7 : Fr G [8, 1084] v v1 := Fr.tr Fr.rf (p3.2.2.2.2.2) (by decide)
  have g8 : Pg h0 v v1 := Pg.rf.tr p3.2.2.2.1
  have b9 : Bd x4 0 999 := p3.2.2.1
  have e10 : x4 = (F_X8_number G w v h0 (0 : Int32) (5 : Int32)).1 := congrArg Prod.fst (p3.2.2.2.2.1).2
  have e11 : v1 = (F_X8_number G w v h0 (0 : Int32) (5 : Int32)).2 := congrArg Prod.snd (p3.2.2.2.2.1).2
  have hK : K_X8_readOne_c1 G w h0 v1 x4 = F_X8_readOne G w v h0 := ((kx_X8_readOne_1 (e10) (e11)).symm.trans hK)
  refine J_istore_n E [(1, .int x4), (0, .ref h0)] dX8_readOne_6 rfl (by decide) rfl ?_
  refine J_aload_n E dX8_readOne_7 1 rfl ?_
  refine J_iconst E 1 dX8_readOne_8 (by decide) ?_
  refine J_bipush E 9 dX8_readOne_9 (by decide) ?_
  refine J_callVI E cal_X8_number wd1063 rfl (S_X8.h S0) [.int 1, .int 9] [] (ct_X8_number l D dA G v1 w (o5) h0 S0 1 9) rfl rfl (Nat.le_of_ble_eq_true rfl) ⟨rfl, rfl⟩ ⟨Nat.le_of_ble_eq_true rfl, Nat.le_of_ble_eq_true rfl⟩ dX8_readOne_11 (fun x15 v12 w13 p14 => ?_)
  have ew9 : w = w13 := p14.2.2.2.2.1.1.symm
  subst ew9
  have o16 := p14.1
  have k17 : True := trivial
  have f18 : Fr G [8, 1084] v v12 := Fr.tr f7 (p14.2.2.2.2.2) (by decide)
  have g19 : Pg h0 v v12 := g8.tr p14.2.2.2.1
  have b20 : Bd x15 0 999 := p14.2.2.1
  have e21 : x15 = (F_X8_number G w v1 h0 (1 : Int32) (9 : Int32)).1 := congrArg Prod.fst (p14.2.2.2.2.1).2
  have e22 : v12 = (F_X8_number G w v1 h0 (1 : Int32) (9 : Int32)).2 := congrArg Prod.snd (p14.2.2.2.2.1).2
  have hK : K_X8_readOne_c2 G w h0 v12 x4 x15 = F_X8_readOne G w v h0 := ((kx_X8_readOne_2 (e21) (e22)).symm.trans hK)
  refine J_istore_n E [(2, .int x15), (1, .int x4), (0, .ref h0)] dX8_readOne_14 rfl (by decide) rfl ?_
  refine J_aload_n E dX8_readOne_15 2 rfl ?_
  refine J_iconst E 0 dX8_readOne_16 (by decide) ?_
  refine J_bipush E 99 dX8_readOne_17 (by decide) ?_
  refine J_callVI E cal_X8_number wd1063 rfl (S_X8.h S0) [.int 0, .int 99] [] (ct_X8_number l D dA G v12 w (o16) h0 S0 0 99) rfl rfl (Nat.le_of_ble_eq_true rfl) ⟨rfl, rfl⟩ ⟨Nat.le_of_ble_eq_true rfl, Nat.le_of_ble_eq_true rfl⟩ dX8_readOne_19 (fun x26 v23 w24 p25 => ?_)
  have ew9 : w = w24 := p25.2.2.2.2.1.1.symm
  subst ew9
  have o27 := p25.1
  have k28 : True := trivial
  have f29 : Fr G [8, 1084] v v23 := Fr.tr f18 (p25.2.2.2.2.2) (by decide)
  have g30 : Pg h0 v v23 := g19.tr p25.2.2.2.1
  have b31 : Bd x26 0 999 := p25.2.2.1
  have e32 : x26 = (F_X8_number G w v12 h0 (0 : Int32) (99 : Int32)).1 := congrArg Prod.fst (p25.2.2.2.2.1).2
  have e33 : v23 = (F_X8_number G w v12 h0 (0 : Int32) (99 : Int32)).2 := congrArg Prod.snd (p25.2.2.2.2.1).2
  have hK : K_X8_readOne_c3 G w h0 v23 x4 x15 x26 = F_X8_readOne G w v h0 := ((kx_X8_readOne_3 (e32) (e33)).symm.trans hK)
  refine J_istore_n E [(3, .int x26), (2, .int x15), (1, .int x4), (0, .ref h0)] dX8_readOne_22 rfl (by decide) rfl ?_
  refine J_aload_n E dX8_readOne_23 3 rfl ?_
  refine J_getI E in_X8 rfl (S_X8.h S0) 10 (by decide) wd945 rfl dX8_readOne_24 (fun x34 e35 => ?_)
  have b36 : Bd x34 0 1 := Ok.fd o27 e35 (S_X8.h S0) rfl
  refine J_if_ne E 41 dX8_readOne_27 (by decide) (fun c37 => ?_) (fun c37 => ?_)
  · have b38 : Bd x34 1 1 := (Bd.ne_lo c37 b36 (Bd.lit 0 0 (by decide))).w _ _ (by decide)
    exact J_vret E hr dX8_readOne_41 ⟨o27, k28, ⟨g30, ⟨rfl, ((kx_X8_readOne_4 (e35) (c37)).symm.trans hK)⟩, f29⟩⟩
  · have b39 : Bd x34 0 0 := Bd.eq_l c37 b36 (Bd.lit 0 0 (by decide)) 0 0 (by decide)
    refine J_aload_n E dX8_readOne_30 3 rfl ?_
    refine J_sipush E 738 dX8_readOne_31 (by decide) ?_
    refine J_iload_n E dX8_readOne_34 2 rfl ?_
    refine J_iload_n E dX8_readOne_35 1 rfl ?_
    refine J_iload_n E dX8_readOne_36 0 rfl ?_
    refine J_callVI E cal_X8_join wd1015 rfl (S_X8.h S0) [.int 738, .int x4, .int x15, .int x26] [] (ct_X8_join_738 l D dA G v23 w (o27) h0 S0 x4 b9 x15 b20 x26 b31 z_0 (((((((ez_0).trans (Fr.at (p3.2.2.2.2.2) ((S_X8.f1 S0)) rfl 739).symm)).trans (Fr.at (p14.2.2.2.2.2) ((S_X8.f1 S0)) rfl 739).symm)).trans (Fr.at (p25.2.2.2.2.2) ((S_X8.f1 S0)) rfl 739).symm)) pre0) rfl rfl (Nat.le_of_ble_eq_true rfl) ⟨rfl, rfl⟩ ⟨Nat.le_of_ble_eq_true rfl, Nat.le_of_ble_eq_true rfl⟩ dX8_readOne_37 (fun x43 v40 w41 p42 => ?_)
    have ew9 : w = w41 := p42.2.2.2.1.1.symm
    subst ew9
    have o44 := p42.1
    have k45 : True := trivial
    have f46 : Fr G [8, 1084] v v40 := Fr.tr f29 (p42.2.2.2.2) (by decide)
    have g47 : Pg h0 v v40 := Pg.same g30 (Fr.at (p42.2.2.2.2) (S_X8.h S0) rfl 6) (Fr.at (p42.2.2.2.2) (S_X8.h S0) rfl 8)
    have b48 : Bd x43 0 6 := p42.2.2.1
    have e49 : x43 = (F_X8_join_738 G w v23 h0 x4 x15 x26).1 := congrArg Prod.fst (p42.2.2.2.1).2
    have e50 : v40 = (F_X8_join_738 G w v23 h0 x4 x15 x26).2 := congrArg Prod.snd (p42.2.2.2.1).2
    have hK : K_X8_readOne_c4 G w h0 v40 x43 = F_X8_readOne G w v h0 := ((kx_X8_readOne_5 (e35) (e49) (e50) (c37)).symm.trans hK)
    refine J_pop E dX8_readOne_40 rfl ?_
    exact J_vret E hr dX8_readOne_41 ⟨o44, k45, ⟨g47, ⟨rfl, ((kx_X8_readOne_6).symm.trans hK)⟩, f46⟩⟩

def K_X8_readOwn_c1 (G : Gm) (w : Mw) (h0 : Nat) (v14 : Mv) (x6 : Int32) (x8 : Int32) : Mv :=
  if (v14 h0 10) = (0 : Int32) then ((stv v14 (rf G h0 1) (Int32.toNatClampNeg ((781 : Int32) + x6)) x8)) else (v14)
def K_X8_readOwn_125 (G : Gm) (w : Mw) (h0 : Nat) (v1 : Mv) (x6 : Int32) (x8 : Int32) (x10 : Int32) : Mv :=
  K_X8_readOwn_c1 G w h0 (F_X8_due G w v1 h0 x10) x6 x8
def K_X8_readOwn_124 (G : Gm) (w : Mw) (h0 : Nat) (v42 : Mv) (x47 : Int32) (x49 : Int32) : Mv :=
  K_X8_readOwn_125 G w h0 v42 x47 x49 (0 : Int32)
def K_X8_readOwn_c2 (G : Gm) (w : Mw) (h0 : Nat) (v57 : Mv) (x52 : Int32) : Mv :=
  if (v57 h0 8) = (6 : Int32) then (if (v57 (rf G h0 1) (Int32.toNatClampNeg (738 : Int32))) ≤ (v57 h0 9) then (K_X8_readOwn_124 G w h0 v57 x52 (v57 h0 9)) else (if (F_X8_ownerOf_738_A_772 G w v57 h0 (v57 h0 9)) = (-1 : Int32) then (K_X8_readOwn_125 G w h0 v57 x52 (v57 h0 9) (1 : Int32)) else (K_X8_readOwn_124 G w h0 v57 x52 (v57 h0 9)))) else (K_X8_readOwn_124 G w h0 v57 x52 (v57 h0 9))
def K_X8_readOwn_71 (G : Gm) (w : Mw) (h0 : Nat) (v : Mv) (x52 : Int32) (x54 : Int32) : Mv :=
  K_X8_readOwn_c2 G w h0 (F_X8_due G w v h0 x54) x52
def K_X8_readOwn_70 (G : Gm) (w : Mw) (h0 : Nat) (v : Mv) (x89 : Int32) : Mv :=
  K_X8_readOwn_71 G w h0 v x89 (0 : Int32)
def K_X8_readOwn_46 (G : Gm) (w : Mw) (h0 : Nat) (v : Mv) (x91 : Int32) (x93 : Int32) : Mv :=
  if x93 = (0 : Int32) then (K_X8_readOwn_70 G w h0 v x91) else (if (v (rf G h0 1) (Int32.toNatClampNeg ((781 : Int32) + x91))) = (-1 : Int32) then (K_X8_readOwn_71 G w h0 v x91 (1 : Int32)) else (K_X8_readOwn_70 G w h0 v x91))
def K_X8_readOwn_45 (G : Gm) (w : Mw) (h0 : Nat) (v : Mv) (x109 : Int32) : Mv :=
  K_X8_readOwn_46 G w h0 v x109 (0 : Int32)
def K_X8_readOwn_e (G : Gm) (w : Mw) (v : Mv) (h0 : Nat) : Mv :=
  if (v h0 8) = (6 : Int32) then (if (v (rf G h0 1) (Int32.toNatClampNeg (739 : Int32))) ≤ (v h0 9) then (K_X8_readOwn_45 G w h0 v (v h0 9)) else (if (F_X8_has G w v (v (rf G h0 1) (Int32.toNatClampNeg (773 : Int32))) (v h0 9)) = (0 : Int32) then (K_X8_readOwn_46 G w h0 v (v h0 9) (1 : Int32)) else (K_X8_readOwn_45 G w h0 v (v h0 9)))) else (K_X8_readOwn_45 G w h0 v (v h0 9))
def F_X8_readOwn (G : Gm) (w : Mw) (v : Mv) (h0 : Nat) : Mv := K_X8_readOwn_e G w v h0
set_option maxRecDepth 100000 in
theorem kx_X8_readOwn_1 {G : Gm} {w : Mw} {h0 : Nat} {v1 : Mv} {x6 : Int32} {x8 : Int32} {x10 : Int32} {v14 : Mv} (a0 : v14 = F_X8_due G w v1 h0 x10)  : K_X8_readOwn_125 G w h0 v1 x6 x8 x10 = K_X8_readOwn_c1 G w h0 v14 x6 x8 := by
  subst a0; first | rw [K_X8_readOwn_125] | simp only [K_X8_readOwn_125]
set_option maxRecDepth 100000 in
theorem kx_X8_readOwn_2 {G : Gm} {w : Mw} {h0 : Nat} {v14 : Mv} {x6 : Int32} {x8 : Int32} {x23 : Int32} (a0 : x23 = v14 h0 10) (k0 : ¬ (x23 = (0 : Int32))) : K_X8_readOwn_c1 G w h0 v14 x6 x8 = v14 := by
  subst a0; first | rw [K_X8_readOwn_c1, if_neg k0] | simp only [K_X8_readOwn_c1, if_neg k0]
set_option maxRecDepth 100000 in
theorem kx_X8_readOwn_3 {G : Gm} {w : Mw} {h0 : Nat} {v14 : Mv} {x6 : Int32} {x8 : Int32} {v35 : Mv} {x32 : Int32} {x23 : Int32} (a0 : x23 = v14 h0 10) (a1 : x32 = (781 : Int32) + x6) (a2 : v35 = stv v14 (rf G h0 1) (Int32.toNatClampNeg x32) x8) (k0 : x23 = (0 : Int32)) : K_X8_readOwn_c1 G w h0 v14 x6 x8 = v35 := by
  subst a2; subst a1; subst a0; first | rw [K_X8_readOwn_c1, if_pos k0] | simp only [K_X8_readOwn_c1, if_pos k0]
set_option maxRecDepth 100000 in
theorem kx_X8_readOwn_4 {G : Gm} {w : Mw} {h0 : Nat} {v42 : Mv} {x47 : Int32} {x49 : Int32}   : K_X8_readOwn_124 G w h0 v42 x47 x49 = K_X8_readOwn_125 G w h0 v42 x47 x49 (0 : Int32) := by
  first | rw [K_X8_readOwn_124] | simp only [K_X8_readOwn_124]
set_option maxRecDepth 100000 in
theorem kx_X8_readOwn_5 {G : Gm} {w : Mw} {h0 : Nat} {v : Mv} {x52 : Int32} {x54 : Int32} {v57 : Mv} (a0 : v57 = F_X8_due G w v h0 x54)  : K_X8_readOwn_71 G w h0 v x52 x54 = K_X8_readOwn_c2 G w h0 v57 x52 := by
  subst a0; first | rw [K_X8_readOwn_71] | simp only [K_X8_readOwn_71]
set_option maxRecDepth 100000 in
theorem kx_X8_readOwn_6 {G : Gm} {w : Mw} {h0 : Nat} {v57 : Mv} {x52 : Int32} {x66 : Int32} {x69 : Int32} (a0 : x66 = v57 h0 9) (a1 : x69 = v57 h0 8) (k0 : ¬ (x69 = (6 : Int32))) : K_X8_readOwn_c2 G w h0 v57 x52 = K_X8_readOwn_124 G w h0 v57 x52 x66 := by
  subst a1; subst a0; first | rw [K_X8_readOwn_c2, if_neg k0] | simp only [K_X8_readOwn_c2, if_neg k0]
set_option maxRecDepth 100000 in
theorem kx_X8_readOwn_7 {G : Gm} {w : Mw} {h0 : Nat} {v57 : Mv} {x52 : Int32} {x66 : Int32} {x69 : Int32} {x73 : Int32} (a0 : x66 = v57 h0 9) (a1 : x69 = v57 h0 8) (a2 : x73 = v57 (rf G h0 1) (Int32.toNatClampNeg (738 : Int32))) (k0 : x69 = (6 : Int32)) (k1 : x73 ≤ x66) : K_X8_readOwn_c2 G w h0 v57 x52 = K_X8_readOwn_124 G w h0 v57 x52 x66 := by
  subst a2; subst a1; subst a0; first | rw [K_X8_readOwn_c2, if_pos k0, if_pos k1] | simp only [K_X8_readOwn_c2, if_pos k0, if_pos k1]
set_option maxRecDepth 100000 in
theorem kx_X8_readOwn_8 {G : Gm} {w : Mw} {h0 : Nat} {v57 : Mv} {x52 : Int32} {x66 : Int32} {x69 : Int32} {x73 : Int32} {x83 : Int32} (a0 : x66 = v57 h0 9) (a1 : x69 = v57 h0 8) (a2 : x73 = v57 (rf G h0 1) (Int32.toNatClampNeg (738 : Int32))) (a3 : x83 = F_X8_ownerOf_738_A_772 G w v57 h0 x66) (k0 : x69 = (6 : Int32)) (k1 : ¬ (x73 ≤ x66)) (k2 : ¬ (x83 = (-1 : Int32))) : K_X8_readOwn_c2 G w h0 v57 x52 = K_X8_readOwn_124 G w h0 v57 x52 x66 := by
  subst a3; subst a2; subst a1; subst a0; first | rw [K_X8_readOwn_c2, if_pos k0, if_neg k1, if_neg k2] | simp only [K_X8_readOwn_c2, if_pos k0, if_neg k1, if_neg k2]
set_option maxRecDepth 100000 in
theorem kx_X8_readOwn_9 {G : Gm} {w : Mw} {h0 : Nat} {v57 : Mv} {x52 : Int32} {x66 : Int32} {x69 : Int32} {x73 : Int32} {x83 : Int32} (a0 : x66 = v57 h0 9) (a1 : x69 = v57 h0 8) (a2 : x73 = v57 (rf G h0 1) (Int32.toNatClampNeg (738 : Int32))) (a3 : x83 = F_X8_ownerOf_738_A_772 G w v57 h0 x66) (k0 : x69 = (6 : Int32)) (k1 : ¬ (x73 ≤ x66)) (k2 : x83 = (-1 : Int32)) : K_X8_readOwn_c2 G w h0 v57 x52 = K_X8_readOwn_125 G w h0 v57 x52 x66 (1 : Int32) := by
  subst a3; subst a2; subst a1; subst a0; first | rw [K_X8_readOwn_c2, if_pos k0, if_neg k1, if_pos k2] | simp only [K_X8_readOwn_c2, if_pos k0, if_neg k1, if_pos k2]
set_option maxRecDepth 100000 in
theorem kx_X8_readOwn_10 {G : Gm} {w : Mw} {h0 : Nat} {v : Mv} {x89 : Int32}   : K_X8_readOwn_70 G w h0 v x89 = K_X8_readOwn_71 G w h0 v x89 (0 : Int32) := by
  first | rw [K_X8_readOwn_70] | simp only [K_X8_readOwn_70]
set_option maxRecDepth 100000 in
theorem kx_X8_readOwn_11 {G : Gm} {w : Mw} {h0 : Nat} {v : Mv} {x91 : Int32} {x93 : Int32}  (k0 : x93 = (0 : Int32)) : K_X8_readOwn_46 G w h0 v x91 x93 = K_X8_readOwn_70 G w h0 v x91 := by
  first | rw [K_X8_readOwn_46, if_pos k0] | simp only [K_X8_readOwn_46, if_pos k0]
set_option maxRecDepth 100000 in
theorem kx_X8_readOwn_12 {G : Gm} {w : Mw} {h0 : Nat} {v : Mv} {x91 : Int32} {x93 : Int32} {x100 : Int32} {x103 : Int32} (a0 : x100 = (781 : Int32) + x91) (a1 : x103 = v (rf G h0 1) (Int32.toNatClampNeg x100)) (k0 : ¬ (x93 = (0 : Int32))) (k1 : ¬ (x103 = (-1 : Int32))) : K_X8_readOwn_46 G w h0 v x91 x93 = K_X8_readOwn_70 G w h0 v x91 := by
  subst a1; subst a0; first | rw [K_X8_readOwn_46, if_neg k0, if_neg k1] | simp only [K_X8_readOwn_46, if_neg k0, if_neg k1]
set_option maxRecDepth 100000 in
theorem kx_X8_readOwn_13 {G : Gm} {w : Mw} {h0 : Nat} {v : Mv} {x91 : Int32} {x93 : Int32} {x100 : Int32} {x103 : Int32} (a0 : x100 = (781 : Int32) + x91) (a1 : x103 = v (rf G h0 1) (Int32.toNatClampNeg x100)) (k0 : ¬ (x93 = (0 : Int32))) (k1 : x103 = (-1 : Int32)) : K_X8_readOwn_46 G w h0 v x91 x93 = K_X8_readOwn_71 G w h0 v x91 (1 : Int32) := by
  subst a1; subst a0; first | rw [K_X8_readOwn_46, if_neg k0, if_pos k1] | simp only [K_X8_readOwn_46, if_neg k0, if_pos k1]
set_option maxRecDepth 100000 in
theorem kx_X8_readOwn_14 {G : Gm} {w : Mw} {h0 : Nat} {v : Mv} {x109 : Int32}   : K_X8_readOwn_45 G w h0 v x109 = K_X8_readOwn_46 G w h0 v x109 (0 : Int32) := by
  first | rw [K_X8_readOwn_45] | simp only [K_X8_readOwn_45]
set_option maxRecDepth 100000 in
theorem kx_X8_readOwn_15 {G : Gm} {w : Mw} {v : Mv} {h0 : Nat} {x111 : Int32} {x114 : Int32} (a0 : x111 = v h0 9) (a1 : x114 = v h0 8) (k0 : ¬ (x114 = (6 : Int32))) : K_X8_readOwn_e G w v h0 = K_X8_readOwn_45 G w h0 v x111 := by
  subst a1; subst a0; first | rw [K_X8_readOwn_e, if_neg k0] | simp only [K_X8_readOwn_e, if_neg k0]
set_option maxRecDepth 100000 in
theorem kx_X8_readOwn_16 {G : Gm} {w : Mw} {v : Mv} {h0 : Nat} {x111 : Int32} {x114 : Int32} {x118 : Int32} (a0 : x111 = v h0 9) (a1 : x114 = v h0 8) (a2 : x118 = v (rf G h0 1) (Int32.toNatClampNeg (739 : Int32))) (k0 : x114 = (6 : Int32)) (k1 : x118 ≤ x111) : K_X8_readOwn_e G w v h0 = K_X8_readOwn_45 G w h0 v x111 := by
  subst a2; subst a1; subst a0; first | rw [K_X8_readOwn_e, if_pos k0, if_pos k1] | simp only [K_X8_readOwn_e, if_pos k0, if_pos k1]
set_option maxRecDepth 100000 in
theorem kx_X8_readOwn_17 {G : Gm} {w : Mw} {v : Mv} {h0 : Nat} {x111 : Int32} {x125 : Int32} {x114 : Int32} {x118 : Int32} {x131 : Int32} (a0 : x111 = v h0 9) (a1 : x114 = v h0 8) (a2 : x118 = v (rf G h0 1) (Int32.toNatClampNeg (739 : Int32))) (a3 : x125 = v (rf G h0 1) (Int32.toNatClampNeg (773 : Int32))) (a4 : x131 = F_X8_has G w v x125 x111) (k0 : x114 = (6 : Int32)) (k1 : ¬ (x118 ≤ x111)) (k2 : ¬ (x131 = (0 : Int32))) : K_X8_readOwn_e G w v h0 = K_X8_readOwn_45 G w h0 v x111 := by
  subst a4; subst a3; subst a2; subst a1; subst a0; first | rw [K_X8_readOwn_e, if_pos k0, if_neg k1, if_neg k2] | simp only [K_X8_readOwn_e, if_pos k0, if_neg k1, if_neg k2]
set_option maxRecDepth 100000 in
theorem kx_X8_readOwn_18 {G : Gm} {w : Mw} {v : Mv} {h0 : Nat} {x111 : Int32} {x125 : Int32} {x114 : Int32} {x118 : Int32} {x131 : Int32} (a0 : x111 = v h0 9) (a1 : x114 = v h0 8) (a2 : x118 = v (rf G h0 1) (Int32.toNatClampNeg (739 : Int32))) (a3 : x125 = v (rf G h0 1) (Int32.toNatClampNeg (773 : Int32))) (a4 : x131 = F_X8_has G w v x125 x111) (k0 : x114 = (6 : Int32)) (k1 : ¬ (x118 ≤ x111)) (k2 : x131 = (0 : Int32)) : K_X8_readOwn_e G w v h0 = K_X8_readOwn_46 G w h0 v x111 (1 : Int32) := by
  subst a4; subst a3; subst a2; subst a1; subst a0; first | rw [K_X8_readOwn_e, if_pos k0, if_neg k1, if_pos k2] | simp only [K_X8_readOwn_e, if_pos k0, if_neg k1, if_pos k2]
abbrev rm_X8_readOwn : Room := { frames := 4, cells := 0, slots := 0, locals := 90 }
set_option maxHeartbeats 4000000 in
set_option maxRecDepth 100000 in
theorem ct_X8_readOwn (l : Launch) (D : va_G) (dA : Nat → ClassId) (G : Gm) (v : Mv) (w : Mw) (hOk : Ok G v w) (h0 : Nat) (S0 : S_X8 G h0) : CtV l yX8_readOwn cX8_readOwn 4 none rm_X8_readOwn D dA G [.ref h0] v w (fun v1 w1 => Ok G v1 w1 ∧ Kp G v v1 ∧ Pg h0 v v1 ∧ (w1 = w ∧ v1 = F_X8_readOwn G w v h0) ∧ Fr G [8, 1084] v v1) := by
  refine CtV.of RX8 [(0, .ref h0)] (Nat.le_of_ble_eq_true rfl) rfl (by decide) rfl ?_
  intro p e s m args below meth c E hr
  have J125 : ∀ (v1 : Mv), Ok G v1 w → Kp G v v1 → Fr G [8, 1084] v v1 → Pg h0 v v1 → ∀ x6 : Int32, Bd x6 0 999 → ∀ x8 : Int32, Bd x8 0 999 → ∀ x10 : Int32, Bd x10 0 1 → (x10 = 0 ∨ Bd x8 0 6) → (¬ v1 h0 10 = 0 ∨ Bd x6 0 6) → K_X8_readOwn_125 G w h0 v1 x6 x8 x10 = F_X8_readOwn G w v h0 → J p l e rm_X8_readOwn s m args below meth c 0 0 (MQ below (QcV D dA G (fun v1 w1 => Ok G v1 w1 ∧ Kp G v v1 ∧ Pg h0 v v1 ∧ (w1 = w ∧ v1 = F_X8_readOwn G w v h0) ∧ Fr G [8, 1084] v v1)) args s 0 0 (dm G)) D dA G (dm G) s.heap 4 v1 w [(0, .ref h0), (1, .int x6), (3, .int x8)] 125 [.int x10, .ref h0] := by
    intro v1 o2 k3 f4 g5 x6 b7 x8 b9 x10 b11 h12 h13 hK
    refine J_callVV E cal_X8_due wd1051 rfl (S_X8.h S0) [.int x10] [] (ct_X8_due l D dA G v1 w (o2) h0 S0 x10 b11) rfl rfl (Nat.le_of_ble_eq_true rfl) ⟨rfl, rfl⟩ ⟨Nat.le_of_ble_eq_true rfl, Nat.le_of_ble_eq_true rfl⟩ dX8_readOwn_125 (fun v14 w15 p16 => ?_)
    have ew9 : w = w15 := p16.2.2.2.2.1.1.symm
    subst ew9
    have o18 := p16.1
    have k19 : Kp G v v14 := (k3).tr p16.2.1
    have f20 : Fr G [8, 1084] v v14 := Fr.tr f4 (p16.2.2.2.2.2) (by decide)
    have g21 : Pg h0 v v14 := g5.tr p16.2.2.2.1
    have e22 : v14 = F_X8_due G w v1 h0 x10 := (p16.2.2.2.2.1).2
    have hK : K_X8_readOwn_c1 G w h0 v14 x6 x8 = F_X8_readOwn G w v h0 := ((kx_X8_readOwn_1 (e22)).symm.trans hK)
    refine J_aload_n E dX8_readOwn_128 0 rfl ?_
    refine J_getI E in_X8 rfl (S_X8.h S0) 10 (by decide) wd945 rfl dX8_readOwn_129 (fun x23 e24 => ?_)
    have b25 : Bd x23 0 1 := Ok.fd o18 e24 (S_X8.h S0) rfl
    refine J_if_ne E 146 dX8_readOwn_132 (by decide) (fun c26 => ?_) (fun c26 => ?_)
    · have b27 : Bd x23 1 1 := (Bd.ne_lo c26 b25 (Bd.lit 0 0 (by decide))).w _ _ (by decide)
      exact J_vret E hr dX8_readOwn_146 ⟨o18, k19, ⟨g21, ⟨rfl, ((kx_X8_readOwn_2 (e24) (c26)).symm.trans hK)⟩, f20⟩⟩
    · have b28 : Bd x23 0 0 := Bd.eq_l c26 b25 (Bd.lit 0 0 (by decide)) 0 0 (by decide)
      have g29 := (p16.2.2.1).resolve_left (fun h9 => h9 (by rw [← e24]; exact c26))
      have b30 : Bd x8 0 6 := h12.resolve_left g29.1
      have b31 : Bd x6 0 6 := h13.resolve_left (fun h9 => h9 g29.2.1)
      refine J_aload_n E dX8_readOwn_135 0 rfl ?_
      refine J_getR E in_X8 rfl (S_X8.h S0) 1 (by decide) wd936 rfl dX8_readOwn_136 ?_
      refine J_sipush E 781 dX8_readOwn_139 (by decide) ?_
      refine J_iload_n E dX8_readOwn_142 1 rfl ?_
      refine J_iadd E dX8_readOwn_143 (fun x32 e33 => ?_)
      have b34 : Bd x32 781 787 := (Bd.add e33 (Bd.lit 781 781 (by decide)) b31 (by decide)).w _ _ (by decide)
      refine J_iload_n E dX8_readOwn_144 2 rfl ?_
      refine J_iast1 E (S_X8.f1 S0) (Bd.in b34 (by decide)) dX8_readOwn_145 (fun v35 e36 => ?_)
      have o37 : Ok G v35 w := by rw [e36]; exact Ok.sv o18 (S_X8.f1 S0) b34 b30 781 7 (by decide) (by decide +kernel)
      have k38 : Kp G v v35 := by rw [e36]; exact Kp.sv k19 (S_X8.f1 S0) b34 781 7 0 6 (by decide) (by decide +kernel)
      have f39 : Fr G [8, 1084] v v35 := Fr.st f20 e36 (S_X8.f1 S0) rfl
      have e40 : x23 = v35 h0 10 := by rw [e36, stv_a (tg_ne (S_X8.h S0) ((S_X8.f1 S0)) rfl)]; exact e24
      have g41 : Pg h0 v v35 := Pg.same g21 (by rw [e36, stv_a (tg_ne (S_X8.h S0) (S_X8.f1 S0) rfl)]) (by rw [e36, stv_a (tg_ne (S_X8.h S0) (S_X8.f1 S0) rfl)])
      exact J_vret E hr dX8_readOwn_146 ⟨o37, k38, ⟨g41, ⟨rfl, ((kx_X8_readOwn_3 (e24) (e33) (e36) (c26)).symm.trans hK)⟩, f39⟩⟩
  have J124 : ∀ (v42 : Mv), Ok G v42 w → Kp G v v42 → Fr G [8, 1084] v v42 → Pg h0 v v42 → ∀ x47 : Int32, Bd x47 0 999 → ∀ x49 : Int32, Bd x49 0 999 → (¬ v42 h0 10 = 0 ∨ Bd x47 0 6) → K_X8_readOwn_124 G w h0 v42 x47 x49 = F_X8_readOwn G w v h0 → J p l e rm_X8_readOwn s m args below meth c 0 0 (MQ below (QcV D dA G (fun v1 w1 => Ok G v1 w1 ∧ Kp G v v1 ∧ Pg h0 v v1 ∧ (w1 = w ∧ v1 = F_X8_readOwn G w v h0) ∧ Fr G [8, 1084] v v1)) args s 0 0 (dm G)) D dA G (dm G) s.heap 4 v42 w [(0, .ref h0), (1, .int x47), (3, .int x49)] 124 [.ref h0] := by
    intro v42 o43 k44 f45 g46 x47 b48 x49 b50 h51 hK
    refine J_iconst E 0 dX8_readOwn_124 (by decide) ?_
    exact J.sub [0, 1, 2] rfl (J125 v42 (o43) (k44) f45 g46 x47 b48 x49 b50 0 ((Bd.lit 0 0 (by decide)).w 0 1 (by decide)) (Or.inl rfl) h51 ((kx_X8_readOwn_4).symm.trans hK))
  have J71 : ∀ x52 : Int32, Bd x52 0 999 → ∀ x54 : Int32, Bd x54 0 1 → (x54 = 0 ∨ Bd x52 0 6) → K_X8_readOwn_71 G w h0 v x52 x54 = F_X8_readOwn G w v h0 → J p l e rm_X8_readOwn s m args below meth c 0 0 (MQ below (QcV D dA G (fun v1 w1 => Ok G v1 w1 ∧ Kp G v v1 ∧ Pg h0 v v1 ∧ (w1 = w ∧ v1 = F_X8_readOwn G w v h0) ∧ Fr G [8, 1084] v v1)) args s 0 0 (dm G)) D dA G (dm G) s.heap 4 v w [(0, .ref h0), (1, .int x52)] 71 [.int x54, .ref h0] := by
    intro x52 b53 x54 b55 h56 hK
    refine J_callVV E cal_X8_due wd1051 rfl (S_X8.h S0) [.int x54] [] (ct_X8_due l D dA G v w (hOk) h0 S0 x54 b55) rfl rfl (Nat.le_of_ble_eq_true rfl) ⟨rfl, rfl⟩ ⟨Nat.le_of_ble_eq_true rfl, Nat.le_of_ble_eq_true rfl⟩ dX8_readOwn_71 (fun v57 w58 p59 => ?_)
    have ew9 : w = w58 := p59.2.2.2.2.1.1.symm
    subst ew9
    have o61 := p59.1
    have k62 : Kp G v v57 := (Kp.rf).tr p59.2.1
    have f63 : Fr G [8, 1084] v v57 := Fr.tr Fr.rf (p59.2.2.2.2.2) (by decide)
    have g64 : Pg h0 v v57 := Pg.rf.tr p59.2.2.2.1
    have e65 : v57 = F_X8_due G w v h0 x54 := (p59.2.2.2.2.1).2
    have hK : K_X8_readOwn_c2 G w h0 v57 x52 = F_X8_readOwn G w v h0 := ((kx_X8_readOwn_5 (e65)).symm.trans hK)
    refine J_aload_n E dX8_readOwn_74 0 rfl ?_
    refine J_getI E in_X8 rfl (S_X8.h S0) 9 (by decide) wd944 rfl dX8_readOwn_75 (fun x66 e67 => ?_)
    have b68 : Bd x66 0 999 := Ok.fd o61 e67 (S_X8.h S0) rfl
    refine J_istore_n E [(3, .int x66), (0, .ref h0), (1, .int x52)] dX8_readOwn_78 rfl (by decide) rfl ?_
    refine J_aload_n E dX8_readOwn_79 1 rfl ?_
    refine J_aload_n E dX8_readOwn_80 1 rfl ?_
    refine J_getI E in_X8 rfl (S_X8.h S0) 8 (by decide) wd943 rfl dX8_readOwn_81 (fun x69 e70 => ?_)
    refine J_bipush E 6 dX8_readOwn_84 (by decide) ?_
    refine J_icmp_ne E 124 dX8_readOwn_86 (by decide) (fun c71 => ?_) (fun c71 => ?_)
    · exact J.sub [1, 2, 0] rfl (J124 v57 (o61) (k62) f63 g64 x52 b53 x66 b68 ((p59.2.2.1).imp id (fun q9 => h56.resolve_left q9.1)) ((kx_X8_readOwn_6 (e67) (e70) (c71)).symm.trans hK))
    · have b72 : Bd x69 6 6 := Bd.eq_l c71 (Bd.any x69) (Bd.lit 6 6 (by decide)) 6 6 (by decide)
      refine J_iload_n E dX8_readOwn_89 0 rfl ?_
      refine J_aload_n E dX8_readOwn_90 1 rfl ?_
      refine J_getR E in_X8 rfl (S_X8.h S0) 1 (by decide) wd936 rfl dX8_readOwn_91 ?_
      refine J_sipush E 738 dX8_readOwn_94 (by decide) ?_
      refine J_iald1 E (S_X8.f1 S0) (Bd.in (Bd.lit 738 738 (by decide)) (by decide)) dX8_readOwn_97 (fun x73 e74 => ?_)
      have b75 : Bd x73 0 7 := Bd.e (Ok.ld o61 (S_X8.f1 S0) (Bd.lit 738 738 (by decide)) 738 1 0 7 (by decide) (by decide +kernel)) e74
      have e76 : x73 = v57 (rf G h0 1) 738 := by rw [e74, Bd.ix (Bd.lit 738 738 (by decide)) 738 rfl]
      refine J_icmp_ge E 124 dX8_readOwn_98 (by decide) (fun c77 => ?_) (fun c77 => ?_)
      · exact J.sub [1, 2, 0] rfl (J124 v57 (o61) (k62) f63 g64 x52 b53 x66 b68 ((p59.2.2.1).imp id (fun q9 => h56.resolve_left q9.1)) ((kx_X8_readOwn_7 (e67) (e70) (e74) (c71) (c77)).symm.trans hK))
      · have b78 : Bd x66 0 6 := Bd.lt_l (nle c77) b68 b75 6 (by decide)
        have b79 : Bd x73 1 7 := Bd.lt_r (nle c77) b68 b75 1 (by decide)
        refine J_aload_n E dX8_readOwn_101 1 rfl ?_
        refine J_sipush E 738 dX8_readOwn_102 (by decide) ?_
        refine J_aload_n E dX8_readOwn_105 1 rfl ?_
        refine J_getR E in_X8 rfl (S_X8.h S0) 1 (by decide) wd936 rfl dX8_readOwn_106 ?_
        refine J_sipush E 772 dX8_readOwn_109 (by decide) ?_
        refine J_iload_n E dX8_readOwn_112 0 rfl ?_
        refine J_callVI E cal_X8_ownerOf wd1078 rfl (S_X8.h S0) [.int 738, .ref (rf G h0 1), .int 772, .int x66] [.ref h0] (ct_X8_ownerOf_738_A_772 l D dA G v57 w (o61) h0 S0 x66 b78) rfl rfl (Nat.le_of_ble_eq_true rfl) ⟨rfl, rfl⟩ ⟨Nat.le_of_ble_eq_true rfl, Nat.le_of_ble_eq_true rfl⟩ dX8_readOwn_113 (fun x83 v80 w81 p82 => ?_)
        rw [p82.1, p82.2.1]
        have b84 : Bd x83 (-1) 6 := p82.2.2.1
        have e85 : x83 = F_X8_ownerOf_738_A_772 G w v57 h0 x66 := (p82.2.2.2)
        refine J_iconst E (-1) dX8_readOwn_116 (by decide) ?_
        refine J_icmp_ne E 124 dX8_readOwn_117 (by decide) (fun c86 => ?_) (fun c86 => ?_)
        · have b87 : Bd x83 0 6 := (Bd.ne_lo c86 b84 (Bd.lit (-1) (-1) (by decide))).w _ _ (by decide)
          exact J.sub [1, 2, 0] rfl (J124 v57 (o61) (k62) f63 g64 x52 b53 x66 (b78.w 0 999 (by decide)) ((p59.2.2.1).imp id (fun q9 => h56.resolve_left q9.1)) ((kx_X8_readOwn_8 (e67) (e70) (e74) (e85) (c71) (c77) (c86)).symm.trans hK))
        · have b88 : Bd x83 (-1) (-1) := Bd.eq_l c86 b84 (Bd.lit (-1) (-1) (by decide)) (-1) (-1) (by decide)
          refine J_iconst E 1 dX8_readOwn_120 (by decide) ?_
          refine J_goto E 125 dX8_readOwn_121 (by decide) ?_
          exact J.sub [1, 2, 0] rfl (J125 v57 (o61) (k62) f63 g64 x52 b53 x66 (b78.w 0 999 (by decide)) 1 ((Bd.lit 1 1 (by decide)).w 0 1 (by decide)) (Or.inr b78) ((p59.2.2.1).imp id (fun q9 => h56.resolve_left q9.1)) ((kx_X8_readOwn_9 (e67) (e70) (e74) (e85) (c71) (c77) (c86)).symm.trans hK))
  have J70 : ∀ x89 : Int32, Bd x89 0 999 → K_X8_readOwn_70 G w h0 v x89 = F_X8_readOwn G w v h0 → J p l e rm_X8_readOwn s m args below meth c 0 0 (MQ below (QcV D dA G (fun v1 w1 => Ok G v1 w1 ∧ Kp G v v1 ∧ Pg h0 v v1 ∧ (w1 = w ∧ v1 = F_X8_readOwn G w v h0) ∧ Fr G [8, 1084] v v1)) args s 0 0 (dm G)) D dA G (dm G) s.heap 4 v w [(0, .ref h0), (1, .int x89)] 70 [.ref h0] := by
    intro x89 b90 hK
    refine J_iconst E 0 dX8_readOwn_70 (by decide) ?_
    exact J.sub [0, 1] rfl (J71 x89 b90 0 ((Bd.lit 0 0 (by decide)).w 0 1 (by decide)) (Or.inl rfl) ((kx_X8_readOwn_10).symm.trans hK))
  have J46 : ∀ x91 : Int32, Bd x91 0 999 → ∀ x93 : Int32, Bd x93 0 1 → (x93 = 0 ∨ Bd x91 0 6) → K_X8_readOwn_46 G w h0 v x91 x93 = F_X8_readOwn G w v h0 → J p l e rm_X8_readOwn s m args below meth c 0 0 (MQ below (QcV D dA G (fun v1 w1 => Ok G v1 w1 ∧ Kp G v v1 ∧ Pg h0 v v1 ∧ (w1 = w ∧ v1 = F_X8_readOwn G w v h0) ∧ Fr G [8, 1084] v v1)) args s 0 0 (dm G)) D dA G (dm G) s.heap 4 v w [(0, .ref h0), (1, .int x91)] 46 [.int x93] := by
    intro x91 b92 x93 b94 h95 hK
    refine J_istore_n E [(2, .int x93), (0, .ref h0), (1, .int x91)] dX8_readOwn_46 rfl (by decide) rfl ?_
    refine J_aload_n E dX8_readOwn_47 1 rfl ?_
    refine J_iload_n E dX8_readOwn_48 0 rfl ?_
    refine J_if_eq E 70 dX8_readOwn_49 (by decide) (fun c96 => ?_) (fun c96 => ?_)
    · have b97 : Bd x93 0 0 := Bd.eq_l c96 b94 (Bd.lit 0 0 (by decide)) 0 0 (by decide)
      exact J.sub [1, 2] rfl (J70 x91 b92 ((kx_X8_readOwn_11 (c96)).symm.trans hK))
    · have b98 : Bd x93 1 1 := (Bd.ne_lo c96 b94 (Bd.lit 0 0 (by decide))).w _ _ (by decide)
      have b99 : Bd x91 0 6 := h95.resolve_left c96
      refine J_aload_n E dX8_readOwn_52 1 rfl ?_
      refine J_getR E in_X8 rfl (S_X8.h S0) 1 (by decide) wd936 rfl dX8_readOwn_53 ?_
      refine J_sipush E 781 dX8_readOwn_56 (by decide) ?_
      refine J_iload_n E dX8_readOwn_59 2 rfl ?_
      refine J_iadd E dX8_readOwn_60 (fun x100 e101 => ?_)
      have b102 : Bd x100 781 787 := (Bd.add e101 (Bd.lit 781 781 (by decide)) b99 (by decide)).w _ _ (by decide)
      refine J_iald1 E (S_X8.f1 S0) (Bd.in b102 (by decide)) dX8_readOwn_61 (fun x103 e104 => ?_)
      have b105 : Bd x103 (-1) 6 := Bd.e (Ok.ld hOk (S_X8.f1 S0) b102 781 7 (-1) 6 (by decide) (by decide +kernel)) e104
      refine J_iconst E (-1) dX8_readOwn_62 (by decide) ?_
      refine J_icmp_ne E 70 dX8_readOwn_63 (by decide) (fun c106 => ?_) (fun c106 => ?_)
      · have b107 : Bd x103 0 6 := (Bd.ne_lo c106 b105 (Bd.lit (-1) (-1) (by decide))).w _ _ (by decide)
        exact J.sub [1, 2] rfl (J70 x91 (b99.w 0 999 (by decide)) ((kx_X8_readOwn_12 (e101) (e104) (c96) (c106)).symm.trans hK))
      · have b108 : Bd x103 (-1) (-1) := Bd.eq_l c106 b105 (Bd.lit (-1) (-1) (by decide)) (-1) (-1) (by decide)
        refine J_iconst E 1 dX8_readOwn_66 (by decide) ?_
        refine J_goto E 71 dX8_readOwn_67 (by decide) ?_
        exact J.sub [1, 2] rfl (J71 x91 (b99.w 0 999 (by decide)) 1 ((Bd.lit 1 1 (by decide)).w 0 1 (by decide)) (Or.inr b99) ((kx_X8_readOwn_13 (e101) (e104) (c96) (c106)).symm.trans hK))
  have J45 : ∀ x109 : Int32, Bd x109 0 999 → K_X8_readOwn_45 G w h0 v x109 = F_X8_readOwn G w v h0 → J p l e rm_X8_readOwn s m args below meth c 0 0 (MQ below (QcV D dA G (fun v1 w1 => Ok G v1 w1 ∧ Kp G v v1 ∧ Pg h0 v v1 ∧ (w1 = w ∧ v1 = F_X8_readOwn G w v h0) ∧ Fr G [8, 1084] v v1)) args s 0 0 (dm G)) D dA G (dm G) s.heap 4 v w [(0, .ref h0), (1, .int x109)] 45 [] := by
    intro x109 b110 hK
    refine J_iconst E 0 dX8_readOwn_45 (by decide) ?_
    exact J.sub [0, 1] rfl (J46 x109 b110 0 ((Bd.lit 0 0 (by decide)).w 0 1 (by decide)) (Or.inl rfl) ((kx_X8_readOwn_14).symm.trans hK))
  have hK : K_X8_readOwn_e G w v h0 = F_X8_readOwn G w v h0 := rfl
  refine J_aload_n E dX8_readOwn_0 0 rfl ?_
  refine J_getI E in_X8 rfl (S_X8.h S0) 9 (by decide) wd944 rfl dX8_readOwn_1 (fun x111 e112 => ?_)
  have b113 : Bd x111 0 999 := Ok.fd hOk e112 (S_X8.h S0) rfl
  refine J_istore_n E [(1, .int x111), (0, .ref h0)] dX8_readOwn_4 rfl (by decide) rfl ?_
  refine J_aload_n E dX8_readOwn_5 1 rfl ?_
  refine J_getI E in_X8 rfl (S_X8.h S0) 8 (by decide) wd943 rfl dX8_readOwn_6 (fun x114 e115 => ?_)
  refine J_bipush E 6 dX8_readOwn_9 (by decide) ?_
  refine J_icmp_ne E 45 dX8_readOwn_11 (by decide) (fun c116 => ?_) (fun c116 => ?_)
  · exact J.sub [1, 0] rfl (J45 x111 b113 ((kx_X8_readOwn_15 (e112) (e115) (c116)).symm.trans hK))
  · have b117 : Bd x114 6 6 := Bd.eq_l c116 (Bd.any x114) (Bd.lit 6 6 (by decide)) 6 6 (by decide)
    refine J_iload_n E dX8_readOwn_14 0 rfl ?_
    refine J_aload_n E dX8_readOwn_15 1 rfl ?_
    refine J_getR E in_X8 rfl (S_X8.h S0) 1 (by decide) wd936 rfl dX8_readOwn_16 ?_
    refine J_sipush E 739 dX8_readOwn_19 (by decide) ?_
    refine J_iald1 E (S_X8.f1 S0) (Bd.in (Bd.lit 739 739 (by decide)) (by decide)) dX8_readOwn_22 (fun x118 e119 => ?_)
    have b120 : Bd x118 0 7 := Bd.e (Ok.ld hOk (S_X8.f1 S0) (Bd.lit 739 739 (by decide)) 739 1 0 7 (by decide) (by decide +kernel)) e119
    have e121 : x118 = v (rf G h0 1) 739 := by rw [e119, Bd.ix (Bd.lit 739 739 (by decide)) 739 rfl]
    refine J_icmp_ge E 45 dX8_readOwn_23 (by decide) (fun c122 => ?_) (fun c122 => ?_)
    · exact J.sub [1, 0] rfl (J45 x111 b113 ((kx_X8_readOwn_16 (e112) (e115) (e119) (c116) (c122)).symm.trans hK))
    · have b123 : Bd x111 0 6 := Bd.lt_l (nle c122) b113 b120 6 (by decide)
      have b124 : Bd x118 1 7 := Bd.lt_r (nle c122) b113 b120 1 (by decide)
      refine J_aload_n E dX8_readOwn_26 1 rfl ?_
      refine J_getR E in_X8 rfl (S_X8.h S0) 1 (by decide) wd936 rfl dX8_readOwn_27 ?_
      refine J_sipush E 773 dX8_readOwn_30 (by decide) ?_
      refine J_iald1 E (S_X8.f1 S0) (Bd.in (Bd.lit 773 773 (by decide)) (by decide)) dX8_readOwn_33 (fun x125 e126 => ?_)
      have e127 : x125 = v (rf G h0 1) 773 := by rw [e126, Bd.ix (Bd.lit 773 773 (by decide)) 773 rfl]
      refine J_iload_n E dX8_readOwn_34 0 rfl ?_
      refine J_callSI E cal_X8_has wd1075 [.int x125, .int x111] [] (ct_X8_has l D dA G v w (hOk) x125 x111 (b123.w 0 9 (by decide))) rfl rfl (Nat.le_of_ble_eq_true rfl) ⟨rfl, rfl⟩ ⟨Nat.le_of_ble_eq_true rfl, Nat.le_of_ble_eq_true rfl⟩ dX8_readOwn_35 (fun x131 v128 w129 p130 => ?_)
      rw [p130.1, p130.2.1]
      have b132 : Bd x131 0 1 := p130.2.2.1
      have e133 : x131 = F_X8_has G w v x125 x111 := (p130.2.2.2)
      refine J_if_ne E 45 dX8_readOwn_38 (by decide) (fun c134 => ?_) (fun c134 => ?_)
      · have b135 : Bd x131 1 1 := (Bd.ne_lo c134 b132 (Bd.lit 0 0 (by decide))).w _ _ (by decide)
        exact J.sub [1, 0] rfl (J45 x111 (b123.w 0 999 (by decide)) ((kx_X8_readOwn_17 (e112) (e115) (e119) (e126) (e133) (c116) (c122) (c134)).symm.trans hK))
      · have b136 : Bd x131 0 0 := Bd.eq_l c134 b132 (Bd.lit 0 0 (by decide)) 0 0 (by decide)
        refine J_iconst E 1 dX8_readOwn_41 (by decide) ?_
        refine J_goto E 46 dX8_readOwn_42 (by decide) ?_
        exact J.sub [1, 0] rfl (J46 x111 (b123.w 0 999 (by decide)) 1 ((Bd.lit 1 1 (by decide)).w 0 1 (by decide)) (Or.inr b123) ((kx_X8_readOwn_18 (e112) (e115) (e119) (e126) (e133) (c116) (c122) (c134)).symm.trans hK))

def K_X8_readLeave_c1 (G : Gm) (w : Mw) (h0 : Nat) (v6 : Mv) (x1 : Int32) : Mv :=
  if (v6 h0 10) = (0 : Int32) then ((stv v6 (rf G h0 1) (Int32.toNatClampNeg ((781 : Int32) + x1)) (-1 : Int32))) else (v6)
def K_X8_readLeave_46 (G : Gm) (w : Mw) (h0 : Nat) (v : Mv) (x1 : Int32) (x3 : Int32) : Mv :=
  K_X8_readLeave_c1 G w h0 (F_X8_due G w v h0 x3) x1
def K_X8_readLeave_45 (G : Gm) (w : Mw) (h0 : Nat) (v : Mv) (x33 : Int32) : Mv :=
  K_X8_readLeave_46 G w h0 v x33 (0 : Int32)
def K_X8_readLeave_e (G : Gm) (w : Mw) (v : Mv) (h0 : Nat) : Mv :=
  if (v h0 8) = (6 : Int32) then (if (v (rf G h0 1) (Int32.toNatClampNeg (739 : Int32))) ≤ (v h0 9) then (K_X8_readLeave_45 G w h0 v (v h0 9)) else (if (v (rf G h0 1) (Int32.toNatClampNeg ((781 : Int32) + (v h0 9)))) = (-1 : Int32) then (K_X8_readLeave_45 G w h0 v (v h0 9)) else (K_X8_readLeave_46 G w h0 v (v h0 9) (1 : Int32)))) else (K_X8_readLeave_45 G w h0 v (v h0 9))
def F_X8_readLeave (G : Gm) (w : Mw) (v : Mv) (h0 : Nat) : Mv := K_X8_readLeave_e G w v h0
set_option maxRecDepth 100000 in
theorem kx_X8_readLeave_1 {G : Gm} {w : Mw} {h0 : Nat} {v : Mv} {x1 : Int32} {x3 : Int32} {v6 : Mv} (a0 : v6 = F_X8_due G w v h0 x3)  : K_X8_readLeave_46 G w h0 v x1 x3 = K_X8_readLeave_c1 G w h0 v6 x1 := by
  subst a0; first | rw [K_X8_readLeave_46] | simp only [K_X8_readLeave_46]
set_option maxRecDepth 100000 in
theorem kx_X8_readLeave_2 {G : Gm} {w : Mw} {h0 : Nat} {v6 : Mv} {x1 : Int32} {x15 : Int32} (a0 : x15 = v6 h0 10) (k0 : ¬ (x15 = (0 : Int32))) : K_X8_readLeave_c1 G w h0 v6 x1 = v6 := by
  subst a0; first | rw [K_X8_readLeave_c1, if_neg k0] | simp only [K_X8_readLeave_c1, if_neg k0]
set_option maxRecDepth 100000 in
theorem kx_X8_readLeave_3 {G : Gm} {w : Mw} {h0 : Nat} {v6 : Mv} {x1 : Int32} {v26 : Mv} {x23 : Int32} {x15 : Int32} (a0 : x15 = v6 h0 10) (a1 : x23 = (781 : Int32) + x1) (a2 : v26 = stv v6 (rf G h0 1) (Int32.toNatClampNeg x23) (-1 : Int32)) (k0 : x15 = (0 : Int32)) : K_X8_readLeave_c1 G w h0 v6 x1 = v26 := by
  subst a2; subst a1; subst a0; first | rw [K_X8_readLeave_c1, if_pos k0] | simp only [K_X8_readLeave_c1, if_pos k0]
set_option maxRecDepth 100000 in
theorem kx_X8_readLeave_4 {G : Gm} {w : Mw} {h0 : Nat} {v : Mv} {x33 : Int32}   : K_X8_readLeave_45 G w h0 v x33 = K_X8_readLeave_46 G w h0 v x33 (0 : Int32) := by
  first | rw [K_X8_readLeave_45] | simp only [K_X8_readLeave_45]
set_option maxRecDepth 100000 in
theorem kx_X8_readLeave_5 {G : Gm} {w : Mw} {v : Mv} {h0 : Nat} {x35 : Int32} {x38 : Int32} (a0 : x35 = v h0 9) (a1 : x38 = v h0 8) (k0 : ¬ (x38 = (6 : Int32))) : K_X8_readLeave_e G w v h0 = K_X8_readLeave_45 G w h0 v x35 := by
  subst a1; subst a0; first | rw [K_X8_readLeave_e, if_neg k0] | simp only [K_X8_readLeave_e, if_neg k0]
set_option maxRecDepth 100000 in
theorem kx_X8_readLeave_6 {G : Gm} {w : Mw} {v : Mv} {h0 : Nat} {x35 : Int32} {x38 : Int32} {x42 : Int32} (a0 : x35 = v h0 9) (a1 : x38 = v h0 8) (a2 : x42 = v (rf G h0 1) (Int32.toNatClampNeg (739 : Int32))) (k0 : x38 = (6 : Int32)) (k1 : x42 ≤ x35) : K_X8_readLeave_e G w v h0 = K_X8_readLeave_45 G w h0 v x35 := by
  subst a2; subst a1; subst a0; first | rw [K_X8_readLeave_e, if_pos k0, if_pos k1] | simp only [K_X8_readLeave_e, if_pos k0, if_pos k1]
set_option maxRecDepth 100000 in
theorem kx_X8_readLeave_7 {G : Gm} {w : Mw} {v : Mv} {h0 : Nat} {x35 : Int32} {x49 : Int32} {x38 : Int32} {x42 : Int32} {x52 : Int32} (a0 : x35 = v h0 9) (a1 : x38 = v h0 8) (a2 : x42 = v (rf G h0 1) (Int32.toNatClampNeg (739 : Int32))) (a3 : x49 = (781 : Int32) + x35) (a4 : x52 = v (rf G h0 1) (Int32.toNatClampNeg x49)) (k0 : x38 = (6 : Int32)) (k1 : ¬ (x42 ≤ x35)) (k2 : x52 = (-1 : Int32)) : K_X8_readLeave_e G w v h0 = K_X8_readLeave_45 G w h0 v x35 := by
  subst a4; subst a3; subst a2; subst a1; subst a0; first | rw [K_X8_readLeave_e, if_pos k0, if_neg k1, if_pos k2] | simp only [K_X8_readLeave_e, if_pos k0, if_neg k1, if_pos k2]
set_option maxRecDepth 100000 in
theorem kx_X8_readLeave_8 {G : Gm} {w : Mw} {v : Mv} {h0 : Nat} {x35 : Int32} {x49 : Int32} {x38 : Int32} {x42 : Int32} {x52 : Int32} (a0 : x35 = v h0 9) (a1 : x38 = v h0 8) (a2 : x42 = v (rf G h0 1) (Int32.toNatClampNeg (739 : Int32))) (a3 : x49 = (781 : Int32) + x35) (a4 : x52 = v (rf G h0 1) (Int32.toNatClampNeg x49)) (k0 : x38 = (6 : Int32)) (k1 : ¬ (x42 ≤ x35)) (k2 : ¬ (x52 = (-1 : Int32))) : K_X8_readLeave_e G w v h0 = K_X8_readLeave_46 G w h0 v x35 (1 : Int32) := by
  subst a4; subst a3; subst a2; subst a1; subst a0; first | rw [K_X8_readLeave_e, if_pos k0, if_neg k1, if_neg k2] | simp only [K_X8_readLeave_e, if_pos k0, if_neg k1, if_neg k2]
abbrev rm_X8_readLeave : Room := { frames := 4, cells := 0, slots := 0, locals := 90 }
set_option maxHeartbeats 4000000 in
set_option maxRecDepth 100000 in
theorem ct_X8_readLeave (l : Launch) (D : va_G) (dA : Nat → ClassId) (G : Gm) (v : Mv) (w : Mw) (hOk : Ok G v w) (h0 : Nat) (S0 : S_X8 G h0) : CtV l yX8_readLeave cX8_readLeave 2 none rm_X8_readLeave D dA G [.ref h0] v w (fun v1 w1 => Ok G v1 w1 ∧ Kp G v v1 ∧ Pg h0 v v1 ∧ (w1 = w ∧ v1 = F_X8_readLeave G w v h0) ∧ Fr G [8, 1084] v v1) := by
  refine CtV.of RX8 [(0, .ref h0)] (Nat.le_of_ble_eq_true rfl) rfl (by decide) rfl ?_
  intro p e s m args below meth c E hr
  have J46 : ∀ x1 : Int32, Bd x1 0 999 → ∀ x3 : Int32, Bd x3 0 1 → (x3 = 0 ∨ Bd x1 0 6) → K_X8_readLeave_46 G w h0 v x1 x3 = F_X8_readLeave G w v h0 → J p l e rm_X8_readLeave s m args below meth c 0 0 (MQ below (QcV D dA G (fun v1 w1 => Ok G v1 w1 ∧ Kp G v v1 ∧ Pg h0 v v1 ∧ (w1 = w ∧ v1 = F_X8_readLeave G w v h0) ∧ Fr G [8, 1084] v v1)) args s 0 0 (dm G)) D dA G (dm G) s.heap 2 v w [(0, .ref h0), (1, .int x1)] 46 [.int x3, .ref h0] := by
    intro x1 b2 x3 b4 h5 hK
    refine J_callVV E cal_X8_due wd1051 rfl (S_X8.h S0) [.int x3] [] (ct_X8_due l D dA G v w (hOk) h0 S0 x3 b4) rfl rfl (Nat.le_of_ble_eq_true rfl) ⟨rfl, rfl⟩ ⟨Nat.le_of_ble_eq_true rfl, Nat.le_of_ble_eq_true rfl⟩ dX8_readLeave_46 (fun v6 w7 p8 => ?_)
    have ew9 : w = w7 := p8.2.2.2.2.1.1.symm
    subst ew9
    have o10 := p8.1
    have k11 : Kp G v v6 := (Kp.rf).tr p8.2.1
    have f12 : Fr G [8, 1084] v v6 := Fr.tr Fr.rf (p8.2.2.2.2.2) (by decide)
    have g13 : Pg h0 v v6 := Pg.rf.tr p8.2.2.2.1
    have e14 : v6 = F_X8_due G w v h0 x3 := (p8.2.2.2.2.1).2
    have hK : K_X8_readLeave_c1 G w h0 v6 x1 = F_X8_readLeave G w v h0 := ((kx_X8_readLeave_1 (e14)).symm.trans hK)
    refine J_aload_n E dX8_readLeave_49 0 rfl ?_
    refine J_getI E in_X8 rfl (S_X8.h S0) 10 (by decide) wd945 rfl dX8_readLeave_50 (fun x15 e16 => ?_)
    have b17 : Bd x15 0 1 := Ok.fd o10 e16 (S_X8.h S0) rfl
    refine J_if_ne E 67 dX8_readLeave_53 (by decide) (fun c18 => ?_) (fun c18 => ?_)
    · have b19 : Bd x15 1 1 := (Bd.ne_lo c18 b17 (Bd.lit 0 0 (by decide))).w _ _ (by decide)
      exact J_vret E hr dX8_readLeave_67 ⟨o10, k11, ⟨g13, ⟨rfl, ((kx_X8_readLeave_2 (e16) (c18)).symm.trans hK)⟩, f12⟩⟩
    · have b20 : Bd x15 0 0 := Bd.eq_l c18 b17 (Bd.lit 0 0 (by decide)) 0 0 (by decide)
      have g21 := (p8.2.2.1).resolve_left (fun h9 => h9 (by rw [← e16]; exact c18))
      have b22 : Bd x1 0 6 := h5.resolve_left g21.1
      refine J_aload_n E dX8_readLeave_56 0 rfl ?_
      refine J_getR E in_X8 rfl (S_X8.h S0) 1 (by decide) wd936 rfl dX8_readLeave_57 ?_
      refine J_sipush E 781 dX8_readLeave_60 (by decide) ?_
      refine J_iload_n E dX8_readLeave_63 1 rfl ?_
      refine J_iadd E dX8_readLeave_64 (fun x23 e24 => ?_)
      have b25 : Bd x23 781 787 := (Bd.add e24 (Bd.lit 781 781 (by decide)) b22 (by decide)).w _ _ (by decide)
      refine J_iconst E (-1) dX8_readLeave_65 (by decide) ?_
      refine J_iast1 E (S_X8.f1 S0) (Bd.in b25 (by decide)) dX8_readLeave_66 (fun v26 e27 => ?_)
      have o28 : Ok G v26 w := by rw [e27]; exact Ok.sv o10 (S_X8.f1 S0) b25 (Bd.lit (-1) (-1) (by decide)) 781 7 (by decide) (by decide +kernel)
      have k29 : Kp G v v26 := by rw [e27]; exact Kp.sv k11 (S_X8.f1 S0) b25 781 7 (-1) (-1) (by decide) (by decide +kernel)
      have f30 : Fr G [8, 1084] v v26 := Fr.st f12 e27 (S_X8.f1 S0) rfl
      have e31 : x15 = v26 h0 10 := by rw [e27, stv_a (tg_ne (S_X8.h S0) ((S_X8.f1 S0)) rfl)]; exact e16
      have g32 : Pg h0 v v26 := Pg.same g13 (by rw [e27, stv_a (tg_ne (S_X8.h S0) (S_X8.f1 S0) rfl)]) (by rw [e27, stv_a (tg_ne (S_X8.h S0) (S_X8.f1 S0) rfl)])
      exact J_vret E hr dX8_readLeave_67 ⟨o28, k29, ⟨g32, ⟨rfl, ((kx_X8_readLeave_3 (e16) (e24) (e27) (c18)).symm.trans hK)⟩, f30⟩⟩
  have J45 : ∀ x33 : Int32, Bd x33 0 999 → K_X8_readLeave_45 G w h0 v x33 = F_X8_readLeave G w v h0 → J p l e rm_X8_readLeave s m args below meth c 0 0 (MQ below (QcV D dA G (fun v1 w1 => Ok G v1 w1 ∧ Kp G v v1 ∧ Pg h0 v v1 ∧ (w1 = w ∧ v1 = F_X8_readLeave G w v h0) ∧ Fr G [8, 1084] v v1)) args s 0 0 (dm G)) D dA G (dm G) s.heap 2 v w [(0, .ref h0), (1, .int x33)] 45 [.ref h0] := by
    intro x33 b34 hK
    refine J_iconst E 0 dX8_readLeave_45 (by decide) ?_
    exact J.sub [0, 1] rfl (J46 x33 b34 0 ((Bd.lit 0 0 (by decide)).w 0 1 (by decide)) (Or.inl rfl) ((kx_X8_readLeave_4).symm.trans hK))
  have hK : K_X8_readLeave_e G w v h0 = F_X8_readLeave G w v h0 := rfl
  refine J_aload_n E dX8_readLeave_0 0 rfl ?_
  refine J_getI E in_X8 rfl (S_X8.h S0) 9 (by decide) wd944 rfl dX8_readLeave_1 (fun x35 e36 => ?_)
  have b37 : Bd x35 0 999 := Ok.fd hOk e36 (S_X8.h S0) rfl
  refine J_istore_n E [(1, .int x35), (0, .ref h0)] dX8_readLeave_4 rfl (by decide) rfl ?_
  refine J_aload_n E dX8_readLeave_5 1 rfl ?_
  refine J_aload_n E dX8_readLeave_6 1 rfl ?_
  refine J_getI E in_X8 rfl (S_X8.h S0) 8 (by decide) wd943 rfl dX8_readLeave_7 (fun x38 e39 => ?_)
  refine J_bipush E 6 dX8_readLeave_10 (by decide) ?_
  refine J_icmp_ne E 45 dX8_readLeave_12 (by decide) (fun c40 => ?_) (fun c40 => ?_)
  · exact J.sub [1, 0] rfl (J45 x35 b37 ((kx_X8_readLeave_5 (e36) (e39) (c40)).symm.trans hK))
  · have b41 : Bd x38 6 6 := Bd.eq_l c40 (Bd.any x38) (Bd.lit 6 6 (by decide)) 6 6 (by decide)
    refine J_iload_n E dX8_readLeave_15 0 rfl ?_
    refine J_aload_n E dX8_readLeave_16 1 rfl ?_
    refine J_getR E in_X8 rfl (S_X8.h S0) 1 (by decide) wd936 rfl dX8_readLeave_17 ?_
    refine J_sipush E 739 dX8_readLeave_20 (by decide) ?_
    refine J_iald1 E (S_X8.f1 S0) (Bd.in (Bd.lit 739 739 (by decide)) (by decide)) dX8_readLeave_23 (fun x42 e43 => ?_)
    have b44 : Bd x42 0 7 := Bd.e (Ok.ld hOk (S_X8.f1 S0) (Bd.lit 739 739 (by decide)) 739 1 0 7 (by decide) (by decide +kernel)) e43
    have e45 : x42 = v (rf G h0 1) 739 := by rw [e43, Bd.ix (Bd.lit 739 739 (by decide)) 739 rfl]
    refine J_icmp_ge E 45 dX8_readLeave_24 (by decide) (fun c46 => ?_) (fun c46 => ?_)
    · exact J.sub [1, 0] rfl (J45 x35 b37 ((kx_X8_readLeave_6 (e36) (e39) (e43) (c40) (c46)).symm.trans hK))
    · have b47 : Bd x35 0 6 := Bd.lt_l (nle c46) b37 b44 6 (by decide)
      have b48 : Bd x42 1 7 := Bd.lt_r (nle c46) b37 b44 1 (by decide)
      refine J_aload_n E dX8_readLeave_27 1 rfl ?_
      refine J_getR E in_X8 rfl (S_X8.h S0) 1 (by decide) wd936 rfl dX8_readLeave_28 ?_
      refine J_sipush E 781 dX8_readLeave_31 (by decide) ?_
      refine J_iload_n E dX8_readLeave_34 0 rfl ?_
      refine J_iadd E dX8_readLeave_35 (fun x49 e50 => ?_)
      have b51 : Bd x49 781 787 := (Bd.add e50 (Bd.lit 781 781 (by decide)) b47 (by decide)).w _ _ (by decide)
      refine J_iald1 E (S_X8.f1 S0) (Bd.in b51 (by decide)) dX8_readLeave_36 (fun x52 e53 => ?_)
      have b54 : Bd x52 (-1) 6 := Bd.e (Ok.ld hOk (S_X8.f1 S0) b51 781 7 (-1) 6 (by decide) (by decide +kernel)) e53
      refine J_iconst E (-1) dX8_readLeave_37 (by decide) ?_
      refine J_icmp_eq E 45 dX8_readLeave_38 (by decide) (fun c55 => ?_) (fun c55 => ?_)
      · have b56 : Bd x52 (-1) (-1) := Bd.eq_l c55 b54 (Bd.lit (-1) (-1) (by decide)) (-1) (-1) (by decide)
        exact J.sub [1, 0] rfl (J45 x35 (b47.w 0 999 (by decide)) ((kx_X8_readLeave_7 (e36) (e39) (e43) (e50) (e53) (c40) (c46) (c55)).symm.trans hK))
      · have b57 : Bd x52 0 6 := (Bd.ne_lo c55 b54 (Bd.lit (-1) (-1) (by decide))).w _ _ (by decide)
        refine J_iconst E 1 dX8_readLeave_41 (by decide) ?_
        refine J_goto E 46 dX8_readLeave_42 (by decide) ?_
        exact J.sub [1, 0] rfl (J46 x35 (b47.w 0 999 (by decide)) 1 ((Bd.lit 1 1 (by decide)).w 0 1 (by decide)) (Or.inr b47) ((kx_X8_readLeave_8 (e36) (e39) (e43) (e50) (e53) (c40) (c46) (c55)).symm.trans hK))

def K_X8_readYears_c1 (G : Gm) (w : Mw) (h0 : Nat) (rec10 : Mv → Int32 → Int32 → Mv) (v25 : Mv) (x6 : Int32) (x8 : Int32) : Mv :=
  rec10 v25 x6 (x8 + (1 : Int32))
def K_X8_readYears_10 (G : Gm) (w : Mw) (h0 : Nat) : Nat → Mv → Int32 → Int32 → Mv
  | 0, _, _, _ => (fun _ _ => 0 : Mv)
  | n10 + 1, v1, x6, x8 =>
    if x6 ≤ x8 then (v1) else (if (v1 h0 10) = (0 : Int32) then (if (999 : Int32) ≤ (v1 (rf G h0 1) (Int32.toNatClampNeg (772 : Int32))) then (v1) else (K_X8_readYears_c1 G w h0 (K_X8_readYears_10 G w h0 n10) (F_X8_passOn_738_A_772 G w v1 h0) x6 x8)) else (v1))
def K_X8_readYears_c2 (G : Gm) (w : Mw) (h0 : Nat) (v37 : Mv) (x40 : Int32) : Mv :=
  K_X8_readYears_10 G w h0 1024 v37 x40 (0 : Int32)
def K_X8_readYears_e (G : Gm) (w : Mw) (v : Mv) (h0 : Nat) : Mv :=
  K_X8_readYears_c2 G w h0 ((F_X8_number G w v h0 (1 : Int32) (99 : Int32)).2) ((F_X8_number G w v h0 (1 : Int32) (99 : Int32)).1)
def F_X8_readYears (G : Gm) (w : Mw) (v : Mv) (h0 : Nat) : Mv := K_X8_readYears_e G w v h0
set_option maxRecDepth 100000 in
theorem kx_X8_readYears_1 {G : Gm} {w : Mw} {h0 : Nat} {n10 : Nat} {v1 : Mv} {x6 : Int32} {x8 : Int32}  (k0 : x6 ≤ x8) : K_X8_readYears_10 G w h0 (n10 + 1) v1 x6 x8 = v1 := by
  first | rw [K_X8_readYears_10, if_pos k0] | simp only [K_X8_readYears_10, if_pos k0]
set_option maxRecDepth 100000 in
theorem kx_X8_readYears_2 {G : Gm} {w : Mw} {h0 : Nat} {n10 : Nat} {v1 : Mv} {x6 : Int32} {x8 : Int32} {x13 : Int32} (a0 : x13 = v1 h0 10) (k0 : ¬ (x6 ≤ x8)) (k1 : ¬ (x13 = (0 : Int32))) : K_X8_readYears_10 G w h0 (n10 + 1) v1 x6 x8 = v1 := by
  subst a0; first | rw [K_X8_readYears_10, if_neg k0, if_neg k1] | simp only [K_X8_readYears_10, if_neg k0, if_neg k1]
set_option maxRecDepth 100000 in
theorem kx_X8_readYears_3 {G : Gm} {w : Mw} {h0 : Nat} {n10 : Nat} {v1 : Mv} {x6 : Int32} {x8 : Int32} {x13 : Int32} {x19 : Int32} (a0 : x13 = v1 h0 10) (a1 : x19 = v1 (rf G h0 1) (Int32.toNatClampNeg (772 : Int32))) (k0 : ¬ (x6 ≤ x8)) (k1 : x13 = (0 : Int32)) (k2 : (999 : Int32) ≤ x19) : K_X8_readYears_10 G w h0 (n10 + 1) v1 x6 x8 = v1 := by
  subst a1; subst a0; first | rw [K_X8_readYears_10, if_neg k0, if_pos k1, if_pos k2] | simp only [K_X8_readYears_10, if_neg k0, if_pos k1, if_pos k2]
set_option maxRecDepth 100000 in
theorem kx_X8_readYears_4 {G : Gm} {w : Mw} {h0 : Nat} {n10 : Nat} {v1 : Mv} {x6 : Int32} {x8 : Int32} {v25 : Mv} {x13 : Int32} {x19 : Int32} (a0 : x13 = v1 h0 10) (a1 : x19 = v1 (rf G h0 1) (Int32.toNatClampNeg (772 : Int32))) (a2 : v25 = F_X8_passOn_738_A_772 G w v1 h0) (k0 : ¬ (x6 ≤ x8)) (k1 : x13 = (0 : Int32)) (k2 : ¬ ((999 : Int32) ≤ x19)) : K_X8_readYears_10 G w h0 (n10 + 1) v1 x6 x8 = K_X8_readYears_c1 G w h0 (K_X8_readYears_10 G w h0 n10) v25 x6 x8 := by
  subst a2; subst a1; subst a0; first | rw [K_X8_readYears_10, if_neg k0, if_pos k1, if_neg k2] | simp only [K_X8_readYears_10, if_neg k0, if_pos k1, if_neg k2]
set_option maxRecDepth 100000 in
theorem kx_X8_readYears_5 {G : Gm} {w : Mw} {h0 : Nat} {rec10 : Mv → Int32 → Int32 → Mv} {v25 : Mv} {x6 : Int32} {x8 : Int32} {x34 : Int32} (a0 : x34 = x8 + (1 : Int32))  : K_X8_readYears_c1 G w h0 rec10 v25 x6 x8 = rec10 v25 x6 x34 := by
  subst a0; first | rw [K_X8_readYears_c1] | simp only [K_X8_readYears_c1]
set_option maxRecDepth 100000 in
theorem kx_X8_readYears_6 {G : Gm} {w : Mw} {v : Mv} {h0 : Nat} {v37 : Mv} {x40 : Int32} (a0 : x40 = (F_X8_number G w v h0 (1 : Int32) (99 : Int32)).1) (a1 : v37 = (F_X8_number G w v h0 (1 : Int32) (99 : Int32)).2)  : K_X8_readYears_e G w v h0 = K_X8_readYears_c2 G w h0 v37 x40 := by
  subst a1; subst a0; first | rw [K_X8_readYears_e] | simp only [K_X8_readYears_e]
set_option maxRecDepth 100000 in
theorem kx_X8_readYears_7 {G : Gm} {w : Mw} {h0 : Nat} {v37 : Mv} {x40 : Int32}   : K_X8_readYears_c2 G w h0 v37 x40 = K_X8_readYears_10 G w h0 1024 v37 x40 (0 : Int32) := by
  first | rw [K_X8_readYears_c2] | simp only [K_X8_readYears_c2]
abbrev rm_X8_readYears : Room := { frames := 5, cells := 0, slots := 0, locals := 113 }
set_option maxHeartbeats 4000000 in
set_option maxRecDepth 100000 in
theorem ct_X8_readYears (l : Launch) (D : va_G) (dA : Nat → ClassId) (G : Gm) (v : Mv) (w : Mw) (hOk : Ok G v w) (h0 : Nat) (S0 : S_X8 G h0) : CtV l yX8_readYears cX8_readYears 3 none rm_X8_readYears D dA G [.ref h0] v w (fun v1 w1 => Ok G v1 w1 ∧ Kp G v v1 ∧ Pg h0 v v1 ∧ (w1 = w ∧ v1 = F_X8_readYears G w v h0) ∧ Fr G [8, 116, 1084] v v1) := by
  refine CtV.of RX8 [(0, .ref h0)] (Nat.le_of_ble_eq_true rfl) rfl (by decide) rfl ?_
  intro p e s m args below meth c E hr
  have J10 : ∀ n10 : Nat, ∀ (v1 : Mv), Ok G v1 w → Kp G v v1 → Fr G [8, 116, 1084] v v1 → Pg h0 v v1 → ∀ x6 : Int32, Bd x6 0 999 → ∀ x8 : Int32, Bd x8 0 1023 → Mu x8 1023 n10 → K_X8_readYears_10 G w h0 n10 v1 x6 x8 = F_X8_readYears G w v h0 → J p l e rm_X8_readYears s m args below meth c 0 0 (MQ below (QcV D dA G (fun v1 w1 => Ok G v1 w1 ∧ Kp G v v1 ∧ Pg h0 v v1 ∧ (w1 = w ∧ v1 = F_X8_readYears G w v h0) ∧ Fr G [8, 116, 1084] v v1)) args s 0 0 (dm G)) D dA G (dm G) s.heap 3 v1 w [(0, .ref h0), (1, .int x6), (2, .int x8)] 10 [] := by
    intro n10
    induction n10 with
    | zero => intro v1 o2 k3 f4 g5 x6 b7 x8 b9 hm hK; exact hm.zero b9 (by decide)
    | succ n10 ih10 =>
      intro v1 o2 k3 f4 g5 x6 b7 x8 b9 hmu10 hK
      refine J_iload_n E dX8_readYears_10 2 rfl ?_
      refine J_iload_n E dX8_readYears_11 1 rfl ?_
      refine J_icmp_ge E 56 dX8_readYears_12 (by decide) (fun c10 => ?_) (fun c10 => ?_)
      · exact J_vret E hr dX8_readYears_56 ⟨o2, k3, ⟨g5, ⟨rfl, ((kx_X8_readYears_1 (c10)).symm.trans hK)⟩, f4⟩⟩
      · have b11 : Bd x8 0 998 := Bd.lt_l (nle c10) b9 b7 998 (by decide)
        have b12 : Bd x6 1 999 := Bd.lt_r (nle c10) b9 b7 1 (by decide)
        refine J_aload_n E dX8_readYears_15 0 rfl ?_
        refine J_getI E in_X8 rfl (S_X8.h S0) 10 (by decide) wd945 rfl dX8_readYears_16 (fun x13 e14 => ?_)
        have b15 : Bd x13 0 1 := Ok.fd o2 e14 (S_X8.h S0) rfl
        refine J_if_ne E 56 dX8_readYears_19 (by decide) (fun c16 => ?_) (fun c16 => ?_)
        · have b17 : Bd x13 1 1 := (Bd.ne_lo c16 b15 (Bd.lit 0 0 (by decide))).w _ _ (by decide)
          exact J_vret E hr dX8_readYears_56 ⟨o2, k3, ⟨g5, ⟨rfl, ((kx_X8_readYears_2 (e14) (c10) (c16)).symm.trans hK)⟩, f4⟩⟩
        · have b18 : Bd x13 0 0 := Bd.eq_l c16 b15 (Bd.lit 0 0 (by decide)) 0 0 (by decide)
          refine J_aload_n E dX8_readYears_22 0 rfl ?_
          refine J_getR E in_X8 rfl (S_X8.h S0) 1 (by decide) wd936 rfl dX8_readYears_23 ?_
          refine J_sipush E 772 dX8_readYears_26 (by decide) ?_
          refine J_iald1 E (S_X8.f1 S0) (Bd.in (Bd.lit 772 772 (by decide)) (by decide)) dX8_readYears_29 (fun x19 e20 => ?_)
          have e21 : x19 = v1 (rf G h0 1) 772 := by rw [e20, Bd.ix (Bd.lit 772 772 (by decide)) 772 rfl]
          refine J_sipush E 999 dX8_readYears_30 (by decide) ?_
          refine J_icmp_ge E 56 dX8_readYears_33 (by decide) (fun c22 => ?_) (fun c22 => ?_)
          · have b23 : Bd x19 999 I1 := Bd.le_r c22 (Bd.lit 999 999 (by decide)) (Bd.any x19) 999 (by decide)
            exact J_vret E hr dX8_readYears_56 ⟨o2, k3, ⟨g5, ⟨rfl, ((kx_X8_readYears_3 (e14) (e20) (c10) (c16) (c22)).symm.trans hK)⟩, f4⟩⟩
          · have b24 : Bd x19 I0 998 := Bd.lt_l (nle c22) (Bd.any x19) (Bd.lit 999 999 (by decide)) 998 (by decide)
            refine J_aload_n E dX8_readYears_36 0 rfl ?_
            refine J_sipush E 738 dX8_readYears_37 (by decide) ?_
            refine J_aload_n E dX8_readYears_40 0 rfl ?_
            refine J_getR E in_X8 rfl (S_X8.h S0) 1 (by decide) wd936 rfl dX8_readYears_41 ?_
            refine J_sipush E 772 dX8_readYears_44 (by decide) ?_
            refine J_callVV E cal_X8_passOn wd1090 rfl (S_X8.h S0) [.int 738, .ref (rf G h0 1), .int 772] [] (ct_X8_passOn_738_A_772 l D dA G v1 w (o2) h0 S0) rfl rfl (Nat.le_of_ble_eq_true rfl) ⟨rfl, rfl⟩ ⟨Nat.le_of_ble_eq_true rfl, Nat.le_of_ble_eq_true rfl⟩ dX8_readYears_47 (fun v25 w26 p27 => ?_)
            have ew9 : w = w26 := p27.2.2.1.1.symm
            subst ew9
            have o29 := p27.1
            have k30 : Kp G v v25 := (k3).tr p27.2.1
            have f31 : Fr G [8, 116, 1084] v v25 := Fr.tr f4 (p27.2.2.2) (by decide)
            have g32 : Pg h0 v v25 := Pg.same g5 (Fr.at (p27.2.2.2) (S_X8.h S0) rfl 6) (Fr.at (p27.2.2.2) (S_X8.h S0) rfl 8)
            have e33 : v25 = F_X8_passOn_738_A_772 G w v1 h0 := (p27.2.2.1).2
            have hK : K_X8_readYears_c1 G w h0 (K_X8_readYears_10 G w h0 n10) v25 x6 x8 = F_X8_readYears G w v h0 := ((kx_X8_readYears_4 (e14) (e20) (e33) (c10) (c16) (c22)).symm.trans hK)
            refine J_iinc E 2 1 (fun z => [(2, .int z), (0, .ref h0), (1, .int x6)]) dX8_readYears_50 rfl (by decide) (by decide) (fun _ => rfl) (fun x34 e35 => ?_)
            have b36 : Bd x34 1 999 := (Bd.add e35 b11 (Bd.lit 1 1 (by decide)) (by decide)).w _ _ (by decide)
            refine J_goto E 10 dX8_readYears_53 (by decide) ?_
            exact J.sub [1, 2, 0] rfl (ih10 v25 (o29) (k30) f31 g32 x6 (b12.w 0 999 (by decide)) x34 (b36.w 0 1023 (by decide)) (Mu.step hmu10 e35 b11 (Bd.lit 1 1 (by decide)) (by decide)) ((kx_X8_readYears_5 (e35)).symm.trans hK))
  have hK : K_X8_readYears_e G w v h0 = F_X8_readYears G w v h0 := rfl
  refine J_aload_n E dX8_readYears_0 0 rfl ?_
  refine J_iconst E 1 dX8_readYears_1 (by decide) ?_
  refine J_bipush E 99 dX8_readYears_2 (by decide) ?_
  refine J_callVI E cal_X8_number wd1063 rfl (S_X8.h S0) [.int 1, .int 99] [] (ct_X8_number l D dA G v w (hOk) h0 S0 1 99) rfl rfl (Nat.le_of_ble_eq_true rfl) ⟨rfl, rfl⟩ ⟨Nat.le_of_ble_eq_true rfl, Nat.le_of_ble_eq_true rfl⟩ dX8_readYears_4 (fun x40 v37 w38 p39 => ?_)
  have ew9 : w = w38 := p39.2.2.2.2.1.1.symm
  subst ew9
  have o41 := p39.1
  have k42 : Kp G v v37 := (Kp.rf).tr p39.2.1
  have f43 : Fr G [8, 116, 1084] v v37 := Fr.tr Fr.rf (p39.2.2.2.2.2) (by decide)
  have g44 : Pg h0 v v37 := Pg.rf.tr p39.2.2.2.1
  have b45 : Bd x40 0 999 := p39.2.2.1
  have e46 : x40 = (F_X8_number G w v h0 (1 : Int32) (99 : Int32)).1 := congrArg Prod.fst (p39.2.2.2.2.1).2
  have e47 : v37 = (F_X8_number G w v h0 (1 : Int32) (99 : Int32)).2 := congrArg Prod.snd (p39.2.2.2.2.1).2
  have hK : K_X8_readYears_c2 G w h0 v37 x40 = F_X8_readYears G w v h0 := ((kx_X8_readYears_6 (e46) (e47)).symm.trans hK)
  refine J_istore_n E [(1, .int x40), (0, .ref h0)] dX8_readYears_7 rfl (by decide) rfl ?_
  refine J_iconst E 0 dX8_readYears_8 (by decide) ?_
  refine J_istore_n E [(2, .int 0), (1, .int x40), (0, .ref h0)] dX8_readYears_9 rfl (by decide) rfl ?_
  exact J.sub [2, 1, 0] rfl (J10 1024 v37 (o41) (k42) f43 g44 x40 b45 0 ((Bd.lit 0 0 (by decide)).w 0 1023 (by decide)) (Mu.start _ (Bd.lit 0 0 (by decide)) (by decide)) ((kx_X8_readYears_7).symm.trans hK))

def K_X8_item_c1 (G : Gm) (w : Mw) (h0 : Nat) (v9 : Mv) : Mv :=
  v9
def K_X8_item_c2 (G : Gm) (w : Mw) (h0 : Nat) (v24 : Mv) : Mv :=
  v24
def K_X8_item_c3 (G : Gm) (w : Mw) (h0 : Nat) (v35 : Mv) : Mv :=
  v35
def K_X8_item_c4 (G : Gm) (w : Mw) (h0 : Nat) (v46 : Mv) : Mv :=
  v46
def K_X8_item_c5 (G : Gm) (w : Mw) (h0 : Nat) (v55 : Mv) : Mv :=
  v55
def K_X8_item_e (G : Gm) (w : Mw) (v : Mv) (h0 : Nat) (x_0 : Int32) : Mv :=
  if Int32.toInt x_0 = 0 then (v) else if Int32.toInt x_0 = 1 then (K_X8_item_c1 G w h0 (F_X8_readThing G w v h0)) else if Int32.toInt x_0 = 2 then (K_X8_item_c2 G w h0 (F_X8_readOne G w v h0)) else if Int32.toInt x_0 = 3 then (K_X8_item_c3 G w h0 (F_X8_readOwn G w v h0)) else if Int32.toInt x_0 = 4 then (K_X8_item_c4 G w h0 (F_X8_readLeave G w v h0)) else (K_X8_item_c5 G w h0 (F_X8_readYears G w v h0))
def F_X8_item (G : Gm) (w : Mw) (v : Mv) (h0 : Nat) (x_0 : Int32) : Mv := K_X8_item_e G w v h0 x_0
set_option maxRecDepth 100000 in
theorem kx_X8_item_1 {G : Gm} {w : Mw} {v : Mv} {h0 : Nat} {x_0 : Int32}  (k0 : Int32.toInt x_0 = 0) : K_X8_item_e G w v h0 x_0 = v := by
  first | rw [K_X8_item_e, if_pos k0] | simp only [K_X8_item_e, if_pos k0]
set_option maxRecDepth 100000 in
theorem kx_X8_item_2 {G : Gm} {w : Mw} {v : Mv} {h0 : Nat} {x_0 : Int32} {v9 : Mv} (a0 : v9 = F_X8_readThing G w v h0) (k0 : ¬ (Int32.toInt x_0 = 0)) (k1 : Int32.toInt x_0 = 1) : K_X8_item_e G w v h0 x_0 = K_X8_item_c1 G w h0 v9 := by
  subst a0; first | rw [K_X8_item_e, if_neg k0, if_pos k1] | simp only [K_X8_item_e, if_neg k0, if_pos k1]
set_option maxRecDepth 100000 in
theorem kx_X8_item_3 {G : Gm} {w : Mw} {h0 : Nat} {v9 : Mv}   : K_X8_item_c1 G w h0 v9 = v9 := by
  first | rw [K_X8_item_c1] | simp only [K_X8_item_c1]
set_option maxRecDepth 100000 in
theorem kx_X8_item_4 {G : Gm} {w : Mw} {v : Mv} {h0 : Nat} {x_0 : Int32} {v24 : Mv} (a0 : v24 = F_X8_readOne G w v h0) (k0 : ¬ (Int32.toInt x_0 = 0)) (k1 : ¬ (Int32.toInt x_0 = 1)) (k2 : Int32.toInt x_0 = 2) : K_X8_item_e G w v h0 x_0 = K_X8_item_c2 G w h0 v24 := by
  subst a0; first | rw [K_X8_item_e, if_neg k0, if_neg k1, if_pos k2] | simp only [K_X8_item_e, if_neg k0, if_neg k1, if_pos k2]
set_option maxRecDepth 100000 in
theorem kx_X8_item_5 {G : Gm} {w : Mw} {h0 : Nat} {v24 : Mv}   : K_X8_item_c2 G w h0 v24 = v24 := by
  first | rw [K_X8_item_c2] | simp only [K_X8_item_c2]
set_option maxRecDepth 100000 in
theorem kx_X8_item_6 {G : Gm} {w : Mw} {v : Mv} {h0 : Nat} {x_0 : Int32} {v35 : Mv} (a0 : v35 = F_X8_readOwn G w v h0) (k0 : ¬ (Int32.toInt x_0 = 0)) (k1 : ¬ (Int32.toInt x_0 = 1)) (k2 : ¬ (Int32.toInt x_0 = 2)) (k3 : Int32.toInt x_0 = 3) : K_X8_item_e G w v h0 x_0 = K_X8_item_c3 G w h0 v35 := by
  subst a0; first | rw [K_X8_item_e, if_neg k0, if_neg k1, if_neg k2, if_pos k3] | simp only [K_X8_item_e, if_neg k0, if_neg k1, if_neg k2, if_pos k3]
set_option maxRecDepth 100000 in
theorem kx_X8_item_7 {G : Gm} {w : Mw} {h0 : Nat} {v35 : Mv}   : K_X8_item_c3 G w h0 v35 = v35 := by
  first | rw [K_X8_item_c3] | simp only [K_X8_item_c3]
set_option maxRecDepth 100000 in
theorem kx_X8_item_8 {G : Gm} {w : Mw} {v : Mv} {h0 : Nat} {x_0 : Int32} {v46 : Mv} (a0 : v46 = F_X8_readLeave G w v h0) (k0 : ¬ (Int32.toInt x_0 = 0)) (k1 : ¬ (Int32.toInt x_0 = 1)) (k2 : ¬ (Int32.toInt x_0 = 2)) (k3 : ¬ (Int32.toInt x_0 = 3)) (k4 : Int32.toInt x_0 = 4) : K_X8_item_e G w v h0 x_0 = K_X8_item_c4 G w h0 v46 := by
  subst a0; first | rw [K_X8_item_e, if_neg k0, if_neg k1, if_neg k2, if_neg k3, if_pos k4] | simp only [K_X8_item_e, if_neg k0, if_neg k1, if_neg k2, if_neg k3, if_pos k4]
set_option maxRecDepth 100000 in
theorem kx_X8_item_9 {G : Gm} {w : Mw} {h0 : Nat} {v46 : Mv}   : K_X8_item_c4 G w h0 v46 = v46 := by
  first | rw [K_X8_item_c4] | simp only [K_X8_item_c4]
set_option maxRecDepth 100000 in
theorem kx_X8_item_10 {G : Gm} {w : Mw} {v : Mv} {h0 : Nat} {x_0 : Int32} {v55 : Mv} (a0 : v55 = F_X8_readYears G w v h0) (k0 : ¬ (Int32.toInt x_0 = 0)) (k1 : ¬ (Int32.toInt x_0 = 1)) (k2 : ¬ (Int32.toInt x_0 = 2)) (k3 : ¬ (Int32.toInt x_0 = 3)) (k4 : ¬ (Int32.toInt x_0 = 4)) : K_X8_item_e G w v h0 x_0 = K_X8_item_c5 G w h0 v55 := by
  subst a0; first | rw [K_X8_item_e, if_neg k0, if_neg k1, if_neg k2, if_neg k3, if_neg k4] | simp only [K_X8_item_e, if_neg k0, if_neg k1, if_neg k2, if_neg k3, if_neg k4]
set_option maxRecDepth 100000 in
theorem kx_X8_item_11 {G : Gm} {w : Mw} {h0 : Nat} {v55 : Mv}   : K_X8_item_c5 G w h0 v55 = v55 := by
  first | rw [K_X8_item_c5] | simp only [K_X8_item_c5]
abbrev rm_X8_item : Room := { frames := 6, cells := 0, slots := 0, locals := 136 }
set_option maxHeartbeats 4000000 in
set_option maxRecDepth 100000 in
theorem ct_X8_item (l : Launch) (D : va_G) (dA : Nat → ClassId) (G : Gm) (v : Mv) (w : Mw) (hOk : Ok G v w) (h0 : Nat) (S0 : S_X8 G h0) (x_0 : Int32) (hp1 : ¬ x_0 = 1 ∨ Bd (v (rf G h0 1) 738) 0 6) (hp2 : ¬ x_0 = 2 ∨ Bd (v (rf G h0 1) 739) 0 6) : CtV l yX8_item cX8_item 2 none rm_X8_item D dA G [.ref h0, .int x_0] v w (fun v1 w1 => Ok G v1 w1 ∧ True ∧ Pg h0 v v1 ∧ (w1 = w ∧ v1 = F_X8_item G w v h0 x_0) ∧ Fr G [8, 116, 1084] v v1) := by
  refine CtV.of RX8 [(0, .ref h0), (1, .int x_0)] (Nat.le_of_ble_eq_true rfl) rfl (by decide) rfl ?_
  intro p e s m args below meth c E hr
  have hK : K_X8_item_e G w v h0 x_0 = F_X8_item G w v h0 x_0 := rfl
  refine J_iload_n E dX8_item_0 1 rfl ?_
  by_cases h1 : x_0.toInt = 0
  · refine J_tabIn E 0 36 dX8_item_1 h1 (by decide) (by decide) rfl (by decide) ?_
    have b2 : Bd x_0 0 0 := ⟨by omega, by omega⟩
    refine J_goto E 71 dX8_item_36 (by decide) ?_
    exact J_vret E hr dX8_item_71 ⟨hOk, trivial, ⟨Pg.rf, ⟨rfl, ((kx_X8_item_1 (h1)).symm.trans hK)⟩, Fr.rf⟩⟩
  by_cases h3 : x_0.toInt = 1
  · refine J_tabIn E 1 39 dX8_item_1 h3 (by decide) (by decide) rfl (by decide) ?_
    have b4 : Bd x_0 1 1 := ⟨by omega, by omega⟩
    obtain ⟨x5, e6⟩ : ∃ z : Int32, z = v (rf G h0 1) 738 := ⟨_, rfl⟩
    have b7 : Bd x5 0 7 := Ok.fa hOk e6 (S_X8.f1 S0) (by decide) rfl
    have b8 : Bd x5 0 6 := Bd.e (hp1.resolve_left (fun q9 => q9 (Int32.toInt_inj.mp (by have q8 := b4; unfold Bd at q8; rw [show x_0.toInt = 1 by omega]; decide)))) e6
    refine J_aload_n E dX8_item_39 0 rfl ?_
    refine J_callVV E cal_X8_readThing wd1059 rfl (S_X8.h S0) [] [] (ct_X8_readThing l D dA G v w (hOk) h0 S0 x5 (e6) b8) rfl rfl (Nat.le_of_ble_eq_true rfl) ⟨rfl, rfl⟩ ⟨Nat.le_of_ble_eq_true rfl, Nat.le_of_ble_eq_true rfl⟩ dX8_item_40 (fun v9 w10 p11 => ?_)
    have ew9 : w = w10 := p11.2.2.2.1.1.symm
    subst ew9
    have o13 := p11.1
    have k14 : True := trivial
    have f15 : Fr G [8, 116, 1084] v v9 := Fr.tr Fr.rf (p11.2.2.2.2) (by decide)
    have g16 : Pg h0 v v9 := Pg.rf.tr p11.2.2.1
    have e17 : v9 = F_X8_readThing G w v h0 := (p11.2.2.2.1).2
    have hK : K_X8_item_c1 G w h0 v9 = F_X8_item G w v h0 x_0 := ((kx_X8_item_2 (e17) (h1) (h3)).symm.trans hK)
    refine J_goto E 71 dX8_item_43 (by decide) ?_
    exact J_vret E hr dX8_item_71 ⟨o13, k14, ⟨g16, ⟨rfl, ((kx_X8_item_3).symm.trans hK)⟩, f15⟩⟩
  by_cases h18 : x_0.toInt = 2
  · refine J_tabIn E 2 46 dX8_item_1 h18 (by decide) (by decide) rfl (by decide) ?_
    have b19 : Bd x_0 2 2 := ⟨by omega, by omega⟩
    obtain ⟨x20, e21⟩ : ∃ z : Int32, z = v (rf G h0 1) 739 := ⟨_, rfl⟩
    have b22 : Bd x20 0 7 := Ok.fa hOk e21 (S_X8.f1 S0) (by decide) rfl
    have b23 : Bd x20 0 6 := Bd.e (hp2.resolve_left (fun q9 => q9 (Int32.toInt_inj.mp (by have q8 := b19; unfold Bd at q8; rw [show x_0.toInt = 2 by omega]; decide)))) e21
    refine J_aload_n E dX8_item_46 0 rfl ?_
    refine J_callVV E cal_X8_readOne wd1067 rfl (S_X8.h S0) [] [] (ct_X8_readOne l D dA G v w (hOk) h0 S0 x20 (e21) b23) rfl rfl (Nat.le_of_ble_eq_true rfl) ⟨rfl, rfl⟩ ⟨Nat.le_of_ble_eq_true rfl, Nat.le_of_ble_eq_true rfl⟩ dX8_item_47 (fun v24 w25 p26 => ?_)
    have ew9 : w = w25 := p26.2.2.2.1.1.symm
    subst ew9
    have o28 := p26.1
    have k29 : True := trivial
    have f30 : Fr G [8, 116, 1084] v v24 := Fr.tr Fr.rf (p26.2.2.2.2) (by decide)
    have g31 : Pg h0 v v24 := Pg.rf.tr p26.2.2.1
    have e32 : v24 = F_X8_readOne G w v h0 := (p26.2.2.2.1).2
    have hK : K_X8_item_c2 G w h0 v24 = F_X8_item G w v h0 x_0 := ((kx_X8_item_4 (e32) (h1) (h3) (h18)).symm.trans hK)
    refine J_goto E 71 dX8_item_50 (by decide) ?_
    exact J_vret E hr dX8_item_71 ⟨o28, k29, ⟨g31, ⟨rfl, ((kx_X8_item_5).symm.trans hK)⟩, f30⟩⟩
  by_cases h33 : x_0.toInt = 3
  · refine J_tabIn E 3 53 dX8_item_1 h33 (by decide) (by decide) rfl (by decide) ?_
    have b34 : Bd x_0 3 3 := ⟨by omega, by omega⟩
    refine J_aload_n E dX8_item_53 0 rfl ?_
    refine J_callVV E cal_X8_readOwn wd1071 rfl (S_X8.h S0) [] [] (ct_X8_readOwn l D dA G v w (hOk) h0 S0) rfl rfl (Nat.le_of_ble_eq_true rfl) ⟨rfl, rfl⟩ ⟨Nat.le_of_ble_eq_true rfl, Nat.le_of_ble_eq_true rfl⟩ dX8_item_54 (fun v35 w36 p37 => ?_)
    have ew9 : w = w36 := p37.2.2.2.1.1.symm
    subst ew9
    have o39 := p37.1
    have k40 : True := trivial
    have f41 : Fr G [8, 116, 1084] v v35 := Fr.tr Fr.rf (p37.2.2.2.2) (by decide)
    have g42 : Pg h0 v v35 := Pg.rf.tr p37.2.2.1
    have e43 : v35 = F_X8_readOwn G w v h0 := (p37.2.2.2.1).2
    have hK : K_X8_item_c3 G w h0 v35 = F_X8_item G w v h0 x_0 := ((kx_X8_item_6 (e43) (h1) (h3) (h18) (h33)).symm.trans hK)
    refine J_goto E 71 dX8_item_57 (by decide) ?_
    exact J_vret E hr dX8_item_71 ⟨o39, k40, ⟨g42, ⟨rfl, ((kx_X8_item_7).symm.trans hK)⟩, f41⟩⟩
  by_cases h44 : x_0.toInt = 4
  · refine J_tabIn E 4 60 dX8_item_1 h44 (by decide) (by decide) rfl (by decide) ?_
    have b45 : Bd x_0 4 4 := ⟨by omega, by omega⟩
    refine J_aload_n E dX8_item_60 0 rfl ?_
    refine J_callVV E cal_X8_readLeave wd1082 rfl (S_X8.h S0) [] [] (ct_X8_readLeave l D dA G v w (hOk) h0 S0) rfl rfl (Nat.le_of_ble_eq_true rfl) ⟨rfl, rfl⟩ ⟨Nat.le_of_ble_eq_true rfl, Nat.le_of_ble_eq_true rfl⟩ dX8_item_61 (fun v46 w47 p48 => ?_)
    have ew9 : w = w47 := p48.2.2.2.1.1.symm
    subst ew9
    have o50 := p48.1
    have k51 : True := trivial
    have f52 : Fr G [8, 116, 1084] v v46 := Fr.tr Fr.rf (p48.2.2.2.2) (by decide)
    have g53 : Pg h0 v v46 := Pg.rf.tr p48.2.2.1
    have e54 : v46 = F_X8_readLeave G w v h0 := (p48.2.2.2.1).2
    have hK : K_X8_item_c4 G w h0 v46 = F_X8_item G w v h0 x_0 := ((kx_X8_item_8 (e54) (h1) (h3) (h18) (h33) (h44)).symm.trans hK)
    refine J_goto E 71 dX8_item_64 (by decide) ?_
    exact J_vret E hr dX8_item_71 ⟨o50, k51, ⟨g53, ⟨rfl, ((kx_X8_item_9).symm.trans hK)⟩, f52⟩⟩
  refine J_tabOut (x := x_0) E 67 dX8_item_1 (by have := (Bd.any x_0); simp only [Bd, I0, I1] at this; omega) (by decide) ?_
  refine J_aload_n E dX8_item_67 0 rfl ?_
  refine J_callVV E cal_X8_readYears wd1086 rfl (S_X8.h S0) [] [] (ct_X8_readYears l D dA G v w (hOk) h0 S0) rfl rfl (Nat.le_of_ble_eq_true rfl) ⟨rfl, rfl⟩ ⟨Nat.le_of_ble_eq_true rfl, Nat.le_of_ble_eq_true rfl⟩ dX8_item_68 (fun v55 w56 p57 => ?_)
  have ew9 : w = w56 := p57.2.2.2.1.1.symm
  subst ew9
  have o59 := p57.1
  have k60 : True := trivial
  have f61 : Fr G [8, 116, 1084] v v55 := Fr.tr Fr.rf (p57.2.2.2.2) (by decide)
  have g62 : Pg h0 v v55 := Pg.rf.tr p57.2.2.1
  have e63 : v55 = F_X8_readYears G w v h0 := (p57.2.2.2.1).2
  have hK : K_X8_item_c5 G w h0 v55 = F_X8_item G w v h0 x_0 := ((kx_X8_item_10 (e63) (h1) (h3) (h18) (h33) (h44)).symm.trans hK)
  exact J_vret E hr dX8_item_71 ⟨o59, k60, ⟨g62, ⟨rfl, ((kx_X8_item_11).symm.trans hK)⟩, f61⟩⟩

def K_X8_may_67 (G : Gm) (w : Mw) (h0 : Nat) (v : Mv) : Int32 :=
  (1 : Int32)
def K_X8_may_49 (G : Gm) (w : Mw) (h0 : Nat) (v : Mv) (x_0 : Int32) : Int32 :=
  if x_0 = (2 : Int32) then (if (7 : Int32) ≤ (v (rf G h0 1) (Int32.toNatClampNeg (739 : Int32))) then ((0 : Int32)) else (K_X8_may_67 G w h0 v)) else (K_X8_may_67 G w h0 v)
def K_X8_may_26 (G : Gm) (w : Mw) (h0 : Nat) (v : Mv) (x_0 : Int32) (x15 : Int32) (x17 : Int32) : Int32 :=
  if x17 = x15 then (if x_0 = (1 : Int32) then (if (7 : Int32) ≤ (v (rf G h0 1) (Int32.toNatClampNeg (738 : Int32))) then ((0 : Int32)) else (K_X8_may_49 G w h0 v x_0)) else (K_X8_may_49 G w h0 v x_0)) else ((0 : Int32))
def K_X8_may_14 (G : Gm) (w : Mw) (h0 : Nat) (v : Mv) (x_0 : Int32) (x30 : Int32) : Int32 :=
  if (v h0 11) = (0 : Int32) then (K_X8_may_26 G w h0 v x_0 (1 : Int32) x30) else (K_X8_may_26 G w h0 v x_0 (0 : Int32) x30)
def K_X8_may_e (G : Gm) (w : Mw) (v : Mv) (h0 : Nat) (x_0 : Int32) : Int32 :=
  if (5 : Int32) < x_0 then ((0 : Int32)) else (if x_0 = (0 : Int32) then (K_X8_may_14 G w h0 v x_0 (1 : Int32)) else (K_X8_may_14 G w h0 v x_0 (0 : Int32)))
def F_X8_may (G : Gm) (w : Mw) (v : Mv) (h0 : Nat) (x_0 : Int32) : Int32 := K_X8_may_e G w v h0 x_0
set_option maxRecDepth 100000 in
theorem kx_X8_may_1 {G : Gm} {w : Mw} {h0 : Nat} {v : Mv}   : K_X8_may_67 G w h0 v = (1 : Int32) := by
  first | rw [K_X8_may_67] | simp only [K_X8_may_67]
set_option maxRecDepth 100000 in
theorem kx_X8_may_2 {G : Gm} {w : Mw} {h0 : Nat} {v : Mv} {x_0 : Int32}  (k0 : ¬ (x_0 = (2 : Int32))) : K_X8_may_49 G w h0 v x_0 = K_X8_may_67 G w h0 v := by
  first | rw [K_X8_may_49, if_neg k0] | simp only [K_X8_may_49, if_neg k0]
set_option maxRecDepth 100000 in
theorem kx_X8_may_3 {G : Gm} {w : Mw} {h0 : Nat} {v : Mv} {x_0 : Int32} {x7 : Int32} (a0 : x7 = v (rf G h0 1) (Int32.toNatClampNeg (739 : Int32))) (k0 : x_0 = (2 : Int32)) (k1 : (7 : Int32) ≤ x7) : K_X8_may_49 G w h0 v x_0 = (0 : Int32) := by
  subst a0; first | rw [K_X8_may_49, if_pos k0, if_pos k1] | simp only [K_X8_may_49, if_pos k0, if_pos k1]
set_option maxRecDepth 100000 in
theorem kx_X8_may_4 {G : Gm} {w : Mw} {h0 : Nat} {v : Mv} {x_0 : Int32} {x7 : Int32} (a0 : x7 = v (rf G h0 1) (Int32.toNatClampNeg (739 : Int32))) (k0 : x_0 = (2 : Int32)) (k1 : ¬ ((7 : Int32) ≤ x7)) : K_X8_may_49 G w h0 v x_0 = K_X8_may_67 G w h0 v := by
  subst a0; first | rw [K_X8_may_49, if_pos k0, if_neg k1] | simp only [K_X8_may_49, if_pos k0, if_neg k1]
set_option maxRecDepth 100000 in
theorem kx_X8_may_5 {G : Gm} {w : Mw} {h0 : Nat} {v : Mv} {x_0 : Int32} {x15 : Int32} {x17 : Int32}  (k0 : x17 = x15) (k1 : ¬ (x_0 = (1 : Int32))) : K_X8_may_26 G w h0 v x_0 x15 x17 = K_X8_may_49 G w h0 v x_0 := by
  first | rw [K_X8_may_26, if_pos k0, if_neg k1] | simp only [K_X8_may_26, if_pos k0, if_neg k1]
set_option maxRecDepth 100000 in
theorem kx_X8_may_6 {G : Gm} {w : Mw} {h0 : Nat} {v : Mv} {x_0 : Int32} {x15 : Int32} {x17 : Int32} {x22 : Int32} (a0 : x22 = v (rf G h0 1) (Int32.toNatClampNeg (738 : Int32))) (k0 : x17 = x15) (k1 : x_0 = (1 : Int32)) (k2 : (7 : Int32) ≤ x22) : K_X8_may_26 G w h0 v x_0 x15 x17 = (0 : Int32) := by
  subst a0; first | rw [K_X8_may_26, if_pos k0, if_pos k1, if_pos k2] | simp only [K_X8_may_26, if_pos k0, if_pos k1, if_pos k2]
set_option maxRecDepth 100000 in
theorem kx_X8_may_7 {G : Gm} {w : Mw} {h0 : Nat} {v : Mv} {x_0 : Int32} {x15 : Int32} {x17 : Int32} {x22 : Int32} (a0 : x22 = v (rf G h0 1) (Int32.toNatClampNeg (738 : Int32))) (k0 : x17 = x15) (k1 : x_0 = (1 : Int32)) (k2 : ¬ ((7 : Int32) ≤ x22)) : K_X8_may_26 G w h0 v x_0 x15 x17 = K_X8_may_49 G w h0 v x_0 := by
  subst a0; first | rw [K_X8_may_26, if_pos k0, if_pos k1, if_neg k2] | simp only [K_X8_may_26, if_pos k0, if_pos k1, if_neg k2]
set_option maxRecDepth 100000 in
theorem kx_X8_may_8 {G : Gm} {w : Mw} {h0 : Nat} {v : Mv} {x_0 : Int32} {x15 : Int32} {x17 : Int32}  (k0 : ¬ (x17 = x15)) : K_X8_may_26 G w h0 v x_0 x15 x17 = (0 : Int32) := by
  first | rw [K_X8_may_26, if_neg k0] | simp only [K_X8_may_26, if_neg k0]
set_option maxRecDepth 100000 in
theorem kx_X8_may_9 {G : Gm} {w : Mw} {h0 : Nat} {v : Mv} {x_0 : Int32} {x30 : Int32} {x32 : Int32} (a0 : x32 = v h0 11) (k0 : ¬ (x32 = (0 : Int32))) : K_X8_may_14 G w h0 v x_0 x30 = K_X8_may_26 G w h0 v x_0 (0 : Int32) x30 := by
  subst a0; first | rw [K_X8_may_14, if_neg k0] | simp only [K_X8_may_14, if_neg k0]
set_option maxRecDepth 100000 in
theorem kx_X8_may_10 {G : Gm} {w : Mw} {h0 : Nat} {v : Mv} {x_0 : Int32} {x30 : Int32} {x32 : Int32} (a0 : x32 = v h0 11) (k0 : x32 = (0 : Int32)) : K_X8_may_14 G w h0 v x_0 x30 = K_X8_may_26 G w h0 v x_0 (1 : Int32) x30 := by
  subst a0; first | rw [K_X8_may_14, if_pos k0] | simp only [K_X8_may_14, if_pos k0]
set_option maxRecDepth 100000 in
theorem kx_X8_may_11 {G : Gm} {w : Mw} {v : Mv} {h0 : Nat} {x_0 : Int32}  (k0 : (5 : Int32) < x_0) : K_X8_may_e G w v h0 x_0 = (0 : Int32) := by
  first | rw [K_X8_may_e, if_pos k0] | simp only [K_X8_may_e, if_pos k0]
set_option maxRecDepth 100000 in
theorem kx_X8_may_12 {G : Gm} {w : Mw} {v : Mv} {h0 : Nat} {x_0 : Int32}  (k0 : ¬ ((5 : Int32) < x_0)) (k1 : ¬ (x_0 = (0 : Int32))) : K_X8_may_e G w v h0 x_0 = K_X8_may_14 G w h0 v x_0 (0 : Int32) := by
  first | rw [K_X8_may_e, if_neg k0, if_neg k1] | simp only [K_X8_may_e, if_neg k0, if_neg k1]
set_option maxRecDepth 100000 in
theorem kx_X8_may_13 {G : Gm} {w : Mw} {v : Mv} {h0 : Nat} {x_0 : Int32}  (k0 : ¬ ((5 : Int32) < x_0)) (k1 : x_0 = (0 : Int32)) : K_X8_may_e G w v h0 x_0 = K_X8_may_14 G w h0 v x_0 (1 : Int32) := by
  first | rw [K_X8_may_e, if_neg k0, if_pos k1] | simp only [K_X8_may_e, if_neg k0, if_pos k1]
abbrev rm_X8_may : Room := { frames := 0, cells := 0, slots := 0, locals := 0 }
set_option maxHeartbeats 4000000 in
set_option maxRecDepth 100000 in
theorem ct_X8_may (l : Launch) (D : va_G) (dA : Nat → ClassId) (G : Gm) (v : Mv) (w : Mw) (hOk : Ok G v w) (h0 : Nat) (S0 : S_X8 G h0) (x_0 : Int32) : CtI l yX8_may cX8_may 2 (some .boolean) rm_X8_may D dA G [.ref h0, .int x_0] v w (fun r v1 w1 => v1 = v ∧ w1 = w ∧ Bd r 0 1 ∧ (r = 0 ∨ ((¬ x_0 = 1 ∨ Bd (v (rf G h0 1) 738) 0 6) ∧ (¬ x_0 = 2 ∨ Bd (v (rf G h0 1) 739) 0 6))) ∧ r = F_X8_may G w v h0 x_0) := by
  refine CtI.of RX8 [(0, .ref h0), (1, .int x_0)] (Nat.le_of_ble_eq_true rfl) rfl (by decide) rfl ?_
  intro p e s m args below meth c E hr
  have J67 : (¬ x_0 = 1 ∨ Bd (v (rf G h0 1) 738) 0 6) → (¬ x_0 = 2 ∨ Bd (v (rf G h0 1) 739) 0 6) → K_X8_may_67 G w h0 v = F_X8_may G w v h0 x_0 → J p l e rm_X8_may s m args below meth c 0 0 (MQ below (QcI D dA G (fun r v1 w1 => v1 = v ∧ w1 = w ∧ Bd r 0 1 ∧ (r = 0 ∨ ((¬ x_0 = 1 ∨ Bd (v (rf G h0 1) 738) 0 6) ∧ (¬ x_0 = 2 ∨ Bd (v (rf G h0 1) 739) 0 6))) ∧ r = F_X8_may G w v h0 x_0)) args s 0 0 (dm G)) D dA G (dm G) s.heap 2 v w [] 67 [] := by
    intro h1 h2 hK
    refine J_iconst E 1 dX8_may_67 (by decide) ?_
    refine J_goto E 72 dX8_may_68 (by decide) ?_
    exact J_zret E hr (Bd.z (Bd.lit 1 1 (by decide)) (by decide)) dX8_may_72 ⟨rfl, rfl, ((Bd.lit 1 1 (by decide)).w 0 1 (by decide)), ⟨(Or.inr ⟨h1, h2⟩), ((kx_X8_may_1).symm.trans hK)⟩⟩
  have J49 : Bd x_0 I0 5 → (¬ x_0 = 1 ∨ Bd (v (rf G h0 1) 738) 0 6) → K_X8_may_49 G w h0 v x_0 = F_X8_may G w v h0 x_0 → J p l e rm_X8_may s m args below meth c 0 0 (MQ below (QcI D dA G (fun r v1 w1 => v1 = v ∧ w1 = w ∧ Bd r 0 1 ∧ (r = 0 ∨ ((¬ x_0 = 1 ∨ Bd (v (rf G h0 1) 738) 0 6) ∧ (¬ x_0 = 2 ∨ Bd (v (rf G h0 1) 739) 0 6))) ∧ r = F_X8_may G w v h0 x_0)) args s 0 0 (dm G)) D dA G (dm G) s.heap 2 v w [(0, .ref h0), (1, .int x_0)] 49 [] := by
    intro b3 h4 hK
    refine J_iload_n E dX8_may_49 1 rfl ?_
    refine J_iconst E 2 dX8_may_50 (by decide) ?_
    refine J_icmp_ne E 67 dX8_may_51 (by decide) (fun c5 => ?_) (fun c5 => ?_)
    · exact J.sub [] rfl (J67 h4 (Or.inl c5) ((kx_X8_may_2 (c5)).symm.trans hK))
    · have b6 : Bd x_0 2 2 := Bd.eq_l c5 b3 (Bd.lit 2 2 (by decide)) 2 2 (by decide)
      refine J_aload_n E dX8_may_54 0 rfl ?_
      refine J_getR E in_X8 rfl (S_X8.h S0) 1 (by decide) wd936 rfl dX8_may_55 ?_
      refine J_sipush E 739 dX8_may_58 (by decide) ?_
      refine J_iald1 E (S_X8.f1 S0) (Bd.in (Bd.lit 739 739 (by decide)) (by decide)) dX8_may_61 (fun x7 e8 => ?_)
      have b9 : Bd x7 0 7 := Bd.e (Ok.ld hOk (S_X8.f1 S0) (Bd.lit 739 739 (by decide)) 739 1 0 7 (by decide) (by decide +kernel)) e8
      have e10 : x7 = v (rf G h0 1) 739 := by rw [e8, Bd.ix (Bd.lit 739 739 (by decide)) 739 rfl]
      refine J_bipush E 7 dX8_may_62 (by decide) ?_
      refine J_icmp_ge E 71 dX8_may_64 (by decide) (fun c11 => ?_) (fun c11 => ?_)
      · have b12 : Bd x7 7 7 := Bd.le_r c11 (Bd.lit 7 7 (by decide)) b9 7 (by decide)
        refine J_iconst E 0 dX8_may_71 (by decide) ?_
        exact J_zret E hr (Bd.z (Bd.lit 0 0 (by decide)) (by decide)) dX8_may_72 ⟨rfl, rfl, ((Bd.lit 0 0 (by decide)).w 0 1 (by decide)), ⟨(Or.inl rfl), ((kx_X8_may_3 (e8) (c5) (c11)).symm.trans hK)⟩⟩
      · have b13 : Bd x7 0 6 := Bd.lt_l (nle c11) b9 (Bd.lit 7 7 (by decide)) 6 (by decide)
        exact J.sub [] rfl (J67 h4 (Or.inr (Bd.e b13 (e10).symm)) ((kx_X8_may_4 (e8) (c5) (c11)).symm.trans hK))
  have J26 : Bd x_0 I0 5 → ∀ x15 : Int32, Bd x15 0 1 → ∀ x17 : Int32, Bd x17 0 1 → K_X8_may_26 G w h0 v x_0 x15 x17 = F_X8_may G w v h0 x_0 → J p l e rm_X8_may s m args below meth c 0 0 (MQ below (QcI D dA G (fun r v1 w1 => v1 = v ∧ w1 = w ∧ Bd r 0 1 ∧ (r = 0 ∨ ((¬ x_0 = 1 ∨ Bd (v (rf G h0 1) 738) 0 6) ∧ (¬ x_0 = 2 ∨ Bd (v (rf G h0 1) 739) 0 6))) ∧ r = F_X8_may G w v h0 x_0)) args s 0 0 (dm G)) D dA G (dm G) s.heap 2 v w [(0, .ref h0), (1, .int x_0)] 26 [.int x15, .int x17] := by
    intro b14 x15 b16 x17 b18 hK
    refine J_icmp_eq E 31 dX8_may_26 (by decide) (fun c19 => ?_) (fun c19 => ?_)
    · refine J_iload_n E dX8_may_31 1 rfl ?_
      refine J_iconst E 1 dX8_may_32 (by decide) ?_
      refine J_icmp_ne E 49 dX8_may_33 (by decide) (fun c20 => ?_) (fun c20 => ?_)
      · exact J.sub [0, 1] rfl (J49 b14 (Or.inl c20) ((kx_X8_may_5 (c19) (c20)).symm.trans hK))
      · have b21 : Bd x_0 1 1 := Bd.eq_l c20 b14 (Bd.lit 1 1 (by decide)) 1 1 (by decide)
        refine J_aload_n E dX8_may_36 0 rfl ?_
        refine J_getR E in_X8 rfl (S_X8.h S0) 1 (by decide) wd936 rfl dX8_may_37 ?_
        refine J_sipush E 738 dX8_may_40 (by decide) ?_
        refine J_iald1 E (S_X8.f1 S0) (Bd.in (Bd.lit 738 738 (by decide)) (by decide)) dX8_may_43 (fun x22 e23 => ?_)
        have b24 : Bd x22 0 7 := Bd.e (Ok.ld hOk (S_X8.f1 S0) (Bd.lit 738 738 (by decide)) 738 1 0 7 (by decide) (by decide +kernel)) e23
        have e25 : x22 = v (rf G h0 1) 738 := by rw [e23, Bd.ix (Bd.lit 738 738 (by decide)) 738 rfl]
        refine J_bipush E 7 dX8_may_44 (by decide) ?_
        refine J_icmp_ge E 71 dX8_may_46 (by decide) (fun c26 => ?_) (fun c26 => ?_)
        · have b27 : Bd x22 7 7 := Bd.le_r c26 (Bd.lit 7 7 (by decide)) b24 7 (by decide)
          refine J_iconst E 0 dX8_may_71 (by decide) ?_
          exact J_zret E hr (Bd.z (Bd.lit 0 0 (by decide)) (by decide)) dX8_may_72 ⟨rfl, rfl, ((Bd.lit 0 0 (by decide)).w 0 1 (by decide)), ⟨(Or.inl rfl), ((kx_X8_may_6 (e23) (c19) (c20) (c26)).symm.trans hK)⟩⟩
        · have b28 : Bd x22 0 6 := Bd.lt_l (nle c26) b24 (Bd.lit 7 7 (by decide)) 6 (by decide)
          exact J.sub [0, 1] rfl (J49 (b21.w I0 5 (by decide)) (Or.inr (Bd.e b28 (e25).symm)) ((kx_X8_may_7 (e23) (c19) (c20) (c26)).symm.trans hK))
    · refine J_iconst E 0 dX8_may_29 (by decide) ?_
      exact J_zret E hr (Bd.z (Bd.lit 0 0 (by decide)) (by decide)) dX8_may_30 ⟨rfl, rfl, ((Bd.lit 0 0 (by decide)).w 0 1 (by decide)), ⟨(Or.inl rfl), ((kx_X8_may_8 (c19)).symm.trans hK)⟩⟩
  have J14 : Bd x_0 I0 5 → ∀ x30 : Int32, Bd x30 0 1 → K_X8_may_14 G w h0 v x_0 x30 = F_X8_may G w v h0 x_0 → J p l e rm_X8_may s m args below meth c 0 0 (MQ below (QcI D dA G (fun r v1 w1 => v1 = v ∧ w1 = w ∧ Bd r 0 1 ∧ (r = 0 ∨ ((¬ x_0 = 1 ∨ Bd (v (rf G h0 1) 738) 0 6) ∧ (¬ x_0 = 2 ∨ Bd (v (rf G h0 1) 739) 0 6))) ∧ r = F_X8_may G w v h0 x_0)) args s 0 0 (dm G)) D dA G (dm G) s.heap 2 v w [(0, .ref h0), (1, .int x_0)] 14 [.int x30] := by
    intro b29 x30 b31 hK
    refine J_aload_n E dX8_may_14 0 rfl ?_
    refine J_getI E in_X8 rfl (S_X8.h S0) 11 (by decide) wd946 rfl dX8_may_15 (fun x32 e33 => ?_)
    refine J_if_ne E 25 dX8_may_18 (by decide) (fun c34 => ?_) (fun c34 => ?_)
    · refine J_iconst E 0 dX8_may_25 (by decide) ?_
      exact J.sub [0, 1] rfl (J26 b29 0 ((Bd.lit 0 0 (by decide)).w 0 1 (by decide)) x30 b31 ((kx_X8_may_9 (e33) (c34)).symm.trans hK))
    · have b35 : Bd x32 0 0 := Bd.eq_l c34 (Bd.any x32) (Bd.lit 0 0 (by decide)) 0 0 (by decide)
      refine J_iconst E 1 dX8_may_21 (by decide) ?_
      refine J_goto E 26 dX8_may_22 (by decide) ?_
      exact J.sub [0, 1] rfl (J26 b29 1 ((Bd.lit 1 1 (by decide)).w 0 1 (by decide)) x30 b31 ((kx_X8_may_10 (e33) (c34)).symm.trans hK))
  have hK : K_X8_may_e G w v h0 x_0 = F_X8_may G w v h0 x_0 := rfl
  refine J_iload_n E dX8_may_0 1 rfl ?_
  refine J_iconst E 5 dX8_may_1 (by decide) ?_
  refine J_icmp_gt E 29 dX8_may_2 (by decide) (fun c36 => ?_) (fun c36 => ?_)
  · have b37 : Bd x_0 6 I1 := Bd.lt_r c36 (Bd.lit 5 5 (by decide)) (Bd.any x_0) 6 (by decide)
    refine J_iconst E 0 dX8_may_29 (by decide) ?_
    exact J_zret E hr (Bd.z (Bd.lit 0 0 (by decide)) (by decide)) dX8_may_30 ⟨rfl, rfl, ((Bd.lit 0 0 (by decide)).w 0 1 (by decide)), ⟨(Or.inl rfl), ((kx_X8_may_11 (c36)).symm.trans hK)⟩⟩
  · have b38 : Bd x_0 I0 5 := Bd.le_l (nlt c36) (Bd.any x_0) (Bd.lit 5 5 (by decide)) 5 (by decide)
    refine J_iload_n E dX8_may_5 1 rfl ?_
    refine J_if_ne E 13 dX8_may_6 (by decide) (fun c39 => ?_) (fun c39 => ?_)
    · refine J_iconst E 0 dX8_may_13 (by decide) ?_
      exact J.sub [0, 1] rfl (J14 b38 0 ((Bd.lit 0 0 (by decide)).w 0 1 (by decide)) ((kx_X8_may_12 (c36) (c39)).symm.trans hK))
    · have b40 : Bd x_0 0 0 := Bd.eq_l c39 b38 (Bd.lit 0 0 (by decide)) 0 0 (by decide)
      refine J_iconst E 1 dX8_may_9 (by decide) ?_
      refine J_goto E 14 dX8_may_10 (by decide) ?_
      exact J.sub [0, 1] rfl (J14 (b40.w I0 5 (by decide)) 1 ((Bd.lit 1 1 (by decide)).w 0 1 (by decide)) ((kx_X8_may_13 (c36) (c39)).symm.trans hK))

def K_X8_read_106 (G : Gm) (w : Mw) (h0 : Nat) (v : Mv) : Int32 × Mv :=
  if v h0 10 = 0 then ((stv (F_X8_copyRow G w v h0 738 0) (rf G h0 1) 5 0) h0 11, stv (F_X8_copyRow G w v h0 738 0) (rf G h0 1) 5 0) else (-10 - v h0 7, v)
def K_X8_read_90 (G : Gm) (w : Mw) (h0 : Nat) (v : Mv) (x : Int32) : Mv :=
  stv (F_X8_due G w v h0 x) h0 11 ((F_X8_due G w v h0 x) h0 11 + 1)
def K_X8_read_49 (G : Gm) (w : Mw) (h0 : Nat) (v : Mv) : Mv :=
  if (F_X8_due G w v h0 (F_X8_may G w v h0 (v h0 8))) h0 10 = 0 then (if (F_X8_item G w (F_X8_due G w v h0 (F_X8_may G w v h0 (v h0 8))) h0 (v h0 8)) h0 8 = 7 then K_X8_read_90 G w h0 (F_X8_item G w (F_X8_due G w v h0 (F_X8_may G w v h0 (v h0 8))) h0 (v h0 8)) 1 else K_X8_read_90 G w h0 (F_X8_item G w (F_X8_due G w v h0 (F_X8_may G w v h0 (v h0 8))) h0 (v h0 8)) 0) else F_X8_due G w v h0 (F_X8_may G w v h0 (v h0 8))
def K_X8_read_26 (G : Gm) (w : Mw) (h0 : Nat) : Nat → Mv → Int32 × Mv
  | 0, v => K_X8_read_106 G w h0 v
  | n + 1, v => if v h0 10 = 0 then (if v h0 8 = 8 then (if v h0 11 = 0 then K_X8_read_26 G w h0 n (K_X8_read_49 G w h0 v) else K_X8_read_106 G w h0 v) else K_X8_read_26 G w h0 n (K_X8_read_49 G w h0 v)) else K_X8_read_106 G w h0 v
def F_X8_read (G : Gm) (w : Mw) (v : Mv) (h0 : Nat) : Int32 × Mv :=
  K_X8_read_26 G w h0 151 (F_X8_step G w (F_X8_begin_738 G w (stv (stv (stv v h0 6 0) h0 10 0) h0 11 0) h0) h0)
abbrev rm_X8_read : Room := { frames := 7, cells := 0, slots := 0, locals := 157 }
set_option maxHeartbeats 4000000 in
set_option maxRecDepth 100000 in
theorem ct_X8_read (l : Launch) (D : va_G) (dA : Nat → ClassId) (G : Gm) (v : Mv) (w : Mw) (hOk : Ok G v w) (h0 : Nat) (S0 : S_X8 G h0) : CtI l yX8_read cX8_read 2 (some .int) rm_X8_read D dA G [.ref h0] v w (fun r v1 w1 => Ok G v1 w1 ∧ True ∧ True ∧ (w1 = w ∧ (r, v1) = F_X8_read G w v h0) ∧ Fr G [8, 116, 1084] v v1) := by
  refine CtI.of RX8 [(0, .ref h0)] (Nat.le_of_ble_eq_true rfl) rfl (by decide) rfl ?_
  intro p e s m args below meth c E hr
  have J106 : ∀ (v1 : Mv), Ok G v1 w → Fr G [8, 116, 1084] v v1 → K_X8_read_106 G w h0 v1 = F_X8_read G w v h0 → J p l e rm_X8_read s m args below meth c 0 0 (MQ below (QcI D dA G (fun r v1 w1 => Ok G v1 w1 ∧ True ∧ True ∧ (w1 = w ∧ (r, v1) = F_X8_read G w v h0) ∧ Fr G [8, 116, 1084] v v1)) args s 0 0 (dm G)) D dA G (dm G) s.heap 2 v1 w [(0, .ref h0)] 106 [] := by
    intro v1 o3 f5 hK
    refine J_aload_n E dX8_read_106 0 rfl ?_
    refine J_getI E in_X8 rfl (S_X8.h S0) 10 (by decide) wd945 rfl dX8_read_107 (fun x6 e7 => ?_)
    have b8 : Bd x6 0 1 := Ok.fd o3 e7 (S_X8.h S0) rfl
    refine J_if_eq E 121 dX8_read_110 (by decide) (fun c9 => ?_) (fun c9 => ?_)
    · have b10 : Bd x6 0 0 := Bd.eq_l c9 b8 (Bd.lit 0 0 (by decide)) 0 0 (by decide)
      refine J_aload_n E dX8_read_121 0 rfl ?_
      refine J_sipush E 738 dX8_read_122 (by decide) ?_
      refine J_iconst E 0 dX8_read_125 (by decide) ?_
      refine J_callVV E cal_X8_copyRow wd1112 rfl (S_X8.h S0) [.int 738, .int 0] [] (ct_X8_copyRow l D dA G v1 w (o3) h0 S0 738 ((Bd.lit 738 738 (by decide)).w 0 738 (by decide)) 0 ((Bd.lit 0 0 (by decide)).w 0 738 (by decide)) Row.lit738 Row.lit0) rfl rfl (Nat.le_of_ble_eq_true rfl) ⟨rfl, rfl⟩ ⟨Nat.le_of_ble_eq_true rfl, Nat.le_of_ble_eq_true rfl⟩ dX8_read_126 (fun v11 w12 p13 => ?_)
      have ew9 : w = w12 := p13.2.2.1.1.symm
      subst ew9
      have o15 := p13.1
      have ev11 := p13.2.2.1.2
      have f17 : Fr G [8, 116, 1084] v v11 := Fr.tr f5 (p13.2.2.2) (by decide)
      refine J_aload_n E dX8_read_129 0 rfl ?_
      refine J_getR E in_X8 rfl (S_X8.h S0) 1 (by decide) wd936 rfl dX8_read_130 ?_
      refine J_iconst E 5 dX8_read_133 (by decide) ?_
      refine J_iconst E 0 dX8_read_134 (by decide) ?_
      refine J_iast1 E (S_X8.f1 S0) (Bd.in (Bd.lit 5 5 (by decide)) (by decide)) dX8_read_135 (fun v18 e19 => ?_)
      have o20 : Ok G v18 w := by rw [e19]; exact Ok.sv o15 (S_X8.f1 S0) (Bd.lit 5 5 (by decide)) (Bd.lit 0 0 (by decide)) 5 1 (by decide) (by decide +kernel)
      have f22 : Fr G [8, 116, 1084] v v18 := Fr.st f17 e19 (S_X8.f1 S0) rfl
      have e23 : x6 = v18 h0 10 := by rw [e19, stv_a (tg_ne (S_X8.h S0) ((S_X8.f1 S0)) rfl)]; exact ((e7).trans (Fr.at (p13.2.2.2) (S_X8.h S0) rfl 10).symm)
      have e24 : (0 : Int32) = v18 (rf G h0 1) 5 := by rw [e19, Bd.ix (Bd.lit 5 5 (by decide)) 5 rfl, stv_s]
      refine J_aload_n E dX8_read_136 0 rfl ?_
      refine J_getI E in_X8 rfl (S_X8.h S0) 11 (by decide) wd946 rfl dX8_read_137 (fun x25 e26 => ?_)
      exact J_iret E hr dX8_read_140 ⟨o20, trivial, trivial, ⟨rfl, (by rw [← hK, K_X8_read_106, if_pos (by rw [← e7]; exact c9), e26, e19, ev11]; rfl)⟩, f22⟩
    · have b27 : Bd x6 1 1 := (Bd.ne_lo c9 b8 (Bd.lit 0 0 (by decide))).w _ _ (by decide)
      refine J_bipush E (-10) dX8_read_113 (by decide) ?_
      refine J_aload_n E dX8_read_115 0 rfl ?_
      refine J_getI E in_X8 rfl (S_X8.h S0) 7 (by decide) wd942 rfl dX8_read_116 (fun x28 e29 => ?_)
      have b30 : Bd x28 0 150 := Ok.fd o3 e29 (S_X8.h S0) rfl
      refine J_isub E dX8_read_119 (fun x31 e32 => ?_)
      have b33 : Bd x31 (-160) (-10) := (Bd.sub e32 (Bd.lit (-10) (-10) (by decide)) b30 (by decide)).w _ _ (by decide)
      exact J_iret E hr dX8_read_120 ⟨o3, trivial, trivial, ⟨rfl, (by rw [← hK, K_X8_read_106, if_neg (by rw [← e7]; exact c9), e32, e29])⟩, f5⟩
  have J26 : ∀ n : Nat, ∀ (v34 : Mv), Ok G v34 w → Fr G [8, 116, 1084] v v34 → ∀ x40 : Int32, x40 = v34 h0 6 → Bd x40 0 150 → (¬ v34 h0 10 = 0 ∨ Mu x40 150 n) → K_X8_read_26 G w h0 n v34 = F_X8_read G w v h0 → J p l e rm_X8_read s m args below meth c 0 0 (MQ below (QcI D dA G (fun r v1 w1 => Ok G v1 w1 ∧ True ∧ True ∧ (w1 = w ∧ (r, v1) = F_X8_read G w v h0) ∧ Fr G [8, 116, 1084] v v1)) args s 0 0 (dm G)) D dA G (dm G) s.heap 2 v34 w [(0, .ref h0)] 26 [] := by
    intro n
    induction n with
    | zero =>
      intro v34 o36 f38 x40 e41 b39 hm hK
      have hz : ¬ v34 h0 10 = 0 := hm.resolve_right (fun q => q.zero b39 (by decide))
      refine J_aload_n E dX8_read_26 0 rfl ?_
      refine J_getI E in_X8 rfl (S_X8.h S0) 10 (by decide) wd945 rfl dX8_read_27 (fun y1 ey => ?_)
      refine J_if_ne E 106 dX8_read_30 (by decide) (fun cy => ?_) (fun cy => ?_)
      · exact J.sub [0] rfl (J106 v34 (o36) f38 hK)
      · exact absurd (ey.symm.trans cy) hz
    | succ n ih26 =>
      intro v34 o36 f38 x40 e41 b39 hmu26 hK
      have J103 : ∀ (v42 : Mv), Ok G v42 w → Fr G [8, 116, 1084] v v42 → (¬ v42 h0 10 = 0 ∨ x40.toInt < (v42 h0 6).toInt) → Mu x40 150 (n + 1) → K_X8_read_26 G w h0 n v42 = F_X8_read G w v h0 → J p l e rm_X8_read s m args below meth c 0 0 (MQ below (QcI D dA G (fun r v1 w1 => Ok G v1 w1 ∧ True ∧ True ∧ (w1 = w ∧ (r, v1) = F_X8_read G w v h0) ∧ Fr G [8, 116, 1084] v v1)) args s 0 0 (dm G)) D dA G (dm G) s.heap 2 v42 w [(0, .ref h0)] 103 [] := by
        intro v42 o44 f46 hq hM hK
        refine J_goto E 26 dX8_read_103 (by decide) ?_
        obtain ⟨x47, e48⟩ : ∃ z : Int32, z = v42 h0 6 := ⟨_, rfl⟩
        have b49 : Bd x47 0 150 := Ok.fd o44 e48 (S_X8.h S0) rfl
        exact J.sub [0] rfl (ih26 v42 (o44) f46 x47 (e48) b49 (hq.imp id (fun q => by rw [← e48] at q; unfold Mu at *; omega)) hK)
      have J90 : ∀ (v50 : Mv), Ok G v50 w → Fr G [8, 116, 1084] v v50 → ∀ x55 : Int32, Bd x55 0 1 → (x40.toInt ≤ (v50 h0 6).toInt ∧ (v50 h0 8 = 8 ∨ x40.toInt < (v50 h0 6).toInt)) → (x55 = 0 ∨ v50 h0 8 = 7) → Mu x40 150 (n + 1) → K_X8_read_26 G w h0 n (K_X8_read_90 G w h0 v50 x55) = F_X8_read G w v h0 → J p l e rm_X8_read s m args below meth c 0 0 (MQ below (QcI D dA G (fun r v1 w1 => Ok G v1 w1 ∧ True ∧ True ∧ (w1 = w ∧ (r, v1) = F_X8_read G w v h0) ∧ Fr G [8, 116, 1084] v v1)) args s 0 0 (dm G)) D dA G (dm G) s.heap 2 v50 w [(0, .ref h0)] 90 [.int x55, .ref h0] := by
        intro v50 o52 f54 x55 b56 hP hA hM hK
        refine J_callVV E cal_X8_due wd1051 rfl (S_X8.h S0) [.int x55] [] (ct_X8_due l D dA G v50 w (o52) h0 S0 x55 b56) rfl rfl (Nat.le_of_ble_eq_true rfl) ⟨rfl, rfl⟩ ⟨Nat.le_of_ble_eq_true rfl, Nat.le_of_ble_eq_true rfl⟩ dX8_read_90 (fun v57 w58 p59 => ?_)
        have ew9 : w = w58 := p59.2.2.2.2.1.1.symm
        subst ew9
        have o61 := p59.1
        have ev57 := p59.2.2.2.2.1.2
        have f63 : Fr G [8, 116, 1084] v v57 := Fr.tr f54 (p59.2.2.2.2.2) (by decide)
        refine J_aload_n E dX8_read_93 0 rfl ?_
        refine J_dup E dX8_read_94 rfl ?_
        refine J_getI E in_X8 rfl (S_X8.h S0) 11 (by decide) wd946 rfl dX8_read_95 (fun x64 e65 => ?_)
        refine J_iconst E 1 dX8_read_98 (by decide) ?_
        refine J_iadd E dX8_read_99 (fun x66 e67 => ?_)
        refine J_pI E in_X8 rfl (S_X8.h S0) 11 (by decide) wd946 tyX8 tyX8_ok nmX8 rfl rfl .int (by decide +kernel) rfl rfl dX8_read_100 (fun v68 e69 => ?_)
        have o70 : Ok G v68 w := Ok.pf o61 e69 (S_X8.h S0) rfl (Bd.any x66)
        have f72 : Fr G [8, 116, 1084] v v68 := Fr.st f63 e69 (S_X8.h S0) rfl
        have e73 : x66 = v68 h0 11 := by rw [e69, stv_s]
        have hq : ¬ v68 h0 10 = 0 ∨ x40.toInt < (v68 h0 6).toInt := by
          rw [e69, stv_k (by decide), stv_k (by decide)]
          refine (p59.2.2.1).imp id (fun q => ?_)
          have h7 : v50 h0 8 = 7 := hA.resolve_left q.1
          have hlt := hP.2.resolve_left (fun q2 => absurd (h7.symm.trans q2) (by decide))
          exact Int.lt_of_lt_of_le hlt q.2.2.1
        exact J.sub [0] rfl (J103 v68 (o70) f72 hq hM (by rw [← hK, e69, e67, e65, ev57]; rfl))
      have J49 : Mu x40 150 (n + 1) → K_X8_read_26 G w h0 n (K_X8_read_49 G w h0 v34) = F_X8_read G w v h0 → J p l e rm_X8_read s m args below meth c 0 0 (MQ below (QcI D dA G (fun r v1 w1 => Ok G v1 w1 ∧ True ∧ True ∧ (w1 = w ∧ (r, v1) = F_X8_read G w v h0) ∧ Fr G [8, 116, 1084] v v1)) args s 0 0 (dm G)) D dA G (dm G) s.heap 2 v34 w [(0, .ref h0)] 49 [] := by
        intro hM hK
        refine J_aload_n E dX8_read_49 0 rfl ?_
        refine J_getI E in_X8 rfl (S_X8.h S0) 8 (by decide) wd943 rfl dX8_read_50 (fun x74 e75 => ?_)
        refine J_istore_n E [(1, .int x74), (0, .ref h0)] dX8_read_53 rfl (by decide) rfl ?_
        refine J_aload_n E dX8_read_54 1 rfl ?_
        refine J_aload_n E dX8_read_55 1 rfl ?_
        refine J_iload_n E dX8_read_56 0 rfl ?_
        refine J_callVI E cal_X8_may wd1047 rfl (S_X8.h S0) [.int x74] [.ref h0] (ct_X8_may l D dA G v34 w (o36) h0 S0 x74) rfl rfl (Nat.le_of_ble_eq_true rfl) ⟨rfl, rfl⟩ ⟨Nat.le_of_ble_eq_true rfl, Nat.le_of_ble_eq_true rfl⟩ dX8_read_57 (fun x79 v76 w77 p78 => ?_)
        rw [p78.1, p78.2.1]
        have b80 : Bd x79 0 1 := p78.2.2.1
        refine J_callVV E cal_X8_due wd1051 rfl (S_X8.h S0) [.int x79] [] (ct_X8_due l D dA G v34 w (o36) h0 S0 x79 b80) rfl rfl (Nat.le_of_ble_eq_true rfl) ⟨rfl, rfl⟩ ⟨Nat.le_of_ble_eq_true rfl, Nat.le_of_ble_eq_true rfl⟩ dX8_read_60 (fun v81 w82 p83 => ?_)
        have ew9 : w = w82 := p83.2.2.2.2.1.1.symm
        subst ew9
        have o85 := p83.1
        have ev81 : v81 = F_X8_due G w v34 h0 (F_X8_may G w v34 h0 (v34 h0 8)) := by rw [← e75, ← p78.2.2.2.2]; exact p83.2.2.2.2.1.2
        have f87 : Fr G [8, 116, 1084] v v81 := Fr.tr f38 (p83.2.2.2.2.2) (by decide)
        refine J_aload_n E dX8_read_63 1 rfl ?_
        refine J_getI E in_X8 rfl (S_X8.h S0) 10 (by decide) wd945 rfl dX8_read_64 (fun x88 e89 => ?_)
        have b90 : Bd x88 0 1 := Ok.fd o85 e89 (S_X8.h S0) rfl
        refine J_if_ne E 103 dX8_read_67 (by decide) (fun c91 => ?_) (fun c91 => ?_)
        · have b92 : Bd x88 1 1 := (Bd.ne_lo c91 b90 (Bd.lit 0 0 (by decide))).w _ _ (by decide)
          exact J.sub [1] rfl (J103 v81 (o85) f87 (Or.inl (by rw [← e89]; exact c91)) hM (by rw [← hK, K_X8_read_49, ← ev81, if_neg (by rw [← e89]; exact c91)]))
        · have b93 : Bd x88 0 0 := Bd.eq_l c91 b90 (Bd.lit 0 0 (by decide)) 0 0 (by decide)
          have g94 := (p83.2.2.1).resolve_left (fun h9 => h9 (by rw [← e89]; exact c91))
          refine J_aload_n E dX8_read_70 1 rfl ?_
          refine J_iload_n E dX8_read_71 0 rfl ?_
          refine J_callVV E cal_X8_item wd1055 rfl (S_X8.h S0) [.int x74] [] (ct_X8_item l D dA G v81 w (o85) h0 S0 x74 (by rw [Fr.at (p83.2.2.2.2.2) (S_X8.f1 S0) rfl 738]; exact ((p78.2.2.2.1).resolve_left g94.1).1) (by rw [Fr.at (p83.2.2.2.2.2) (S_X8.f1 S0) rfl 739]; exact ((p78.2.2.2.1).resolve_left g94.1).2)) rfl rfl (Nat.le_of_ble_eq_true rfl) ⟨rfl, rfl⟩ ⟨Nat.le_of_ble_eq_true rfl, Nat.le_of_ble_eq_true rfl⟩ dX8_read_72 (fun v95 w96 p97 => ?_)
          have ew8 : w = w96 := p97.2.2.2.1.1.symm
          subst ew8
          have o99 := p97.1
          have ev95 : v95 = F_X8_item G w v81 h0 (v34 h0 8) := by rw [← e75]; exact p97.2.2.2.1.2
          have f101 : Fr G [8, 116, 1084] v v95 := Fr.tr f87 (p97.2.2.2.2) (by decide)
          have hP : x40.toInt ≤ (v95 h0 6).toInt ∧ (v95 h0 8 = 8 ∨ x40.toInt < (v95 h0 6).toInt) := by rw [e41]; exact Ps.tr g94.2.2 p97.2.2.1
          refine J_aload_n E dX8_read_75 1 rfl ?_
          refine J_aload_n E dX8_read_76 1 rfl ?_
          refine J_getI E in_X8 rfl (S_X8.h S0) 8 (by decide) wd943 rfl dX8_read_77 (fun x102 e103 => ?_)
          refine J_bipush E 7 dX8_read_80 (by decide) ?_
          refine J_icmp_ne E 89 dX8_read_82 (by decide) (fun c104 => ?_) (fun c104 => ?_)
          · refine J_iconst E 0 dX8_read_89 (by decide) ?_
            exact J.sub [1] rfl (J90 v95 (o99) f101 0 ((Bd.lit 0 0 (by decide)).w 0 1 (by decide)) hP (Or.inl rfl) hM (by rw [← hK, K_X8_read_49, ← ev81, if_pos (by rw [← e89]; exact c91), ← ev95, if_neg (by rw [← e103]; exact c104)]))
          · have b105 : Bd x102 7 7 := Bd.eq_l c104 (Bd.any x102) (Bd.lit 7 7 (by decide)) 7 7 (by decide)
            refine J_iconst E 1 dX8_read_85 (by decide) ?_
            refine J_goto E 90 dX8_read_86 (by decide) ?_
            exact J.sub [1] rfl (J90 v95 (o99) f101 1 ((Bd.lit 1 1 (by decide)).w 0 1 (by decide)) hP (Or.inr (e103.symm.trans c104)) hM (by rw [← hK, K_X8_read_49, ← ev81, if_pos (by rw [← e89]; exact c91), ← ev95, if_pos (by rw [← e103]; exact c104)]))
      refine J_aload_n E dX8_read_26 0 rfl ?_
      refine J_getI E in_X8 rfl (S_X8.h S0) 10 (by decide) wd945 rfl dX8_read_27 (fun x106 e107 => ?_)
      have b108 : Bd x106 0 1 := Ok.fd o36 e107 (S_X8.h S0) rfl
      refine J_if_ne E 106 dX8_read_30 (by decide) (fun c109 => ?_) (fun c109 => ?_)
      · have b110 : Bd x106 1 1 := (Bd.ne_lo c109 b108 (Bd.lit 0 0 (by decide))).w _ _ (by decide)
        exact J.sub [0] rfl (J106 v34 (o36) f38 (by rw [← hK, K_X8_read_26, if_neg (by rw [← e107]; exact c109)]))
      · have b111 : Bd x106 0 0 := Bd.eq_l c109 b108 (Bd.lit 0 0 (by decide)) 0 0 (by decide)
        refine J_aload_n E dX8_read_33 0 rfl ?_
        refine J_getI E in_X8 rfl (S_X8.h S0) 8 (by decide) wd943 rfl dX8_read_34 (fun x112 e113 => ?_)
        refine J_bipush E 8 dX8_read_37 (by decide) ?_
        refine J_icmp_ne E 49 dX8_read_39 (by decide) (fun c114 => ?_) (fun c114 => ?_)
        · exact J.sub [0] rfl (J49 (hmu26.resolve_left (fun q => q (e107.symm.trans c109))) (by rw [← hK, K_X8_read_26, if_pos (by rw [← e107]; exact c109), if_neg (by rw [← e113]; exact c114)]))
        · have b115 : Bd x112 8 8 := Bd.eq_l c114 (Bd.any x112) (Bd.lit 8 8 (by decide)) 8 8 (by decide)
          refine J_aload_n E dX8_read_42 0 rfl ?_
          refine J_getI E in_X8 rfl (S_X8.h S0) 11 (by decide) wd946 rfl dX8_read_43 (fun x116 e117 => ?_)
          refine J_if_ne E 106 dX8_read_46 (by decide) (fun c118 => ?_) (fun c118 => ?_)
          · exact J.sub [0] rfl (J106 v34 (o36) f38 (by rw [← hK, K_X8_read_26, if_pos (by rw [← e107]; exact c109), if_pos (by rw [← e113]; exact c114), if_neg (by rw [← e117]; exact c118)]))
          · have b119 : Bd x116 0 0 := Bd.eq_l c118 (Bd.any x116) (Bd.lit 0 0 (by decide)) 0 0 (by decide)
            exact J.sub [0] rfl (J49 (hmu26.resolve_left (fun q => q (e107.symm.trans c109))) (by rw [← hK, K_X8_read_26, if_pos (by rw [← e107]; exact c109), if_pos (by rw [← e113]; exact c114), if_pos (by rw [← e117]; exact c118)]))
  refine J_aload_n E dX8_read_0 0 rfl ?_
  refine J_iconst E 0 dX8_read_1 (by decide) ?_
  refine J_pI E in_X8 rfl (S_X8.h S0) 6 (by decide) wd941 tyX8 tyX8_ok nmX8 rfl rfl .int (by decide +kernel) rfl rfl dX8_read_2 (fun v120 e121 => ?_)
  have o122 : Ok G v120 w := Ok.pf hOk e121 (S_X8.h S0) rfl ((Bd.lit 0 0 (by decide)).w 0 150 (by decide))
  have f124 : Fr G [8, 116, 1084] v v120 := Fr.st Fr.rf e121 (S_X8.h S0) rfl
  have e125 : (0 : Int32) = v120 h0 6 := by rw [e121, stv_s]
  refine J_aload_n E dX8_read_5 0 rfl ?_
  refine J_iconst E 0 dX8_read_6 (by decide) ?_
  refine J_pI E in_X8 rfl (S_X8.h S0) 10 (by decide) wd945 tyX8 tyX8_ok nmX8 rfl rfl .boolean (by decide +kernel) (Bd.z (Bd.lit 0 0 (by decide)) (by decide)) (Bd.zf (Bd.lit 0 0 (by decide)) (by decide)) dX8_read_7 (fun v126 e127 => ?_)
  have o128 : Ok G v126 w := Ok.pf o122 e127 (S_X8.h S0) rfl ((Bd.lit 0 0 (by decide)).w 0 1 (by decide))
  have e130 : 0 = v126 h0 6 := by rw [e127, stv_k (by decide)]; exact e125
  have f131 : Fr G [8, 116, 1084] v v126 := Fr.st f124 e127 (S_X8.h S0) rfl
  have e132 : (0 : Int32) = v126 h0 10 := by rw [e127, stv_s]
  refine J_aload_n E dX8_read_10 0 rfl ?_
  refine J_iconst E 0 dX8_read_11 (by decide) ?_
  refine J_pI E in_X8 rfl (S_X8.h S0) 11 (by decide) wd946 tyX8 tyX8_ok nmX8 rfl rfl .int (by decide +kernel) rfl rfl dX8_read_12 (fun v133 e134 => ?_)
  have o135 : Ok G v133 w := Ok.pf o128 e134 (S_X8.h S0) rfl ((Bd.lit 0 0 (by decide)).w I0 I1 (by decide))
  have e137 : 0 = v133 h0 6 := by rw [e134, stv_k (by decide)]; exact e130
  have e138 : 0 = v133 h0 10 := by rw [e134, stv_k (by decide)]; exact e132
  have f139 : Fr G [8, 116, 1084] v v133 := Fr.st f131 e134 (S_X8.h S0) rfl
  have e140 : (0 : Int32) = v133 h0 11 := by rw [e134, stv_s]
  refine J_aload_n E dX8_read_15 0 rfl ?_
  refine J_sipush E 738 dX8_read_16 (by decide) ?_
  refine J_callVV E cal_X8_begin wd931 rfl (S_X8.h S0) [.int 738] [] (ct_X8_begin_738 l D dA G v133 w (o135) h0 S0) rfl rfl (Nat.le_of_ble_eq_true rfl) ⟨rfl, rfl⟩ ⟨Nat.le_of_ble_eq_true rfl, Nat.le_of_ble_eq_true rfl⟩ dX8_read_19 (fun v141 w142 p143 => ?_)
  have ew9 : w = w142 := p143.2.2.1.1.symm
  subst ew9
  have o145 := p143.1
  have f147 : Fr G [8, 116, 1084] v v141 := Fr.tr f139 (p143.2.2.2) (by decide)
  refine J_aload_n E dX8_read_22 0 rfl ?_
  refine J_callVV E cal_X8_step wd1031 rfl (S_X8.h S0) [] [] (ct_X8_step l D dA G v141 w (o145) h0 S0) rfl rfl (Nat.le_of_ble_eq_true rfl) ⟨rfl, rfl⟩ ⟨Nat.le_of_ble_eq_true rfl, Nat.le_of_ble_eq_true rfl⟩ dX8_read_23 (fun v148 w149 p150 => ?_)
  have ew8 : w = w149 := p150.2.2.2.2.2.1.1.symm
  subst ew8
  have o152 := p150.1
  have f154 : Fr G [8, 116, 1084] v v148 := Fr.tr f147 (p150.2.2.2.2.2.2) (by decide)
  obtain ⟨x155, e156⟩ : ∃ z : Int32, z = v148 h0 6 := ⟨_, rfl⟩
  have b157 : Bd x155 0 150 := Ok.fd o152 e156 (S_X8.h S0) rfl
  exact J.sub [0] rfl (J26 151 v148 (o152) f154 x155 (e156) b157 (Or.inr (Mu.start _ b157 (by decide))) (by rw [p150.2.2.2.2.2.1.2, p143.2.2.1.2, e134, e127, e121]; rfl))


abbrev rm_X8_know : Room := { frames := 0, cells := 0, slots := 0, locals := 0 }
set_option maxHeartbeats 4000000 in
set_option maxRecDepth 100000 in
theorem ct_X8_know (l : Launch) (D : va_G) (dA : Nat → ClassId) (G : Gm) (v : Mv) (w : Mw) (hOk : Ok G v w) (h0 : Nat) (S0 : S_X8 G h0) : CtV l yX8_know cX8_know 2 none rm_X8_know D dA G [.ref h0] v w (fun v1 w1 => Ok G v1 w1 ∧ Kp G v v1 ∧ Fr G [1084] v v1) := by
  refine CtV.of RX8 [(0, .ref h0)] (Nat.le_of_ble_eq_true rfl) rfl (by decide) rfl ?_
  intro p e s m args below meth c E hr
  have J56 : ∀ n56 : Nat, ∀ (v1 : Mv) (w2 : Mw), Ok G v1 w2 → Kp G v v1 → Fr G [1084] v v1 → ∀ x6 : Int32, Bd x6 0 16 → ∀ x9 : Int32, x9 = v1 (rf G h0 1) 5 → Bd x9 0 7 → Mu x6 16 n56 → J p l e rm_X8_know s m args below meth c 0 0 (MQ below (QcV D dA G (fun v1 w1 => Ok G v1 w1 ∧ Kp G v v1 ∧ Fr G [1084] v v1)) args s 0 0 (dm G)) D dA G (dm G) s.heap 2 v1 w2 [(0, .ref h0), (1, .int x6)] 56 [] := by
    intro n56
    induction n56 with
    | zero => intro v1 w2 o3 k4 f5 x6 b7 x9 e10 b8 hm; exact hm.zero b7 (by decide)
    | succ n56 ih56 =>
      intro v1 w2 o3 k4 f5 x6 b7 x9 e10 b8 hmu56
      refine J_iload_n E dX8_know_56 1 rfl ?_
      refine J_bipush E 16 dX8_know_57 (by decide) ?_
      refine J_icmp_ge E 96 dX8_know_59 (by decide) (fun c11 => ?_) (fun c11 => ?_)
      · have b12 : Bd x6 16 16 := Bd.le_r c11 (Bd.lit 16 16 (by decide)) b7 16 (by decide)
        refine J_aload_n E dX8_know_96 0 rfl ?_
        refine J_getR E in_X8 rfl (S_X8.h S0) 1 (by decide) wd936 rfl dX8_know_97 ?_
        refine J_iconst E 5 dX8_know_100 (by decide) ?_
        refine J_dup2 E dX8_know_101 rfl rfl ?_
        refine J_iald1 E (S_X8.f1 S0) (Bd.in (Bd.lit 5 5 (by decide)) (by decide)) dX8_know_102 (fun x13 e14 => ?_)
        have b15 : Bd x13 0 8 := Bd.e (Ok.ld o3 (S_X8.f1 S0) (Bd.lit 5 5 (by decide)) 5 1 0 8 (by decide) (by decide +kernel)) e14
        have e14q : x13 = x9 := by rw [e14, Bd.ix (Bd.lit 5 5 (by decide)) 5 rfl]; exact (e10).symm
        rw [e14q]
        refine J_iconst E 1 dX8_know_103 (by decide) ?_
        refine J_iadd E dX8_know_104 (fun x16 e17 => ?_)
        have b18 : Bd x16 1 8 := (Bd.add e17 b8 (Bd.lit 1 1 (by decide)) (by decide)).w _ _ (by decide)
        refine J_iast1 E (S_X8.f1 S0) (Bd.in (Bd.lit 5 5 (by decide)) (by decide)) dX8_know_105 (fun v19 e20 => ?_)
        have o21 : Ok G v19 w2 := by rw [e20]; exact Ok.sv o3 (S_X8.f1 S0) (Bd.lit 5 5 (by decide)) b18 5 1 (by decide) (by decide +kernel)
        have k22 : Kp G v v19 := by rw [e20]; exact Kp.sv k4 (S_X8.f1 S0) (Bd.lit 5 5 (by decide)) 5 1 1 8 (by decide) (by decide +kernel)
        have f23 : Fr G [1084] v v19 := Fr.st f5 e20 (S_X8.f1 S0) rfl
        have e24 : (x16 : Int32) = v19 (rf G h0 1) 5 := by rw [e20, Bd.ix (Bd.lit 5 5 (by decide)) 5 rfl, stv_s]
        exact J_vret E hr dX8_know_106 ⟨o21, k22, f23⟩
      · have b25 : Bd x6 0 15 := Bd.lt_l (nle c11) b7 (Bd.lit 16 16 (by decide)) 15 (by decide)
        refine J_aload_n E dX8_know_62 0 rfl ?_
        refine J_getR E in_X8 rfl (S_X8.h S0) 1 (by decide) wd936 rfl dX8_know_63 ?_
        refine J_bipush E 118 dX8_know_66 (by decide) ?_
        refine J_bipush E 16 dX8_know_68 (by decide) ?_
        refine J_aload_n E dX8_know_70 0 rfl ?_
        refine J_getR E in_X8 rfl (S_X8.h S0) 1 (by decide) wd936 rfl dX8_know_71 ?_
        refine J_iconst E 5 dX8_know_74 (by decide) ?_
        refine J_iald1 E (S_X8.f1 S0) (Bd.in (Bd.lit 5 5 (by decide)) (by decide)) dX8_know_75 (fun x26 e27 => ?_)
        have b28 : Bd x26 0 8 := Bd.e (Ok.ld o3 (S_X8.f1 S0) (Bd.lit 5 5 (by decide)) 5 1 0 8 (by decide) (by decide +kernel)) e27
        have e27q : x26 = x9 := by rw [e27, Bd.ix (Bd.lit 5 5 (by decide)) 5 rfl]; exact (e10).symm
        rw [e27q]
        refine J_imul E dX8_know_76 (fun x29 e30 => ?_)
        have b31 : Bd x29 0 112 := Bd.mul e30 (Bd.lit 16 16 (by decide)) b8 (by decide)
        refine J_iadd E dX8_know_77 (fun x32 e33 => ?_)
        have b34 : Bd x32 118 230 := (Bd.add e33 (Bd.lit 118 118 (by decide)) b31 (by decide)).w _ _ (by decide)
        refine J_iload_n E dX8_know_78 1 rfl ?_
        refine J_iadd E dX8_know_79 (fun x35 e36 => ?_)
        have b37 : Bd x35 118 245 := (Bd.add e36 b34 b25 (by decide)).w _ _ (by decide)
        refine J_aload_n E dX8_know_80 0 rfl ?_
        refine J_getR E in_X8 rfl (S_X8.h S0) 1 (by decide) wd936 rfl dX8_know_81 ?_
        refine J_bipush E 34 dX8_know_84 (by decide) ?_
        refine J_iload_n E dX8_know_86 1 rfl ?_
        refine J_iadd E dX8_know_87 (fun x38 e39 => ?_)
        have b40 : Bd x38 34 49 := (Bd.add e39 (Bd.lit 34 34 (by decide)) b25 (by decide)).w _ _ (by decide)
        refine J_iald1 E (S_X8.f1 S0) (Bd.in b40 (by decide)) dX8_know_88 (fun x41 e42 => ?_)
        refine J_iast1 E (S_X8.f1 S0) (Bd.in b37 (by decide)) dX8_know_89 (fun v43 e44 => ?_)
        have o45 : Ok G v43 w2 := by rw [e44]; exact Ok.cp o3 (S_X8.f1 S0) (S_X8.f1 S0) e42 (Bd.in b40 (by decide)) (by rw [ix_u e30 e33 e36 b8 b25, ix_add e39 (Bd.lit 34 34 (by decide)) b25 (by decide)]; exact tb_k2 _ (ix_le b8 8 (by decide)) _ (ix_le b25 16 (by decide)))
        have k46 : Kp G v v43 := by rw [e44]; exact Kp.cpi k4 (S_X8.f1 S0) (by rw [ix_u e30 e33 e36 b8 b25]; exact tb_n2 _ (ix_le b8 8 (by decide)) _ (ix_le b25 16 (by decide)))
        have f47 : Fr G [1084] v v43 := Fr.st f5 e44 (S_X8.f1 S0) rfl
        have e48 : x9 = v43 (rf G h0 1) 5 := by rw [e44, stv_k (Bd.nix b37 5 (by decide))]; exact e10
        refine J_iinc E 1 1 (fun z => [(1, .int z), (0, .ref h0)]) dX8_know_90 rfl (by decide) (by decide) (fun _ => rfl) (fun x49 e50 => ?_)
        have b51 : Bd x49 1 16 := (Bd.add e50 b25 (Bd.lit 1 1 (by decide)) (by decide)).w _ _ (by decide)
        refine J_goto E 56 dX8_know_93 (by decide) ?_
        exact J.sub [1, 0] rfl (ih56 v43 w2 (o45) (k46) f47 x49 (b51.w 0 16 (by decide)) x9 (e48) b8 (Mu.step hmu56 e50 b25 (Bd.lit 1 1 (by decide)) (by decide)))
  have J54 : ∀ (v52 : Mv) (w53 : Mw), Ok G v52 w53 → Kp G v v52 → Fr G [1084] v v52 → ∀ x58 : Int32, x58 = v52 (rf G h0 1) 5 → Bd x58 0 7 → J p l e rm_X8_know s m args below meth c 0 0 (MQ below (QcV D dA G (fun v1 w1 => Ok G v1 w1 ∧ Kp G v v1 ∧ Fr G [1084] v v1)) args s 0 0 (dm G)) D dA G (dm G) s.heap 2 v52 w53 [(0, .ref h0)] 54 [] := by
    intro v52 w53 o54 k55 f56 x58 e59 b57
    refine J_iconst E 0 dX8_know_54 (by decide) ?_
    refine J_istore_n E [(1, .int 0), (0, .ref h0)] dX8_know_55 rfl (by decide) rfl ?_
    exact J.sub [1, 0] rfl (J56 17 v52 w53 (o54) (k55) f56 0 ((Bd.lit 0 0 (by decide)).w 0 16 (by decide)) x58 (e59) b57 (Mu.start _ (Bd.lit 0 0 (by decide)) (by decide)))
  have J13 : ∀ n13 : Nat, ∀ (v60 : Mv) (w61 : Mw), Ok G v60 w61 → Kp G v v60 → Fr G [1084] v v60 → ∀ x65 : Int32, Bd x65 0 112 → ∀ x68 : Int32, x68 = v60 (rf G h0 1) 5 → Bd x68 8 8 → Mu x65 112 n13 → J p l e rm_X8_know s m args below meth c 0 0 (MQ below (QcV D dA G (fun v1 w1 => Ok G v1 w1 ∧ Kp G v v1 ∧ Fr G [1084] v v1)) args s 0 0 (dm G)) D dA G (dm G) s.heap 2 v60 w61 [(0, .ref h0), (1, .int x65)] 13 [] := by
    intro n13
    induction n13 with
    | zero => intro v60 w61 o62 k63 f64 x65 b66 x68 e69 b67 hm; exact hm.zero b66 (by decide)
    | succ n13 ih13 =>
      intro v60 w61 o62 k63 f64 x65 b66 x68 e69 b67 hmu13
      refine J_iload_n E dX8_know_13 1 rfl ?_
      refine J_bipush E 112 dX8_know_14 (by decide) ?_
      refine J_icmp_ge E 44 dX8_know_16 (by decide) (fun c70 => ?_) (fun c70 => ?_)
      · have b71 : Bd x65 112 112 := Bd.le_r c70 (Bd.lit 112 112 (by decide)) b66 112 (by decide)
        refine J_aload_n E dX8_know_44 0 rfl ?_
        refine J_getR E in_X8 rfl (S_X8.h S0) 1 (by decide) wd936 rfl dX8_know_45 ?_
        refine J_iconst E 5 dX8_know_48 (by decide) ?_
        refine J_dup2 E dX8_know_49 rfl rfl ?_
        refine J_iald1 E (S_X8.f1 S0) (Bd.in (Bd.lit 5 5 (by decide)) (by decide)) dX8_know_50 (fun x72 e73 => ?_)
        have b74 : Bd x72 0 8 := Bd.e (Ok.ld o62 (S_X8.f1 S0) (Bd.lit 5 5 (by decide)) 5 1 0 8 (by decide) (by decide +kernel)) e73
        have e73q : x72 = x68 := by rw [e73, Bd.ix (Bd.lit 5 5 (by decide)) 5 rfl]; exact (e69).symm
        rw [e73q]
        refine J_iconst E 1 dX8_know_51 (by decide) ?_
        refine J_isub E dX8_know_52 (fun x75 e76 => ?_)
        have b77 : Bd x75 7 7 := (Bd.sub e76 b67 (Bd.lit 1 1 (by decide)) (by decide)).w _ _ (by decide)
        refine J_iast1 E (S_X8.f1 S0) (Bd.in (Bd.lit 5 5 (by decide)) (by decide)) dX8_know_53 (fun v78 e79 => ?_)
        have o80 : Ok G v78 w61 := by rw [e79]; exact Ok.sv o62 (S_X8.f1 S0) (Bd.lit 5 5 (by decide)) b77 5 1 (by decide) (by decide +kernel)
        have k81 : Kp G v v78 := by rw [e79]; exact Kp.sv k63 (S_X8.f1 S0) (Bd.lit 5 5 (by decide)) 5 1 7 7 (by decide) (by decide +kernel)
        have f82 : Fr G [1084] v v78 := Fr.st f64 e79 (S_X8.f1 S0) rfl
        have e83 : (x75 : Int32) = v78 (rf G h0 1) 5 := by rw [e79, Bd.ix (Bd.lit 5 5 (by decide)) 5 rfl, stv_s]
        exact J.sub [0] rfl (J54 v78 w61 (o80) (k81) f82 x75 (e83) (b77.w 0 7 (by decide)))
      · have b84 : Bd x65 0 111 := Bd.lt_l (nle c70) b66 (Bd.lit 112 112 (by decide)) 111 (by decide)
        refine J_aload_n E dX8_know_19 0 rfl ?_
        refine J_getR E in_X8 rfl (S_X8.h S0) 1 (by decide) wd936 rfl dX8_know_20 ?_
        refine J_bipush E 118 dX8_know_23 (by decide) ?_
        refine J_iload_n E dX8_know_25 1 rfl ?_
        refine J_iadd E dX8_know_26 (fun x85 e86 => ?_)
        have b87 : Bd x85 118 229 := (Bd.add e86 (Bd.lit 118 118 (by decide)) b84 (by decide)).w _ _ (by decide)
        refine J_aload_n E dX8_know_27 0 rfl ?_
        refine J_getR E in_X8 rfl (S_X8.h S0) 1 (by decide) wd936 rfl dX8_know_28 ?_
        refine J_sipush E 134 dX8_know_31 (by decide) ?_
        refine J_iload_n E dX8_know_34 1 rfl ?_
        refine J_iadd E dX8_know_35 (fun x88 e89 => ?_)
        have b90 : Bd x88 134 245 := (Bd.add e89 (Bd.lit 134 134 (by decide)) b84 (by decide)).w _ _ (by decide)
        refine J_iald1 E (S_X8.f1 S0) (Bd.in b90 (by decide)) dX8_know_36 (fun x91 e92 => ?_)
        refine J_iast1 E (S_X8.f1 S0) (Bd.in b87 (by decide)) dX8_know_37 (fun v93 e94 => ?_)
        have o95 : Ok G v93 w61 := by rw [e94]; exact Ok.cp o62 (S_X8.f1 S0) (S_X8.f1 S0) e92 (Bd.in b90 (by decide)) (by rw [ix_add e86 (Bd.lit 118 118 (by decide)) b84 (by decide), ix_add e89 (Bd.lit 134 134 (by decide)) b84 (by decide)]; exact tb_k1 _ (ix_le b84 112 (by decide)))
        have k96 : Kp G v v93 := by rw [e94]; exact Kp.cpi k63 (S_X8.f1 S0) (by rw [ix_add e86 (Bd.lit 118 118 (by decide)) b84 (by decide)]; exact tb_n1 _ (ix_le b84 112 (by decide)))
        have f97 : Fr G [1084] v v93 := Fr.st f64 e94 (S_X8.f1 S0) rfl
        have e98 : x68 = v93 (rf G h0 1) 5 := by rw [e94, stv_k (Bd.nix b87 5 (by decide))]; exact e69
        refine J_iinc E 1 1 (fun z => [(1, .int z), (0, .ref h0)]) dX8_know_38 rfl (by decide) (by decide) (fun _ => rfl) (fun x99 e100 => ?_)
        have b101 : Bd x99 1 112 := (Bd.add e100 b84 (Bd.lit 1 1 (by decide)) (by decide)).w _ _ (by decide)
        refine J_goto E 13 dX8_know_41 (by decide) ?_
        exact J.sub [1, 0] rfl (ih13 v93 w61 (o95) (k96) f97 x99 (b101.w 0 112 (by decide)) x68 (e98) b67 (Mu.step hmu13 e100 b84 (Bd.lit 1 1 (by decide)) (by decide)))
  refine J_aload_n E dX8_know_0 0 rfl ?_
  refine J_getR E in_X8 rfl (S_X8.h S0) 1 (by decide) wd936 rfl dX8_know_1 ?_
  refine J_iconst E 5 dX8_know_4 (by decide) ?_
  refine J_iald1 E (S_X8.f1 S0) (Bd.in (Bd.lit 5 5 (by decide)) (by decide)) dX8_know_5 (fun x102 e103 => ?_)
  have b104 : Bd x102 0 8 := Bd.e (Ok.ld hOk (S_X8.f1 S0) (Bd.lit 5 5 (by decide)) 5 1 0 8 (by decide) (by decide +kernel)) e103
  have e105 : x102 = v (rf G h0 1) 5 := by rw [e103, Bd.ix (Bd.lit 5 5 (by decide)) 5 rfl]
  refine J_bipush E 8 dX8_know_6 (by decide) ?_
  refine J_icmp_ne E 54 dX8_know_8 (by decide) (fun c106 => ?_) (fun c106 => ?_)
  · have b107 : Bd x102 0 7 := (Bd.ne_hi c106 b104 (Bd.lit 8 8 (by decide))).w _ _ (by decide)
    exact J.sub [0] rfl (J54 v w (hOk) (Kp.rf) Fr.rf x102 (e105) b107)
  · have b108 : Bd x102 8 8 := Bd.eq_l c106 b104 (Bd.lit 8 8 (by decide)) 8 8 (by decide)
    refine J_iconst E 0 dX8_know_11 (by decide) ?_
    refine J_istore_n E [(1, .int 0), (0, .ref h0)] dX8_know_12 rfl (by decide) rfl ?_
    exact J.sub [1, 0] rfl (J13 113 v w (hOk) (Kp.rf) Fr.rf 0 ((Bd.lit 0 0 (by decide)).w 0 112 (by decide)) x102 (e105) b108 (Mu.start _ (Bd.lit 0 0 (by decide)) (by decide)))

abbrev rm_X8_isLost : Room := { frames := 1, cells := 0, slots := 0, locals := 21 }
set_option maxHeartbeats 4000000 in
set_option maxRecDepth 100000 in
theorem ct_X8_isLost (l : Launch) (D : va_G) (dA : Nat → ClassId) (G : Gm) (v : Mv) (w : Mw) (hOk : Ok G v w) (h0 : Nat) (S0 : S_X8 G h0) (x_0 : Int32) (bx_0 : Bd x_0 0 6) : CtI l yX8_isLost cX8_isLost 2 (some .boolean) rm_X8_isLost D dA G [.ref h0, .int x_0] v w (fun r v1 w1 => v1 = v ∧ w1 = w ∧ Bd r 0 1 ∧ True) := by
  refine CtI.of RX8 [(0, .ref h0), (1, .int x_0)] (Nat.le_of_ble_eq_true rfl) rfl (by decide) rfl ?_
  intro p e s m args below meth c E hr
  refine J_aload_n E dX8_isLost_0 0 rfl ?_
  refine J_getR E in_X8 rfl (S_X8.h S0) 1 (by decide) wd936 rfl dX8_isLost_1 ?_
  refine J_bipush E 35 dX8_isLost_4 (by decide) ?_
  refine J_iald1 E (S_X8.f1 S0) (Bd.in (Bd.lit 35 35 (by decide)) (by decide)) dX8_isLost_6 (fun x1 e2 => ?_)
  have e3 : x1 = v (rf G h0 1) 35 := by rw [e2, Bd.ix (Bd.lit 35 35 (by decide)) 35 rfl]
  refine J_iload_n E dX8_isLost_7 1 rfl ?_
  refine J_callSI E cal_X8_has wd1075 [.int x1, .int x_0] [] (ct_X8_has l D dA G v w (hOk) x1 x_0 (bx_0.w 0 9 (by decide))) rfl rfl (Nat.le_of_ble_eq_true rfl) ⟨rfl, rfl⟩ ⟨Nat.le_of_ble_eq_true rfl, Nat.le_of_ble_eq_true rfl⟩ dX8_isLost_8 (fun x7 v4 w5 p6 => ?_)
  rw [p6.1, p6.2.1]
  have b8 : Bd x7 0 1 := p6.2.2.1
  exact J_zret E hr (Bd.z b8 (by decide)) dX8_isLost_11 ⟨rfl, rfl, b8, trivial⟩

abbrev rm_X8_owns : Room := { frames := 3, cells := 0, slots := 0, locals := 72 }
set_option maxHeartbeats 4000000 in
set_option maxRecDepth 100000 in
theorem ct_X8_owns (l : Launch) (D : va_G) (dA : Nat → ClassId) (G : Gm) (v : Mv) (w : Mw) (hOk : Ok G v w) (h0 : Nat) (S0 : S_X8 G h0) (x_0 : Int32) (x_1 : Int32) : CtI l yX8_owns cX8_owns 3 (some .int) rm_X8_owns D dA G [.ref h0, .int x_0, .int x_1] v w (fun r v1 w1 => Ok G v1 w1 ∧ Kp G v v1 ∧ True ∧ Fr G [103, 1084] v v1) := by
  refine CtI.of RX8 [(0, .ref h0), (1, .int x_0), (2, .int x_1)] (Nat.le_of_ble_eq_true rfl) rfl (by decide) rfl ?_
  intro p e s m args below meth c E hr
  have J58 :  J p l e rm_X8_owns s m args below meth c 0 0 (MQ below (QcI D dA G (fun r v1 w1 => Ok G v1 w1 ∧ Kp G v v1 ∧ True ∧ Fr G [103, 1084] v v1)) args s 0 0 (dm G)) D dA G (dm G) s.heap 3 v w [(0, .ref h0)] 58 [] := by
    refine J_aload_n E dX8_owns_58 0 rfl ?_
    refine J_callVI E cal_X8_no wd1132 rfl (S_X8.h S0) [] [] (ct_X8_no l D dA G v w (hOk) h0 S0) rfl rfl (Nat.le_of_ble_eq_true rfl) ⟨rfl, rfl⟩ ⟨Nat.le_of_ble_eq_true rfl, Nat.le_of_ble_eq_true rfl⟩ dX8_owns_59 (fun x4 v1 w2 p3 => ?_)
    have ew9 : w = w2 := p3.2.2.2.1.1.symm
    subst ew9
    have o5 := p3.1
    have k6 : Kp G v v1 := (Kp.rf).tr p3.2.1
    have f7 : Fr G [103, 1084] v v1 := Fr.tr Fr.rf (p3.2.2.2.2) (by decide)
    have b8 : Bd x4 (-3) (-3) := p3.2.2.1
    exact J_iret E hr dX8_owns_62 ⟨o5, k6, trivial, f7⟩
  have J16 :  J p l e rm_X8_owns s m args below meth c 0 0 (MQ below (QcI D dA G (fun r v1 w1 => Ok G v1 w1 ∧ Kp G v v1 ∧ True ∧ Fr G [103, 1084] v v1)) args s 0 0 (dm G)) D dA G (dm G) s.heap 3 v w [(0, .ref h0)] 16 [] := by
    refine J_aload_n E dX8_owns_16 0 rfl ?_
    refine J_callVI E cal_X8_bad wd999 rfl (S_X8.h S0) [] [] (ct_X8_bad l D dA G v w (hOk) h0 S0) rfl rfl (Nat.le_of_ble_eq_true rfl) ⟨rfl, rfl⟩ ⟨Nat.le_of_ble_eq_true rfl, Nat.le_of_ble_eq_true rfl⟩ dX8_owns_17 (fun x12 v9 w10 p11 => ?_)
    have ew9 : w = w10 := p11.2.2.2.1.1.symm
    subst ew9
    have o13 := p11.1
    have k14 : Kp G v v9 := (Kp.rf).tr p11.2.1
    have f15 : Fr G [103, 1084] v v9 := Fr.tr Fr.rf (p11.2.2.2.2) (by decide)
    have b16 : Bd x12 (-2) (-2) := p11.2.2.1
    exact J_iret E hr dX8_owns_20 ⟨o13, k14, trivial, f15⟩
  refine J_aload_n E dX8_owns_0 0 rfl ?_
  refine J_iload_n E dX8_owns_1 1 rfl ?_
  refine J_callVI E cal_X8_isOne wd1120 rfl (S_X8.h S0) [.int x_0] [] (ct_X8_isOne l D dA G v w (hOk) h0 S0 x_0) rfl rfl (Nat.le_of_ble_eq_true rfl) ⟨rfl, rfl⟩ ⟨Nat.le_of_ble_eq_true rfl, Nat.le_of_ble_eq_true rfl⟩ dX8_owns_2 (fun x20 v17 w18 p19 => ?_)
  rw [p19.1, p19.2.1]
  have b21 : Bd x20 0 1 := p19.2.2.1
  refine J_if_eq E 16 dX8_owns_5 (by decide) (fun c22 => ?_) (fun c22 => ?_)
  · have b23 : Bd x20 0 0 := Bd.eq_l c22 b21 (Bd.lit 0 0 (by decide)) 0 0 (by decide)
    exact J.sub [0] rfl (J16)
  · have b24 : Bd x20 1 1 := (Bd.ne_lo c22 b21 (Bd.lit 0 0 (by decide))).w _ _ (by decide)
    have b25 : Bd x_0 0 6 := (p19.2.2.2.1).resolve_left c22
    refine J_aload_n E dX8_owns_8 0 rfl ?_
    refine J_iload_n E dX8_owns_9 2 rfl ?_
    refine J_callVI E cal_X8_isThing wd1124 rfl (S_X8.h S0) [.int x_1] [] (ct_X8_isThing l D dA G v w (hOk) h0 S0 x_1) rfl rfl (Nat.le_of_ble_eq_true rfl) ⟨rfl, rfl⟩ ⟨Nat.le_of_ble_eq_true rfl, Nat.le_of_ble_eq_true rfl⟩ dX8_owns_10 (fun x29 v26 w27 p28 => ?_)
    rw [p28.1, p28.2.1]
    have b30 : Bd x29 0 1 := p28.2.2.1
    refine J_if_ne E 21 dX8_owns_13 (by decide) (fun c31 => ?_) (fun c31 => ?_)
    · have b32 : Bd x29 1 1 := (Bd.ne_lo c31 b30 (Bd.lit 0 0 (by decide))).w _ _ (by decide)
      have b33 : Bd x_1 0 6 := (p28.2.2.2.1).resolve_left c31
      refine J_aload_n E dX8_owns_21 0 rfl ?_
      refine J_iload_n E dX8_owns_22 1 rfl ?_
      refine J_callVI E cal_X8_isLost wd1128 rfl (S_X8.h S0) [.int x_0] [] (ct_X8_isLost l D dA G v w (hOk) h0 S0 x_0 b25) rfl rfl (Nat.le_of_ble_eq_true rfl) ⟨rfl, rfl⟩ ⟨Nat.le_of_ble_eq_true rfl, Nat.le_of_ble_eq_true rfl⟩ dX8_owns_23 (fun x37 v34 w35 p36 => ?_)
      rw [p36.1, p36.2.1]
      have b38 : Bd x37 0 1 := p36.2.2.1
      refine J_if_ne E 58 dX8_owns_26 (by decide) (fun c39 => ?_) (fun c39 => ?_)
      · have b40 : Bd x37 1 1 := (Bd.ne_lo c39 b38 (Bd.lit 0 0 (by decide))).w _ _ (by decide)
        exact J.sub [0] rfl (J58)
      · have b41 : Bd x37 0 0 := Bd.eq_l c39 b38 (Bd.lit 0 0 (by decide)) 0 0 (by decide)
        refine J_aload_n E dX8_owns_29 0 rfl ?_
        refine J_getR E in_X8 rfl (S_X8.h S0) 1 (by decide) wd936 rfl dX8_owns_30 ?_
        refine J_bipush E 43 dX8_owns_33 (by decide) ?_
        refine J_iload_n E dX8_owns_35 1 rfl ?_
        refine J_iadd E dX8_owns_36 (fun x42 e43 => ?_)
        have b44 : Bd x42 43 49 := (Bd.add e43 (Bd.lit 43 43 (by decide)) b25 (by decide)).w _ _ (by decide)
        refine J_iald1 E (S_X8.f1 S0) (Bd.in b44 (by decide)) dX8_owns_37 (fun x45 e46 => ?_)
        have b47 : Bd x45 (-1) 6 := Bd.e (Ok.ld hOk (S_X8.f1 S0) b44 43 7 (-1) 6 (by decide) (by decide +kernel)) e46
        refine J_iconst E (-1) dX8_owns_38 (by decide) ?_
        refine J_icmp_ne E 58 dX8_owns_39 (by decide) (fun c48 => ?_) (fun c48 => ?_)
        · have b49 : Bd x45 0 6 := (Bd.ne_lo c48 b47 (Bd.lit (-1) (-1) (by decide))).w _ _ (by decide)
          exact J.sub [0] rfl (J58)
        · have b50 : Bd x45 (-1) (-1) := Bd.eq_l c48 b47 (Bd.lit (-1) (-1) (by decide)) (-1) (-1) (by decide)
          refine J_aload_n E dX8_owns_42 0 rfl ?_
          refine J_iconst E 0 dX8_owns_43 (by decide) ?_
          refine J_aload_n E dX8_owns_44 0 rfl ?_
          refine J_getR E in_X8 rfl (S_X8.h S0) 1 (by decide) wd936 rfl dX8_owns_45 ?_
          refine J_bipush E 34 dX8_owns_48 (by decide) ?_
          refine J_iload_n E dX8_owns_50 2 rfl ?_
          refine J_callVI E cal_X8_ownerOf wd1078 rfl (S_X8.h S0) [.int 0, .ref (rf G h0 1), .int 34, .int x_1] [] (ct_X8_ownerOf_0_A_34 l D dA G v w (hOk) h0 S0 x_1 b33) rfl rfl (Nat.le_of_ble_eq_true rfl) ⟨rfl, rfl⟩ ⟨Nat.le_of_ble_eq_true rfl, Nat.le_of_ble_eq_true rfl⟩ dX8_owns_51 (fun x54 v51 w52 p53 => ?_)
          rw [p53.1, p53.2.1]
          have b55 : Bd x54 (-1) 6 := p53.2.2.1
          refine J_iconst E (-1) dX8_owns_54 (by decide) ?_
          refine J_icmp_eq E 63 dX8_owns_55 (by decide) (fun c56 => ?_) (fun c56 => ?_)
          · have b57 : Bd x54 (-1) (-1) := Bd.eq_l c56 b55 (Bd.lit (-1) (-1) (by decide)) (-1) (-1) (by decide)
            refine J_aload_n E dX8_owns_63 0 rfl ?_
            refine J_callVV E cal_X8_know wd1136 rfl (S_X8.h S0) [] [] (ct_X8_know l D dA G v w (hOk) h0 S0) rfl rfl (Nat.le_of_ble_eq_true rfl) ⟨rfl, rfl⟩ ⟨Nat.le_of_ble_eq_true rfl, Nat.le_of_ble_eq_true rfl⟩ dX8_owns_64 (fun v58 w59 p60 => ?_)
            have o62 := p60.1
            have k63 : Kp G v v58 := (Kp.rf).tr p60.2.1
            have f64 : Fr G [103, 1084] v v58 := Fr.tr Fr.rf (p60.2.2) (by decide)
            refine J_aload_n E dX8_owns_67 0 rfl ?_
            refine J_getR E in_X8 rfl (S_X8.h S0) 1 (by decide) wd936 rfl dX8_owns_68 ?_
            refine J_bipush E 43 dX8_owns_71 (by decide) ?_
            refine J_iload_n E dX8_owns_73 1 rfl ?_
            refine J_iadd E dX8_owns_74 (fun x65 e66 => ?_)
            have b67 : Bd x65 43 49 := (Bd.add e66 (Bd.lit 43 43 (by decide)) b25 (by decide)).w _ _ (by decide)
            refine J_iload_n E dX8_owns_75 2 rfl ?_
            refine J_iast1 E (S_X8.f1 S0) (Bd.in b67 (by decide)) dX8_owns_76 (fun v68 e69 => ?_)
            have o70 : Ok G v68 w59 := by rw [e69]; exact Ok.sv o62 (S_X8.f1 S0) b67 b33 43 7 (by decide) (by decide +kernel)
            have k71 : Kp G v v68 := by rw [e69]; exact Kp.sv k63 (S_X8.f1 S0) b67 43 7 0 6 (by decide) (by decide +kernel)
            have f72 : Fr G [103, 1084] v v68 := Fr.st f64 e69 (S_X8.f1 S0) rfl
            refine J_aload_n E dX8_owns_77 0 rfl ?_
            refine J_iconst E 0 dX8_owns_78 (by decide) ?_
            refine J_aload_n E dX8_owns_79 0 rfl ?_
            refine J_getR E in_X8 rfl (S_X8.h S0) 1 (by decide) wd936 rfl dX8_owns_80 ?_
            refine J_bipush E 34 dX8_owns_83 (by decide) ?_
            refine J_iload_n E dX8_owns_85 1 rfl ?_
            refine J_callVI E cal_X8_isHeld wd1094 rfl (S_X8.h S0) [.int 0, .ref (rf G h0 1), .int 34, .int x_0] [] (ct_X8_isHeld_0_A_34 l D dA G v68 w59 (o70) h0 S0 x_0 b25) rfl rfl (Nat.le_of_ble_eq_true rfl) ⟨rfl, rfl⟩ ⟨Nat.le_of_ble_eq_true rfl, Nat.le_of_ble_eq_true rfl⟩ dX8_owns_86 (fun x76 v73 w74 p75 => ?_)
            rw [p75.1, p75.2.1]
            have b77 : Bd x76 0 1 := p75.2.2.1
            refine J_if_eq E 96 dX8_owns_89 (by decide) (fun c78 => ?_) (fun c78 => ?_)
            · have b79 : Bd x76 0 0 := Bd.eq_l c78 b77 (Bd.lit 0 0 (by decide)) 0 0 (by decide)
              refine J_iconst E 0 dX8_owns_96 (by decide) ?_
              exact J_iret E hr dX8_owns_97 ⟨o70, k71, trivial, f72⟩
            · have b80 : Bd x76 1 1 := (Bd.ne_lo c78 b77 (Bd.lit 0 0 (by decide))).w _ _ (by decide)
              refine J_iconst E 1 dX8_owns_92 (by decide) ?_
              refine J_goto E 97 dX8_owns_93 (by decide) ?_
              exact J_iret E hr dX8_owns_97 ⟨o70, k71, trivial, f72⟩
          · have b81 : Bd x54 0 6 := (Bd.ne_lo c56 b55 (Bd.lit (-1) (-1) (by decide))).w _ _ (by decide)
            exact J.sub [0] rfl (J58)
    · have b82 : Bd x29 0 0 := Bd.eq_l c31 b30 (Bd.lit 0 0 (by decide)) 0 0 (by decide)
      exact J.sub [0] rfl (J16)

abbrev rm_X8_leaves : Room := { frames := 2, cells := 0, slots := 0, locals := 43 }
set_option maxHeartbeats 4000000 in
set_option maxRecDepth 100000 in
theorem ct_X8_leaves (l : Launch) (D : va_G) (dA : Nat → ClassId) (G : Gm) (v : Mv) (w : Mw) (hOk : Ok G v w) (h0 : Nat) (S0 : S_X8 G h0) (x_0 : Int32) : CtI l yX8_leaves cX8_leaves 3 (some .int) rm_X8_leaves D dA G [.ref h0, .int x_0] v w (fun r v1 w1 => Ok G v1 w1 ∧ Kp G v v1 ∧ True ∧ Fr G [103, 1084] v v1) := by
  refine CtI.of RX8 [(0, .ref h0), (1, .int x_0)] (Nat.le_of_ble_eq_true rfl) rfl (by decide) rfl ?_
  intro p e s m args below meth c E hr
  refine J_aload_n E dX8_leaves_0 0 rfl ?_
  refine J_iload_n E dX8_leaves_1 1 rfl ?_
  refine J_callVI E cal_X8_isOne wd1120 rfl (S_X8.h S0) [.int x_0] [] (ct_X8_isOne l D dA G v w (hOk) h0 S0 x_0) rfl rfl (Nat.le_of_ble_eq_true rfl) ⟨rfl, rfl⟩ ⟨Nat.le_of_ble_eq_true rfl, Nat.le_of_ble_eq_true rfl⟩ dX8_leaves_2 (fun x4 v1 w2 p3 => ?_)
  rw [p3.1, p3.2.1]
  have b5 : Bd x4 0 1 := p3.2.2.1
  refine J_if_ne E 13 dX8_leaves_5 (by decide) (fun c6 => ?_) (fun c6 => ?_)
  · have b7 : Bd x4 1 1 := (Bd.ne_lo c6 b5 (Bd.lit 0 0 (by decide))).w _ _ (by decide)
    have b8 : Bd x_0 0 6 := (p3.2.2.2.1).resolve_left c6
    refine J_aload_n E dX8_leaves_13 0 rfl ?_
    refine J_getR E in_X8 rfl (S_X8.h S0) 1 (by decide) wd936 rfl dX8_leaves_14 ?_
    refine J_bipush E 43 dX8_leaves_17 (by decide) ?_
    refine J_iload_n E dX8_leaves_19 1 rfl ?_
    refine J_iadd E dX8_leaves_20 (fun x9 e10 => ?_)
    have b11 : Bd x9 43 49 := (Bd.add e10 (Bd.lit 43 43 (by decide)) b8 (by decide)).w _ _ (by decide)
    refine J_iald1 E (S_X8.f1 S0) (Bd.in b11 (by decide)) dX8_leaves_21 (fun x12 e13 => ?_)
    have b14 : Bd x12 (-1) 6 := Bd.e (Ok.ld hOk (S_X8.f1 S0) b11 43 7 (-1) 6 (by decide) (by decide +kernel)) e13
    refine J_istore_n E [(2, .int x12), (0, .ref h0), (1, .int x_0)] dX8_leaves_22 rfl (by decide) rfl ?_
    refine J_iload_n E dX8_leaves_23 0 rfl ?_
    refine J_iconst E (-1) dX8_leaves_24 (by decide) ?_
    refine J_icmp_ne E 33 dX8_leaves_25 (by decide) (fun c15 => ?_) (fun c15 => ?_)
    · have b16 : Bd x12 0 6 := (Bd.ne_lo c15 b14 (Bd.lit (-1) (-1) (by decide))).w _ _ (by decide)
      refine J_aload_n E dX8_leaves_33 1 rfl ?_
      refine J_callVV E cal_X8_know wd1136 rfl (S_X8.h S0) [] [] (ct_X8_know l D dA G v w (hOk) h0 S0) rfl rfl (Nat.le_of_ble_eq_true rfl) ⟨rfl, rfl⟩ ⟨Nat.le_of_ble_eq_true rfl, Nat.le_of_ble_eq_true rfl⟩ dX8_leaves_34 (fun v17 w18 p19 => ?_)
      have o21 := p19.1
      have k22 : Kp G v v17 := (Kp.rf).tr p19.2.1
      have f23 : Fr G [103, 1084] v v17 := Fr.tr Fr.rf (p19.2.2) (by decide)
      refine J_aload_n E dX8_leaves_37 1 rfl ?_
      refine J_getR E in_X8 rfl (S_X8.h S0) 1 (by decide) wd936 rfl dX8_leaves_38 ?_
      refine J_bipush E 43 dX8_leaves_41 (by decide) ?_
      refine J_iload_n E dX8_leaves_43 2 rfl ?_
      refine J_iadd E dX8_leaves_44 (fun x24 e25 => ?_)
      have b26 : Bd x24 43 49 := (Bd.add e25 (Bd.lit 43 43 (by decide)) b8 (by decide)).w _ _ (by decide)
      refine J_iconst E (-1) dX8_leaves_45 (by decide) ?_
      refine J_iast1 E (S_X8.f1 S0) (Bd.in b26 (by decide)) dX8_leaves_46 (fun v27 e28 => ?_)
      have o29 : Ok G v27 w18 := by rw [e28]; exact Ok.sv o21 (S_X8.f1 S0) b26 (Bd.lit (-1) (-1) (by decide)) 43 7 (by decide) (by decide +kernel)
      have k30 : Kp G v v27 := by rw [e28]; exact Kp.sv k22 (S_X8.f1 S0) b26 43 7 (-1) (-1) (by decide) (by decide +kernel)
      have f31 : Fr G [103, 1084] v v27 := Fr.st f23 e28 (S_X8.f1 S0) rfl
      refine J_iload_n E dX8_leaves_47 0 rfl ?_
      exact J_iret E hr dX8_leaves_48 ⟨o29, k30, trivial, f31⟩
    · have b32 : Bd x12 (-1) (-1) := Bd.eq_l c15 b14 (Bd.lit (-1) (-1) (by decide)) (-1) (-1) (by decide)
      refine J_aload_n E dX8_leaves_28 1 rfl ?_
      refine J_callVI E cal_X8_no wd1132 rfl (S_X8.h S0) [] [] (ct_X8_no l D dA G v w (hOk) h0 S0) rfl rfl (Nat.le_of_ble_eq_true rfl) ⟨rfl, rfl⟩ ⟨Nat.le_of_ble_eq_true rfl, Nat.le_of_ble_eq_true rfl⟩ dX8_leaves_29 (fun x36 v33 w34 p35 => ?_)
      have ew9 : w = w34 := p35.2.2.2.1.1.symm
      subst ew9
      have o37 := p35.1
      have k38 : Kp G v v33 := (Kp.rf).tr p35.2.1
      have f39 : Fr G [103, 1084] v v33 := Fr.tr Fr.rf (p35.2.2.2.2) (by decide)
      have b40 : Bd x36 (-3) (-3) := p35.2.2.1
      exact J_iret E hr dX8_leaves_32 ⟨o37, k38, trivial, f39⟩
  · have b41 : Bd x4 0 0 := Bd.eq_l c6 b5 (Bd.lit 0 0 (by decide)) 0 0 (by decide)
    refine J_aload_n E dX8_leaves_8 0 rfl ?_
    refine J_callVI E cal_X8_bad wd999 rfl (S_X8.h S0) [] [] (ct_X8_bad l D dA G v w (hOk) h0 S0) rfl rfl (Nat.le_of_ble_eq_true rfl) ⟨rfl, rfl⟩ ⟨Nat.le_of_ble_eq_true rfl, Nat.le_of_ble_eq_true rfl⟩ dX8_leaves_9 (fun x45 v42 w43 p44 => ?_)
    have ew9 : w = w43 := p44.2.2.2.1.1.symm
    subst ew9
    have o46 := p44.1
    have k47 : Kp G v v42 := (Kp.rf).tr p44.2.1
    have f48 : Fr G [103, 1084] v v42 := Fr.tr Fr.rf (p44.2.2.2.2) (by decide)
    have b49 : Bd x45 (-2) (-2) := p44.2.2.1
    exact J_iret E hr dX8_leaves_12 ⟨o46, k47, trivial, f48⟩

abbrev rm_X8_years : Room := { frames := 4, cells := 0, slots := 0, locals := 97 }
set_option maxHeartbeats 4000000 in
set_option maxRecDepth 100000 in
theorem ct_X8_years (l : Launch) (D : va_G) (dA : Nat → ClassId) (G : Gm) (v : Mv) (w : Mw) (hOk : Ok G v w) (h0 : Nat) (S0 : S_X8 G h0) (x_0 : Int32) : CtI l yX8_years cX8_years 3 (some .int) rm_X8_years D dA G [.ref h0, .int x_0] v w (fun r v1 w1 => Ok G v1 w1 ∧ Kp G v v1 ∧ True ∧ Fr G [103, 116, 1084] v v1) := by
  refine CtI.of RX8 [(0, .ref h0), (1, .int x_0)] (Nat.le_of_ble_eq_true rfl) rfl (by decide) rfl ?_
  intro p e s m args below meth c E hr
  have J56 : ∀ (v1 : Mv) (w2 : Mw), Ok G v1 w2 → Kp G v v1 → Fr G [103, 116, 1084] v v1 → J p l e rm_X8_years s m args below meth c 0 0 (MQ below (QcI D dA G (fun r v1 w1 => Ok G v1 w1 ∧ Kp G v v1 ∧ True ∧ Fr G [103, 116, 1084] v v1)) args s 0 0 (dm G)) D dA G (dm G) s.heap 3 v1 w2 [(0, .ref h0)] 56 [] := by
    intro v1 w2 o3 k4 f5
    refine J_aload_n E dX8_years_56 0 rfl ?_
    refine J_aload_n E dX8_years_57 0 rfl ?_
    refine J_getR E in_X8 rfl (S_X8.h S0) 1 (by decide) wd936 rfl dX8_years_58 ?_
    refine J_bipush E 34 dX8_years_61 (by decide) ?_
    refine J_callVI E cal_X8_hereOf wd1148 rfl (S_X8.h S0) [.ref (rf G h0 1), .int 34] [] (ct_X8_hereOf_A_34 l D dA G v1 w2 (o3) h0 S0) rfl rfl (Nat.le_of_ble_eq_true rfl) ⟨rfl, rfl⟩ ⟨Nat.le_of_ble_eq_true rfl, Nat.le_of_ble_eq_true rfl⟩ dX8_years_63 (fun x9 v6 w7 p8 => ?_)
    rw [p8.1, p8.2.1]
    have b10 : Bd x9 0 127 := p8.2.2.1
    refine J_callSI E cal_X8_bitsOf wd1152 [.int x9] [] (ct_X8_bitsOf l D dA G v1 w2 (o3) x9) rfl rfl (Nat.le_of_ble_eq_true rfl) ⟨rfl, rfl⟩ ⟨Nat.le_of_ble_eq_true rfl, Nat.le_of_ble_eq_true rfl⟩ dX8_years_66 (fun x14 v11 w12 p13 => ?_)
    rw [p13.1, p13.2.1]
    exact J_iret E hr dX8_years_69 ⟨o3, k4, trivial, f5⟩
  have J21 : ∀ n21 : Nat, ∀ (v15 : Mv) (w16 : Mw), Ok G v15 w16 → Kp G v v15 → Fr G [103, 116, 1084] v v15 → Bd x_0 1 60 → ∀ x21 : Int32, Bd x21 0 60 → Mu x21 60 n21 → J p l e rm_X8_years s m args below meth c 0 0 (MQ below (QcI D dA G (fun r v1 w1 => Ok G v1 w1 ∧ Kp G v v1 ∧ True ∧ Fr G [103, 116, 1084] v v1)) args s 0 0 (dm G)) D dA G (dm G) s.heap 3 v15 w16 [(0, .ref h0), (1, .int x_0), (2, .int x21)] 21 [] := by
    intro n21
    induction n21 with
    | zero => intro v15 w16 o17 k18 f19 b20 x21 b22 hm; exact hm.zero b22 (by decide)
    | succ n21 ih21 =>
      intro v15 w16 o17 k18 f19 b20 x21 b22 hmu21
      refine J_iload_n E dX8_years_21 2 rfl ?_
      refine J_iload_n E dX8_years_22 1 rfl ?_
      refine J_icmp_ge E 56 dX8_years_23 (by decide) (fun c23 => ?_) (fun c23 => ?_)
      · have b24 : Bd x21 1 60 := Bd.le_r c23 b20 b22 1 (by decide)
        exact J.sub [0] rfl (J56 v15 w16 (o17) (k18) f19)
      · have b25 : Bd x21 0 59 := Bd.lt_l (nle c23) b22 b20 59 (by decide)
        refine J_aload_n E dX8_years_26 0 rfl ?_
        refine J_getR E in_X8 rfl (S_X8.h S0) 1 (by decide) wd936 rfl dX8_years_27 ?_
        refine J_bipush E 34 dX8_years_30 (by decide) ?_
        refine J_iald1 E (S_X8.f1 S0) (Bd.in (Bd.lit 34 34 (by decide)) (by decide)) dX8_years_32 (fun x26 e27 => ?_)
        have e28 : x26 = v15 (rf G h0 1) 34 := by rw [e27, Bd.ix (Bd.lit 34 34 (by decide)) 34 rfl]
        refine J_sipush E 999 dX8_years_33 (by decide) ?_
        refine J_icmp_ge E 56 dX8_years_36 (by decide) (fun c29 => ?_) (fun c29 => ?_)
        · have b30 : Bd x26 999 I1 := Bd.le_r c29 (Bd.lit 999 999 (by decide)) (Bd.any x26) 999 (by decide)
          exact J.sub [0] rfl (J56 v15 w16 (o17) (k18) f19)
        · have b31 : Bd x26 I0 998 := Bd.lt_l (nle c29) (Bd.any x26) (Bd.lit 999 999 (by decide)) 998 (by decide)
          refine J_aload_n E dX8_years_39 0 rfl ?_
          refine J_iconst E 0 dX8_years_40 (by decide) ?_
          refine J_aload_n E dX8_years_41 0 rfl ?_
          refine J_getR E in_X8 rfl (S_X8.h S0) 1 (by decide) wd936 rfl dX8_years_42 ?_
          refine J_bipush E 34 dX8_years_45 (by decide) ?_
          refine J_callVV E cal_X8_passOn wd1090 rfl (S_X8.h S0) [.int 0, .ref (rf G h0 1), .int 34] [] (ct_X8_passOn_0_A_34 l D dA G v15 w16 (o17) h0 S0) rfl rfl (Nat.le_of_ble_eq_true rfl) ⟨rfl, rfl⟩ ⟨Nat.le_of_ble_eq_true rfl, Nat.le_of_ble_eq_true rfl⟩ dX8_years_47 (fun v32 w33 p34 => ?_)
          have ew9 : w16 = w33 := p34.2.2.1.1.symm
          subst ew9
          have o36 := p34.1
          have k37 : Kp G v v32 := (k18).tr p34.2.1
          have f38 : Fr G [103, 116, 1084] v v32 := Fr.tr f19 (p34.2.2.2) (by decide)
          refine J_iinc E 2 1 (fun z => [(2, .int z), (0, .ref h0), (1, .int x_0)]) dX8_years_50 rfl (by decide) (by decide) (fun _ => rfl) (fun x39 e40 => ?_)
          have b41 : Bd x39 1 60 := (Bd.add e40 b25 (Bd.lit 1 1 (by decide)) (by decide)).w _ _ (by decide)
          refine J_goto E 21 dX8_years_53 (by decide) ?_
          exact J.sub [1, 2, 0] rfl (ih21 v32 w16 (o36) (k37) f38 b20 x39 (b41.w 0 60 (by decide)) (Mu.step hmu21 e40 b25 (Bd.lit 1 1 (by decide)) (by decide)))
  refine J_iload_n E dX8_years_0 1 rfl ?_
  refine J_iconst E 1 dX8_years_1 (by decide) ?_
  refine J_bipush E 60 dX8_years_2 (by decide) ?_
  refine J_callSI E cal_X8_in wd996 [.int x_0, .int 1, .int 60] [] (ct_X8_in l D dA G v w (hOk) x_0 1 60) rfl rfl (Nat.le_of_ble_eq_true rfl) ⟨rfl, rfl⟩ ⟨Nat.le_of_ble_eq_true rfl, Nat.le_of_ble_eq_true rfl⟩ dX8_years_4 (fun x45 v42 w43 p44 => ?_)
  rw [p44.1, p44.2.1]
  have b46 : Bd x45 0 1 := p44.2.2.1
  refine J_if_ne E 15 dX8_years_7 (by decide) (fun c47 => ?_) (fun c47 => ?_)
  · have b48 : Bd x45 1 1 := (Bd.ne_lo c47 b46 (Bd.lit 0 0 (by decide))).w _ _ (by decide)
    have g49 := (p44.2.2.2.1).resolve_left c47
    have b50 : Bd x_0 1 I1 := Bd.le_r g49.1 (Bd.lit 1 1 (by decide)) (Bd.any x_0) 1 (by decide)
    have b51 : Bd x_0 1 60 := Bd.le_l g49.2 b50 (Bd.lit 60 60 (by decide)) 60 (by decide)
    refine J_aload_n E dX8_years_15 0 rfl ?_
    refine J_callVV E cal_X8_know wd1136 rfl (S_X8.h S0) [] [] (ct_X8_know l D dA G v w (hOk) h0 S0) rfl rfl (Nat.le_of_ble_eq_true rfl) ⟨rfl, rfl⟩ ⟨Nat.le_of_ble_eq_true rfl, Nat.le_of_ble_eq_true rfl⟩ dX8_years_16 (fun v52 w53 p54 => ?_)
    have o56 := p54.1
    have k57 : Kp G v v52 := (Kp.rf).tr p54.2.1
    have f58 : Fr G [103, 116, 1084] v v52 := Fr.tr Fr.rf (p54.2.2) (by decide)
    refine J_iconst E 0 dX8_years_19 (by decide) ?_
    refine J_istore_n E [(2, .int 0), (0, .ref h0), (1, .int x_0)] dX8_years_20 rfl (by decide) rfl ?_
    exact J.sub [1, 2, 0] rfl (J21 61 v52 w53 (o56) (k57) f58 b51 0 ((Bd.lit 0 0 (by decide)).w 0 60 (by decide)) (Mu.start _ (Bd.lit 0 0 (by decide)) (by decide)))
  · have b59 : Bd x45 0 0 := Bd.eq_l c47 b46 (Bd.lit 0 0 (by decide)) 0 0 (by decide)
    have g60 : ¬ (1 ≤ x_0 ∧ x_0 ≤ 60) := (p44.2.2.2.2.1).resolve_left (fun h9 => h9 c47)
    refine J_aload_n E dX8_years_10 0 rfl ?_
    refine J_callVI E cal_X8_bad wd999 rfl (S_X8.h S0) [] [] (ct_X8_bad l D dA G v w (hOk) h0 S0) rfl rfl (Nat.le_of_ble_eq_true rfl) ⟨rfl, rfl⟩ ⟨Nat.le_of_ble_eq_true rfl, Nat.le_of_ble_eq_true rfl⟩ dX8_years_11 (fun x64 v61 w62 p63 => ?_)
    have ew9 : w = w62 := p63.2.2.2.1.1.symm
    subst ew9
    have o65 := p63.1
    have k66 : Kp G v v61 := (Kp.rf).tr p63.2.1
    have f67 : Fr G [103, 116, 1084] v v61 := Fr.tr Fr.rf (p63.2.2.2.2) (by decide)
    have b68 : Bd x64 (-2) (-2) := p63.2.2.1
    exact J_iret E hr dX8_years_14 ⟨o65, k66, trivial, f67⟩

abbrev rm_X8_undo : Room := { frames := 1, cells := 0, slots := 0, locals := 20 }
set_option maxHeartbeats 4000000 in
set_option maxRecDepth 100000 in
theorem ct_X8_undo (l : Launch) (D : va_G) (dA : Nat → ClassId) (G : Gm) (v : Mv) (w : Mw) (hOk : Ok G v w) (h0 : Nat) (S0 : S_X8 G h0) : CtI l yX8_undo cX8_undo 2 (some .int) rm_X8_undo D dA G [.ref h0] v w (fun r v1 w1 => Ok G v1 w1 ∧ Kp G v v1 ∧ True ∧ Fr G [103, 1084] v v1) := by
  refine CtI.of RX8 [(0, .ref h0)] (Nat.le_of_ble_eq_true rfl) rfl (by decide) rfl ?_
  intro p e s m args below meth c E hr
  have J26 : ∀ n26 : Nat, ∀ (v1 : Mv) (w2 : Mw), Ok G v1 w2 → Kp G v v1 → Fr G [103, 1084] v v1 → ∀ x6 : Int32, Bd x6 0 16 → ∀ x9 : Int32, x9 = v1 (rf G h0 1) 5 → Bd x9 0 7 → Mu x6 16 n26 → J p l e rm_X8_undo s m args below meth c 0 0 (MQ below (QcI D dA G (fun r v1 w1 => Ok G v1 w1 ∧ Kp G v v1 ∧ True ∧ Fr G [103, 1084] v v1)) args s 0 0 (dm G)) D dA G (dm G) s.heap 2 v1 w2 [(0, .ref h0), (1, .int x6)] 26 [] := by
    intro n26
    induction n26 with
    | zero => intro v1 w2 o3 k4 f5 x6 b7 x9 e10 b8 hm; exact hm.zero b7 (by decide)
    | succ n26 ih26 =>
      intro v1 w2 o3 k4 f5 x6 b7 x9 e10 b8 hmu26
      refine J_iload_n E dX8_undo_26 1 rfl ?_
      refine J_bipush E 16 dX8_undo_27 (by decide) ?_
      refine J_icmp_ge E 66 dX8_undo_29 (by decide) (fun c11 => ?_) (fun c11 => ?_)
      · have b12 : Bd x6 16 16 := Bd.le_r c11 (Bd.lit 16 16 (by decide)) b7 16 (by decide)
        refine J_aload_n E dX8_undo_66 0 rfl ?_
        refine J_getR E in_X8 rfl (S_X8.h S0) 1 (by decide) wd936 rfl dX8_undo_67 ?_
        refine J_bipush E 34 dX8_undo_70 (by decide) ?_
        refine J_iald1 E (S_X8.f1 S0) (Bd.in (Bd.lit 34 34 (by decide)) (by decide)) dX8_undo_72 (fun x13 e14 => ?_)
        have e15 : x13 = v1 (rf G h0 1) 34 := by rw [e14, Bd.ix (Bd.lit 34 34 (by decide)) 34 rfl]
        exact J_iret E hr dX8_undo_73 ⟨o3, k4, trivial, f5⟩
      · have b16 : Bd x6 0 15 := Bd.lt_l (nle c11) b7 (Bd.lit 16 16 (by decide)) 15 (by decide)
        refine J_aload_n E dX8_undo_32 0 rfl ?_
        refine J_getR E in_X8 rfl (S_X8.h S0) 1 (by decide) wd936 rfl dX8_undo_33 ?_
        refine J_bipush E 34 dX8_undo_36 (by decide) ?_
        refine J_iload_n E dX8_undo_38 1 rfl ?_
        refine J_iadd E dX8_undo_39 (fun x17 e18 => ?_)
        have b19 : Bd x17 34 49 := (Bd.add e18 (Bd.lit 34 34 (by decide)) b16 (by decide)).w _ _ (by decide)
        refine J_aload_n E dX8_undo_40 0 rfl ?_
        refine J_getR E in_X8 rfl (S_X8.h S0) 1 (by decide) wd936 rfl dX8_undo_41 ?_
        refine J_bipush E 118 dX8_undo_44 (by decide) ?_
        refine J_bipush E 16 dX8_undo_46 (by decide) ?_
        refine J_aload_n E dX8_undo_48 0 rfl ?_
        refine J_getR E in_X8 rfl (S_X8.h S0) 1 (by decide) wd936 rfl dX8_undo_49 ?_
        refine J_iconst E 5 dX8_undo_52 (by decide) ?_
        refine J_iald1 E (S_X8.f1 S0) (Bd.in (Bd.lit 5 5 (by decide)) (by decide)) dX8_undo_53 (fun x20 e21 => ?_)
        have b22 : Bd x20 0 8 := Bd.e (Ok.ld o3 (S_X8.f1 S0) (Bd.lit 5 5 (by decide)) 5 1 0 8 (by decide) (by decide +kernel)) e21
        have e21q : x20 = x9 := by rw [e21, Bd.ix (Bd.lit 5 5 (by decide)) 5 rfl]; exact (e10).symm
        rw [e21q]
        refine J_imul E dX8_undo_54 (fun x23 e24 => ?_)
        have b25 : Bd x23 0 112 := Bd.mul e24 (Bd.lit 16 16 (by decide)) b8 (by decide)
        refine J_iadd E dX8_undo_55 (fun x26 e27 => ?_)
        have b28 : Bd x26 118 230 := (Bd.add e27 (Bd.lit 118 118 (by decide)) b25 (by decide)).w _ _ (by decide)
        refine J_iload_n E dX8_undo_56 1 rfl ?_
        refine J_iadd E dX8_undo_57 (fun x29 e30 => ?_)
        have b31 : Bd x29 118 245 := (Bd.add e30 b28 b16 (by decide)).w _ _ (by decide)
        refine J_iald1 E (S_X8.f1 S0) (Bd.in b31 (by decide)) dX8_undo_58 (fun x32 e33 => ?_)
        refine J_iast1 E (S_X8.f1 S0) (Bd.in b19 (by decide)) dX8_undo_59 (fun v34 e35 => ?_)
        have o36 : Ok G v34 w2 := by rw [e35]; exact Ok.cp o3 (S_X8.f1 S0) (S_X8.f1 S0) e33 (Bd.in b31 (by decide)) (by rw [ix_u e24 e27 e30 b8 b16, ix_add e18 (Bd.lit 34 34 (by decide)) b16 (by decide)]; exact (tb_k2 _ (ix_le b8 8 (by decide)) _ (ix_le b16 16 (by decide))).symm)
        have k37 : Kp G v v34 := by rw [e35]; exact Kp.cpi k4 (S_X8.f1 S0) (by rw [ix_add e18 (Bd.lit 34 34 (by decide)) b16 (by decide)]; exact tb_n3 _ (ix_le b16 16 (by decide)))
        have f38 : Fr G [103, 1084] v v34 := Fr.st f5 e35 (S_X8.f1 S0) rfl
        have e39 : x9 = v34 (rf G h0 1) 5 := by rw [e35, stv_k (Bd.nix b19 5 (by decide))]; exact e10
        refine J_iinc E 1 1 (fun z => [(1, .int z), (0, .ref h0)]) dX8_undo_60 rfl (by decide) (by decide) (fun _ => rfl) (fun x40 e41 => ?_)
        have b42 : Bd x40 1 16 := (Bd.add e41 b16 (Bd.lit 1 1 (by decide)) (by decide)).w _ _ (by decide)
        refine J_goto E 26 dX8_undo_63 (by decide) ?_
        exact J.sub [1, 0] rfl (ih26 v34 w2 (o36) (k37) f38 x40 (b42.w 0 16 (by decide)) x9 (e39) b8 (Mu.step hmu26 e41 b16 (Bd.lit 1 1 (by decide)) (by decide)))
  refine J_aload_n E dX8_undo_0 0 rfl ?_
  refine J_getR E in_X8 rfl (S_X8.h S0) 1 (by decide) wd936 rfl dX8_undo_1 ?_
  refine J_iconst E 5 dX8_undo_4 (by decide) ?_
  refine J_iald1 E (S_X8.f1 S0) (Bd.in (Bd.lit 5 5 (by decide)) (by decide)) dX8_undo_5 (fun x43 e44 => ?_)
  have b45 : Bd x43 0 8 := Bd.e (Ok.ld hOk (S_X8.f1 S0) (Bd.lit 5 5 (by decide)) 5 1 0 8 (by decide) (by decide +kernel)) e44
  have e46 : x43 = v (rf G h0 1) 5 := by rw [e44, Bd.ix (Bd.lit 5 5 (by decide)) 5 rfl]
  refine J_if_ne E 14 dX8_undo_6 (by decide) (fun c47 => ?_) (fun c47 => ?_)
  · have b48 : Bd x43 1 8 := (Bd.ne_lo c47 b45 (Bd.lit 0 0 (by decide))).w _ _ (by decide)
    refine J_aload_n E dX8_undo_14 0 rfl ?_
    refine J_getR E in_X8 rfl (S_X8.h S0) 1 (by decide) wd936 rfl dX8_undo_15 ?_
    refine J_iconst E 5 dX8_undo_18 (by decide) ?_
    refine J_dup2 E dX8_undo_19 rfl rfl ?_
    refine J_iald1 E (S_X8.f1 S0) (Bd.in (Bd.lit 5 5 (by decide)) (by decide)) dX8_undo_20 (fun x49 e50 => ?_)
    have b51 : Bd x49 0 8 := Bd.e (Ok.ld hOk (S_X8.f1 S0) (Bd.lit 5 5 (by decide)) 5 1 0 8 (by decide) (by decide +kernel)) e50
    have e50q : x49 = x43 := by rw [e50, Bd.ix (Bd.lit 5 5 (by decide)) 5 rfl]; exact (e46).symm
    rw [e50q]
    refine J_iconst E 1 dX8_undo_21 (by decide) ?_
    refine J_isub E dX8_undo_22 (fun x52 e53 => ?_)
    have b54 : Bd x52 0 7 := (Bd.sub e53 b48 (Bd.lit 1 1 (by decide)) (by decide)).w _ _ (by decide)
    refine J_iast1 E (S_X8.f1 S0) (Bd.in (Bd.lit 5 5 (by decide)) (by decide)) dX8_undo_23 (fun v55 e56 => ?_)
    have o57 : Ok G v55 w := by rw [e56]; exact Ok.sv hOk (S_X8.f1 S0) (Bd.lit 5 5 (by decide)) b54 5 1 (by decide) (by decide +kernel)
    have k58 : Kp G v v55 := by rw [e56]; exact Kp.sv Kp.rf (S_X8.f1 S0) (Bd.lit 5 5 (by decide)) 5 1 0 7 (by decide) (by decide +kernel)
    have f59 : Fr G [103, 1084] v v55 := Fr.st Fr.rf e56 (S_X8.f1 S0) rfl
    have e60 : (x52 : Int32) = v55 (rf G h0 1) 5 := by rw [e56, Bd.ix (Bd.lit 5 5 (by decide)) 5 rfl, stv_s]
    refine J_iconst E 0 dX8_undo_24 (by decide) ?_
    refine J_istore_n E [(1, .int 0), (0, .ref h0)] dX8_undo_25 rfl (by decide) rfl ?_
    exact J.sub [1, 0] rfl (J26 17 v55 w (o57) (k58) f59 0 ((Bd.lit 0 0 (by decide)).w 0 16 (by decide)) x52 (e60) b54 (Mu.start _ (Bd.lit 0 0 (by decide)) (by decide)))
  · have b61 : Bd x43 0 0 := Bd.eq_l c47 b45 (Bd.lit 0 0 (by decide)) 0 0 (by decide)
    refine J_aload_n E dX8_undo_9 0 rfl ?_
    refine J_callVI E cal_X8_no wd1132 rfl (S_X8.h S0) [] [] (ct_X8_no l D dA G v w (hOk) h0 S0) rfl rfl (Nat.le_of_ble_eq_true rfl) ⟨rfl, rfl⟩ ⟨Nat.le_of_ble_eq_true rfl, Nat.le_of_ble_eq_true rfl⟩ dX8_undo_10 (fun x65 v62 w63 p64 => ?_)
    have ew9 : w = w63 := p64.2.2.2.1.1.symm
    subst ew9
    have o66 := p64.1
    have k67 : Kp G v v62 := (Kp.rf).tr p64.2.1
    have f68 : Fr G [103, 1084] v v62 := Fr.tr Fr.rf (p64.2.2.2.2) (by decide)
    have b69 : Bd x65 (-3) (-3) := p64.2.2.1
    exact J_iret E hr dX8_undo_13 ⟨o66, k67, trivial, f68⟩

abbrev rm_X8_told : Room := { frames := 2, cells := 0, slots := 0, locals := 42 }
set_option maxHeartbeats 4000000 in
set_option maxRecDepth 100000 in
theorem ct_X8_told (l : Launch) (D : va_G) (dA : Nat → ClassId) (G : Gm) (v : Mv) (w : Mw) (hOk : Ok G v w) (h0 : Nat) (S0 : S_X8 G h0) (x_0 : Int32) (bx_0 : Bd x_0 0 6) (x_1 : Int32) (bx_1 : Bd x_1 0 4) : CtI l yX8_told cX8_told 3 (some .int) rm_X8_told D dA G [.ref h0, .int x_0, .int x_1] v w (fun r v1 w1 => v1 = v ∧ w1 = w ∧ True ∧ True) := by
  refine CtI.of RX8 [(0, .ref h0), (1, .int x_0), (2, .int x_1)] (Nat.le_of_ble_eq_true rfl) rfl (by decide) rfl ?_
  intro p e s m args below meth c E hr
  refine J_iload_n E dX8_told_0 2 rfl ?_
  by_cases h1 : x_1.toInt = 0
  · refine J_tabIn E 0 32 dX8_told_1 h1 (by decide) (by decide) rfl (by decide) ?_
    have b2 : Bd x_1 0 0 := ⟨by omega, by omega⟩
    refine J_aload_n E dX8_told_32 0 rfl ?_
    refine J_getR E in_X8 rfl (S_X8.h S0) 1 (by decide) wd936 rfl dX8_told_33 ?_
    refine J_bipush E 20 dX8_told_36 (by decide) ?_
    refine J_iload_n E dX8_told_38 1 rfl ?_
    refine J_iadd E dX8_told_39 (fun x3 e4 => ?_)
    have b5 : Bd x3 20 26 := (Bd.add e4 (Bd.lit 20 20 (by decide)) bx_0 (by decide)).w _ _ (by decide)
    refine J_iald1 E (S_X8.f1 S0) (Bd.in b5 (by decide)) dX8_told_40 (fun x6 e7 => ?_)
    exact J_iret E hr dX8_told_41 ⟨rfl, rfl, trivial, trivial⟩
  by_cases h8 : x_1.toInt = 1
  · refine J_tabIn E 1 42 dX8_told_1 h8 (by decide) (by decide) rfl (by decide) ?_
    have b9 : Bd x_1 1 1 := ⟨by omega, by omega⟩
    refine J_aload_n E dX8_told_42 0 rfl ?_
    refine J_getR E in_X8 rfl (S_X8.h S0) 1 (by decide) wd936 rfl dX8_told_43 ?_
    refine J_bipush E 27 dX8_told_46 (by decide) ?_
    refine J_iload_n E dX8_told_48 1 rfl ?_
    refine J_iadd E dX8_told_49 (fun x10 e11 => ?_)
    have b12 : Bd x10 27 33 := (Bd.add e11 (Bd.lit 27 27 (by decide)) bx_0 (by decide)).w _ _ (by decide)
    refine J_iald1 E (S_X8.f1 S0) (Bd.in b12 (by decide)) dX8_told_50 (fun x13 e14 => ?_)
    exact J_iret E hr dX8_told_51 ⟨rfl, rfl, trivial, trivial⟩
  by_cases h15 : x_1.toInt = 2
  · refine J_tabIn E 2 52 dX8_told_1 h15 (by decide) (by decide) rfl (by decide) ?_
    have b16 : Bd x_1 2 2 := ⟨by omega, by omega⟩
    refine J_aload_n E dX8_told_52 0 rfl ?_
    refine J_getR E in_X8 rfl (S_X8.h S0) 1 (by decide) wd936 rfl dX8_told_53 ?_
    refine J_bipush E 36 dX8_told_56 (by decide) ?_
    refine J_iload_n E dX8_told_58 1 rfl ?_
    refine J_iadd E dX8_told_59 (fun x17 e18 => ?_)
    have b19 : Bd x17 36 42 := (Bd.add e18 (Bd.lit 36 36 (by decide)) bx_0 (by decide)).w _ _ (by decide)
    refine J_iald1 E (S_X8.f1 S0) (Bd.in b19 (by decide)) dX8_told_60 (fun x20 e21 => ?_)
    exact J_iret E hr dX8_told_61 ⟨rfl, rfl, trivial, trivial⟩
  by_cases h22 : x_1.toInt = 3
  · refine J_tabIn E 3 62 dX8_told_1 h22 (by decide) (by decide) rfl (by decide) ?_
    have b23 : Bd x_1 3 3 := ⟨by omega, by omega⟩
    refine J_aload_n E dX8_told_62 0 rfl ?_
    refine J_getR E in_X8 rfl (S_X8.h S0) 1 (by decide) wd936 rfl dX8_told_63 ?_
    refine J_bipush E 43 dX8_told_66 (by decide) ?_
    refine J_iload_n E dX8_told_68 1 rfl ?_
    refine J_iadd E dX8_told_69 (fun x24 e25 => ?_)
    have b26 : Bd x24 43 49 := (Bd.add e25 (Bd.lit 43 43 (by decide)) bx_0 (by decide)).w _ _ (by decide)
    refine J_iald1 E (S_X8.f1 S0) (Bd.in b26 (by decide)) dX8_told_70 (fun x27 e28 => ?_)
    have b29 : Bd x27 (-1) 6 := Bd.e (Ok.ld hOk (S_X8.f1 S0) b26 43 7 (-1) 6 (by decide) (by decide +kernel)) e28
    exact J_iret E hr dX8_told_71 ⟨rfl, rfl, trivial, trivial⟩
  refine J_tabOut (x := x_1) E 72 dX8_told_1 (by have := bx_1; simp only [Bd, I0, I1] at this; omega) (by decide) ?_
  refine J_aload_n E dX8_told_72 0 rfl ?_
  refine J_iload_n E dX8_told_73 1 rfl ?_
  refine J_callVI E cal_X8_isLost wd1128 rfl (S_X8.h S0) [.int x_0] [] (ct_X8_isLost l D dA G v w (hOk) h0 S0 x_0 bx_0) rfl rfl (Nat.le_of_ble_eq_true rfl) ⟨rfl, rfl⟩ ⟨Nat.le_of_ble_eq_true rfl, Nat.le_of_ble_eq_true rfl⟩ dX8_told_74 (fun x33 v30 w31 p32 => ?_)
  rw [p32.1, p32.2.1]
  have b34 : Bd x33 0 1 := p32.2.2.1
  refine J_if_eq E 84 dX8_told_77 (by decide) (fun c35 => ?_) (fun c35 => ?_)
  · have b36 : Bd x33 0 0 := Bd.eq_l c35 b34 (Bd.lit 0 0 (by decide)) 0 0 (by decide)
    refine J_iconst E 1 dX8_told_84 (by decide) ?_
    exact J_iret E hr dX8_told_85 ⟨rfl, rfl, trivial, trivial⟩
  · have b37 : Bd x33 1 1 := (Bd.ne_lo c35 b34 (Bd.lit 0 0 (by decide))).w _ _ (by decide)
    refine J_iconst E 0 dX8_told_80 (by decide) ?_
    refine J_goto E 85 dX8_told_81 (by decide) ?_
    exact J_iret E hr dX8_told_85 ⟨rfl, rfl, trivial, trivial⟩

abbrev rm_X8_of : Room := { frames := 3, cells := 0, slots := 0, locals := 64 }
set_option maxHeartbeats 4000000 in
set_option maxRecDepth 100000 in
theorem ct_X8_of (l : Launch) (D : va_G) (dA : Nat → ClassId) (G : Gm) (v : Mv) (w : Mw) (hOk : Ok G v w) (h0 : Nat) (S0 : S_X8 G h0) (x_0 : Int32) (x_1 : Int32) : CtI l yX8_of cX8_of 3 (some .int) rm_X8_of D dA G [.ref h0, .int x_0, .int x_1] v w (fun r v1 w1 => Ok G v1 w1 ∧ Kp G v v1 ∧ True ∧ Fr G [103] v v1) := by
  refine CtI.of RX8 [(0, .ref h0), (1, .int x_0), (2, .int x_1)] (Nat.le_of_ble_eq_true rfl) rfl (by decide) rfl ?_
  intro p e s m args below meth c E hr
  have J26 :  J p l e rm_X8_of s m args below meth c 0 0 (MQ below (QcI D dA G (fun r v1 w1 => Ok G v1 w1 ∧ Kp G v v1 ∧ True ∧ Fr G [103] v v1)) args s 0 0 (dm G)) D dA G (dm G) s.heap 3 v w [(0, .ref h0)] 26 [] := by
    refine J_aload_n E dX8_of_26 0 rfl ?_
    refine J_callVI E cal_X8_bad wd999 rfl (S_X8.h S0) [] [] (ct_X8_bad l D dA G v w (hOk) h0 S0) rfl rfl (Nat.le_of_ble_eq_true rfl) ⟨rfl, rfl⟩ ⟨Nat.le_of_ble_eq_true rfl, Nat.le_of_ble_eq_true rfl⟩ dX8_of_27 (fun x4 v1 w2 p3 => ?_)
    have ew9 : w = w2 := p3.2.2.2.1.1.symm
    subst ew9
    have o5 := p3.1
    have k6 : Kp G v v1 := (Kp.rf).tr p3.2.1
    have f7 : Fr G [103] v v1 := Fr.tr Fr.rf (p3.2.2.2.2) (by decide)
    have b8 : Bd x4 (-2) (-2) := p3.2.2.1
    exact J_iret E hr dX8_of_30 ⟨o5, k6, trivial, f7⟩
  refine J_aload_n E dX8_of_0 0 rfl ?_
  refine J_iload_n E dX8_of_1 1 rfl ?_
  refine J_callVI E cal_X8_isOne wd1120 rfl (S_X8.h S0) [.int x_0] [] (ct_X8_isOne l D dA G v w (hOk) h0 S0 x_0) rfl rfl (Nat.le_of_ble_eq_true rfl) ⟨rfl, rfl⟩ ⟨Nat.le_of_ble_eq_true rfl, Nat.le_of_ble_eq_true rfl⟩ dX8_of_2 (fun x12 v9 w10 p11 => ?_)
  rw [p11.1, p11.2.1]
  have b13 : Bd x12 0 1 := p11.2.2.1
  refine J_if_eq E 26 dX8_of_5 (by decide) (fun c14 => ?_) (fun c14 => ?_)
  · have b15 : Bd x12 0 0 := Bd.eq_l c14 b13 (Bd.lit 0 0 (by decide)) 0 0 (by decide)
    exact J.sub [0] rfl (J26)
  · have b16 : Bd x12 1 1 := (Bd.ne_lo c14 b13 (Bd.lit 0 0 (by decide))).w _ _ (by decide)
    have b17 : Bd x_0 0 6 := (p11.2.2.2.1).resolve_left c14
    refine J_iload_n E dX8_of_8 2 rfl ?_
    refine J_iconst E 0 dX8_of_9 (by decide) ?_
    refine J_iconst E 4 dX8_of_10 (by decide) ?_
    refine J_callSI E cal_X8_in wd996 [.int x_1, .int 0, .int 4] [] (ct_X8_in l D dA G v w (hOk) x_1 0 4) rfl rfl (Nat.le_of_ble_eq_true rfl) ⟨rfl, rfl⟩ ⟨Nat.le_of_ble_eq_true rfl, Nat.le_of_ble_eq_true rfl⟩ dX8_of_11 (fun x21 v18 w19 p20 => ?_)
    rw [p20.1, p20.2.1]
    have b22 : Bd x21 0 1 := p20.2.2.1
    refine J_if_eq E 26 dX8_of_14 (by decide) (fun c23 => ?_) (fun c23 => ?_)
    · have b24 : Bd x21 0 0 := Bd.eq_l c23 b22 (Bd.lit 0 0 (by decide)) 0 0 (by decide)
      have g25 : ¬ (0 ≤ x_1 ∧ x_1 ≤ 4) := (p20.2.2.2.2.1).resolve_left (fun h9 => h9 c23)
      exact J.sub [0] rfl (J26)
    · have b26 : Bd x21 1 1 := (Bd.ne_lo c23 b22 (Bd.lit 0 0 (by decide))).w _ _ (by decide)
      have g27 := (p20.2.2.2.1).resolve_left c23
      have b28 : Bd x_1 0 I1 := Bd.le_r g27.1 (Bd.lit 0 0 (by decide)) (Bd.any x_1) 0 (by decide)
      have b29 : Bd x_1 0 4 := Bd.le_l g27.2 b28 (Bd.lit 4 4 (by decide)) 4 (by decide)
      refine J_aload_n E dX8_of_17 0 rfl ?_
      refine J_iload_n E dX8_of_18 1 rfl ?_
      refine J_iload_n E dX8_of_19 2 rfl ?_
      refine J_callVI E cal_X8_told wd1163 rfl (S_X8.h S0) [.int x_0, .int x_1] [] (ct_X8_told l D dA G v w (hOk) h0 S0 x_0 b17 x_1 b29) rfl rfl (Nat.le_of_ble_eq_true rfl) ⟨rfl, rfl⟩ ⟨Nat.le_of_ble_eq_true rfl, Nat.le_of_ble_eq_true rfl⟩ dX8_of_20 (fun x33 v30 w31 p32 => ?_)
      rw [p32.1, p32.2.1]
      refine J_goto E 30 dX8_of_23 (by decide) ?_
      exact J_iret E hr dX8_of_30 ⟨hOk, Kp.rf, trivial, Fr.rf⟩
