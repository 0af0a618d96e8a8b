def K_X4_drop_5_e (G : Gm) (w : Mw) (v : Mv) (h0 : Nat) : Int32 × Mv :=
  ((v h0 2), (stv v h0 2 (0 : Int32)))
def F_X4_drop_5 (G : Gm) (w : Mw) (v : Mv) (h0 : Nat) : Int32 × Mv := K_X4_drop_5_e G w v h0
set_option maxRecDepth 100000 in
theorem kx_X4_drop_5_1 {G : Gm} {w : Mw} {v : Mv} {h0 : Nat} {x1 : Int32} {v4 : Mv} (a0 : x1 = v h0 2) (a1 : v4 = stv v h0 2 (0 : Int32))  : K_X4_drop_5_e G w v h0 = (x1, v4) := by
  subst a1; subst a0; first | rw [K_X4_drop_5_e] | simp only [K_X4_drop_5_e]
abbrev rm_X4_drop_5 : Room := { frames := 0, cells := 0, slots := 0, locals := 0 }
set_option maxHeartbeats 4000000 in
set_option maxRecDepth 100000 in
theorem ct_X4_drop_5 (l : Launch) (D : va_G) (dA : Nat → ClassId) (G : Gm) (v : Mv) (w : Mw) (hOk : Ok G v w) (h0 : Nat) (S0 : S_X4 G h0 5) : CtI l yX4_drop cX4_drop 2 (some .int) rm_X4_drop_5 D dA G [.ref h0] v w (fun r v1 w1 => Ok G v1 w1 ∧ True ∧ Bd r 0 5 ∧ (w1 = w ∧ (r, v1) = F_X4_drop_5 G w v h0) ∧ Fr G [4] v v1) := by
  refine CtI.of RX4 [(0, .ref h0)] (Nat.le_of_ble_eq_true rfl) rfl (by decide) rfl ?_
  intro p e s m args below meth c E hr
  have hK : K_X4_drop_5_e G w v h0 = F_X4_drop_5 G w v h0 := rfl
  refine J_aload_n E dX4_drop_0 0 rfl ?_
  refine J_getI E in_X4 rfl (S_X4.h S0) 2 (by decide) wd181 rfl dX4_drop_1 (fun x1 e2 => ?_)
  have b3 : Bd x1 0 5 := Ok.fd hOk e2 (S_X4.h S0) rfl
  refine J_istore_n E [(1, .int x1), (0, .ref h0)] dX4_drop_4 rfl (by decide) rfl ?_
  refine J_aload_n E dX4_drop_5 1 rfl ?_
  refine J_iconst E 0 dX4_drop_6 (by decide) ?_
  refine J_pI E in_X4 rfl (S_X4.h S0) 2 (by decide) wd181 tyX4 tyX4_ok nmX4 rfl rfl .int (by decide +kernel) rfl rfl dX4_drop_7 (fun v4 e5 => ?_)
  have o6 : Ok G v4 w := Ok.pf hOk e5 (S_X4.h S0) rfl ((Bd.lit 0 0 (by decide)).w 0 5 (by decide))
  have f8 : Fr G [4] v v4 := Fr.st Fr.rf e5 (S_X4.h S0) rfl
  have e9 : (0 : Int32) = v4 h0 2 := by rw [e5, stv_s]
  refine J_iload_n E dX4_drop_10 0 rfl ?_
  exact J_iret E hr dX4_drop_11 ⟨o6, trivial, b3, ⟨⟨rfl, ((kx_X4_drop_5_1 (e2) (e5)).symm.trans hK)⟩, f8⟩⟩

def K_X4_drop_6_e (G : Gm) (w : Mw) (v : Mv) (h0 : Nat) : Int32 × Mv :=
  ((v h0 2), (stv v h0 2 (0 : Int32)))
def F_X4_drop_6 (G : Gm) (w : Mw) (v : Mv) (h0 : Nat) : Int32 × Mv := K_X4_drop_6_e G w v h0
set_option maxRecDepth 100000 in
theorem kx_X4_drop_6_1 {G : Gm} {w : Mw} {v : Mv} {h0 : Nat} {x1 : Int32} {v4 : Mv} (a0 : x1 = v h0 2) (a1 : v4 = stv v h0 2 (0 : Int32))  : K_X4_drop_6_e G w v h0 = (x1, v4) := by
  subst a1; subst a0; first | rw [K_X4_drop_6_e] | simp only [K_X4_drop_6_e]
abbrev rm_X4_drop_6 : Room := { frames := 0, cells := 0, slots := 0, locals := 0 }
set_option maxHeartbeats 4000000 in
set_option maxRecDepth 100000 in
theorem ct_X4_drop_6 (l : Launch) (D : va_G) (dA : Nat → ClassId) (G : Gm) (v : Mv) (w : Mw) (hOk : Ok G v w) (h0 : Nat) (S0 : S_X4 G h0 6) : CtI l yX4_drop cX4_drop 2 (some .int) rm_X4_drop_6 D dA G [.ref h0] v w (fun r v1 w1 => Ok G v1 w1 ∧ True ∧ Bd r 0 6 ∧ (w1 = w ∧ (r, v1) = F_X4_drop_6 G w v h0) ∧ Fr G [4] v v1) := by
  refine CtI.of RX4 [(0, .ref h0)] (Nat.le_of_ble_eq_true rfl) rfl (by decide) rfl ?_
  intro p e s m args below meth c E hr
  have hK : K_X4_drop_6_e G w v h0 = F_X4_drop_6 G w v h0 := rfl
  refine J_aload_n E dX4_drop_0 0 rfl ?_
  refine J_getI E in_X4 rfl (S_X4.h S0) 2 (by decide) wd181 rfl dX4_drop_1 (fun x1 e2 => ?_)
  have b3 : Bd x1 0 6 := Ok.fd hOk e2 (S_X4.h S0) rfl
  refine J_istore_n E [(1, .int x1), (0, .ref h0)] dX4_drop_4 rfl (by decide) rfl ?_
  refine J_aload_n E dX4_drop_5 1 rfl ?_
  refine J_iconst E 0 dX4_drop_6 (by decide) ?_
  refine J_pI E in_X4 rfl (S_X4.h S0) 2 (by decide) wd181 tyX4 tyX4_ok nmX4 rfl rfl .int (by decide +kernel) rfl rfl dX4_drop_7 (fun v4 e5 => ?_)
  have o6 : Ok G v4 w := Ok.pf hOk e5 (S_X4.h S0) rfl ((Bd.lit 0 0 (by decide)).w 0 6 (by decide))
  have f8 : Fr G [4] v v4 := Fr.st Fr.rf e5 (S_X4.h S0) rfl
  have e9 : (0 : Int32) = v4 h0 2 := by rw [e5, stv_s]
  refine J_iload_n E dX4_drop_10 0 rfl ?_
  exact J_iret E hr dX4_drop_11 ⟨o6, trivial, b3, ⟨⟨rfl, ((kx_X4_drop_6_1 (e2) (e5)).symm.trans hK)⟩, f8⟩⟩

def K_X6_startAnew_c3 (G : Gm) (w : Mw) (h0 : Nat) (v61 : Mv) (x64 : Int32) : Mv :=
  v61
def K_X6_startAnew_c2 (G : Gm) (w : Mw) (h0 : Nat) (v51 : Mv) (x54 : Int32) : Mv :=
  K_X6_startAnew_c3 G w h0 ((F_X4_drop_6 G w v51 (rf G h0 11)).2) ((F_X4_drop_6 G w v51 (rf G h0 11)).1)
def K_X6_startAnew_c1 (G : Gm) (w : Mw) (h0 : Nat) (v41 : Mv) (x44 : Int32) : Mv :=
  K_X6_startAnew_c2 G w h0 ((F_X4_drop_6 G w v41 (rf G h0 10)).2) ((F_X4_drop_6 G w v41 (rf G h0 10)).1)
def K_X6_startAnew_e (G : Gm) (w : Mw) (v : Mv) (h0 : Nat) : Mv :=
  K_X6_startAnew_c1 G w h0 ((F_X4_drop_5 G w (stv (stv (stv (stv (stv v h0 0 (0 : Int32)) h0 3 (0 : Int32)) (rf G h0 6) 2 (0 : Int32)) (rf G h0 6) 3 (0 : Int32)) h0 8 (0 : Int32)) (rf G h0 9)).2) ((F_X4_drop_5 G w (stv (stv (stv (stv (stv v h0 0 (0 : Int32)) h0 3 (0 : Int32)) (rf G h0 6) 2 (0 : Int32)) (rf G h0 6) 3 (0 : Int32)) h0 8 (0 : Int32)) (rf G h0 9)).1)
def F_X6_startAnew (G : Gm) (w : Mw) (v : Mv) (h0 : Nat) : Mv := K_X6_startAnew_e G w v h0
set_option maxRecDepth 100000 in
theorem kx_X6_startAnew_1 {G : Gm} {w : Mw} {v : Mv} {h0 : Nat} {v41 : Mv} {x44 : Int32} {v1 : Mv} {v7 : Mv} {v14 : Mv} {v22 : Mv} {v31 : Mv} (a0 : v1 = stv v h0 0 (0 : Int32)) (a1 : v7 = stv v1 h0 3 (0 : Int32)) (a2 : v14 = stv v7 (rf G h0 6) 2 (0 : Int32)) (a3 : v22 = stv v14 (rf G h0 6) 3 (0 : Int32)) (a4 : v31 = stv v22 h0 8 (0 : Int32)) (a5 : x44 = (F_X4_drop_5 G w v31 (rf G h0 9)).1) (a6 : v41 = (F_X4_drop_5 G w v31 (rf G h0 9)).2)  : K_X6_startAnew_e G w v h0 = K_X6_startAnew_c1 G w h0 v41 x44 := by
  subst a6; subst a5; subst a4; subst a3; subst a2; subst a1; subst a0; first | rw [K_X6_startAnew_e] | simp only [K_X6_startAnew_e]
set_option maxRecDepth 100000 in
theorem kx_X6_startAnew_2 {G : Gm} {w : Mw} {h0 : Nat} {v41 : Mv} {x44 : Int32} {v51 : Mv} {x54 : Int32} (a0 : x54 = (F_X4_drop_6 G w v41 (rf G h0 10)).1) (a1 : v51 = (F_X4_drop_6 G w v41 (rf G h0 10)).2)  : K_X6_startAnew_c1 G w h0 v41 x44 = K_X6_startAnew_c2 G w h0 v51 x54 := by
  subst a1; subst a0; first | rw [K_X6_startAnew_c1] | simp only [K_X6_startAnew_c1]
set_option maxRecDepth 100000 in
theorem kx_X6_startAnew_3 {G : Gm} {w : Mw} {h0 : Nat} {v51 : Mv} {x54 : Int32} {v61 : Mv} {x64 : Int32} (a0 : x64 = (F_X4_drop_6 G w v51 (rf G h0 11)).1) (a1 : v61 = (F_X4_drop_6 G w v51 (rf G h0 11)).2)  : K_X6_startAnew_c2 G w h0 v51 x54 = K_X6_startAnew_c3 G w h0 v61 x64 := by
  subst a1; subst a0; first | rw [K_X6_startAnew_c2] | simp only [K_X6_startAnew_c2]
set_option maxRecDepth 100000 in
theorem kx_X6_startAnew_4 {G : Gm} {w : Mw} {h0 : Nat} {v61 : Mv} {x64 : Int32}   : K_X6_startAnew_c3 G w h0 v61 x64 = v61 := by
  first | rw [K_X6_startAnew_c3] | simp only [K_X6_startAnew_c3]
abbrev rm_X6_startAnew : Room := { frames := 1, cells := 0, slots := 0, locals := 21 }
set_option maxHeartbeats 4000000 in
set_option maxRecDepth 100000 in
theorem ct_X6_startAnew (l : Launch) (D : va_G) (dA : Nat → ClassId) (G : Gm) (v : Mv) (w : Mw) (hOk : Ok G v w) (h0 : Nat) (S0 : S_X6 G h0) : CtV l yX6_startAnew cX6_startAnew 1 none rm_X6_startAnew D dA G [.ref h0] v w (fun v1 w1 => Ok G v1 w1 ∧ True ∧ (w1 = w ∧ v1 = F_X6_startAnew G w v h0) ∧ Fr G [2, 4, 6] v v1) := by
  refine CtV.of RX6 [(0, .ref h0)] (Nat.le_of_ble_eq_true rfl) rfl (by decide) rfl ?_
  intro p e s m args below meth c E hr
  have hK : K_X6_startAnew_e G w v h0 = F_X6_startAnew G w v h0 := rfl
  refine J_aload_n E dX6_startAnew_0 0 rfl ?_
  refine J_iconst E 0 dX6_startAnew_1 (by decide) ?_
  refine J_pI E in_X6 rfl (S_X6.h S0) 0 (by decide) wd191 tyX6 tyX6_ok nmX6 rfl rfl .int (by decide +kernel) rfl rfl dX6_startAnew_2 (fun v1 e2 => ?_)
  have o3 : Ok G v1 w := Ok.pf hOk e2 (S_X6.h S0) rfl ((Bd.lit 0 0 (by decide)).w 0 7 (by decide))
  have f5 : Fr G [2, 4, 6] v v1 := Fr.st Fr.rf e2 (S_X6.h S0) rfl
  have e6 : (0 : Int32) = v1 h0 0 := by rw [e2, stv_s]
  refine J_aload_n E dX6_startAnew_5 0 rfl ?_
  refine J_iconst E 0 dX6_startAnew_6 (by decide) ?_
  refine J_pI E in_X6 rfl (S_X6.h S0) 3 (by decide) wd201 tyX6 tyX6_ok nmX6 rfl rfl .int (by decide +kernel) rfl rfl dX6_startAnew_7 (fun v7 e8 => ?_)
  have o9 : Ok G v7 w := Ok.pf o3 e8 (S_X6.h S0) rfl ((Bd.lit 0 0 (by decide)).w 0 7 (by decide))
  have e11 : 0 = v7 h0 0 := by rw [e8, stv_k (by decide)]; exact e6
  have f12 : Fr G [2, 4, 6] v v7 := Fr.st f5 e8 (S_X6.h S0) rfl
  have e13 : (0 : Int32) = v7 h0 3 := by rw [e8, stv_s]
  refine J_aload_n E dX6_startAnew_10 0 rfl ?_
  refine J_getR E in_X6 rfl (S_X6.h S0) 6 (by decide) wd207 rfl dX6_startAnew_11 ?_
  refine J_iconst E 0 dX6_startAnew_14 (by decide) ?_
  refine J_pIN E in_X2 rfl (S_X2.h (S_X6.f6 S0)) 2 (by decide) wd156 tyX2 tyX2_ok nmX2 rfl rfl .int (by decide +kernel) rfl rfl dX6_startAnew_15 (fun v14 e15 => ?_)
  have o16 : Ok G v14 w := Ok.pf o9 e15 (S_X2.h (S_X6.f6 S0)) rfl ((Bd.lit 0 0 (by decide)).w I0 I1 (by decide))
  have e18 : 0 = v14 h0 0 := by rw [e15, stv_k (by decide)]; exact e11
  have e19 : 0 = v14 h0 3 := by rw [e15, stv_k (by decide)]; exact e13
  have f20 : Fr G [2, 4, 6] v v14 := Fr.st f12 e15 (S_X2.h (S_X6.f6 S0)) rfl
  have e21 : (0 : Int32) = v14 (rf G h0 6) 2 := by rw [e15, stv_s]
  refine J_aload_n E dX6_startAnew_18 0 rfl ?_
  refine J_getR E in_X6 rfl (S_X6.h S0) 6 (by decide) wd207 rfl dX6_startAnew_19 ?_
  refine J_iconst E 0 dX6_startAnew_22 (by decide) ?_
  refine J_pIN E in_X2 rfl (S_X2.h (S_X6.f6 S0)) 3 (by decide) wd159 tyX2 tyX2_ok nmX2 rfl rfl .int (by decide +kernel) rfl rfl dX6_startAnew_23 (fun v22 e23 => ?_)
  have o24 : Ok G v22 w := Ok.pf o16 e23 (S_X2.h (S_X6.f6 S0)) rfl ((Bd.lit 0 0 (by decide)).w I0 I1 (by decide))
  have e26 : 0 = v22 h0 0 := by rw [e23, stv_k (by decide)]; exact e18
  have e27 : 0 = v22 h0 3 := by rw [e23, stv_a (tg_ne (S_X6.h S0) (S_X2.h (S_X6.f6 S0)) rfl)]; exact e19
  have e28 : 0 = v22 (rf G h0 6) 2 := by rw [e23, stv_k (by decide)]; exact e21
  have f29 : Fr G [2, 4, 6] v v22 := Fr.st f20 e23 (S_X2.h (S_X6.f6 S0)) rfl
  have e30 : (0 : Int32) = v22 (rf G h0 6) 3 := by rw [e23, stv_s]
  refine J_aload_n E dX6_startAnew_26 0 rfl ?_
  refine J_iconst E 0 dX6_startAnew_27 (by decide) ?_
  refine J_pI E in_X6 rfl (S_X6.h S0) 8 (by decide) wd211 tyX6 tyX6_ok nmX6 rfl rfl .int (by decide +kernel) rfl rfl dX6_startAnew_28 (fun v31 e32 => ?_)
  have o33 : Ok G v31 w := Ok.pf o24 e32 (S_X6.h S0) rfl ((Bd.lit 0 0 (by decide)).w 0 8 (by decide))
  have e35 : 0 = v31 h0 0 := by rw [e32, stv_k (by decide)]; exact e26
  have e36 : 0 = v31 h0 3 := by rw [e32, stv_k (by decide)]; exact e27
  have e37 : 0 = v31 (rf G h0 6) 2 := by rw [e32, stv_k (by decide)]; exact e28
  have e38 : 0 = v31 (rf G h0 6) 3 := by rw [e32, stv_k (by decide)]; exact e30
  have f39 : Fr G [2, 4, 6] v v31 := Fr.st f29 e32 (S_X6.h S0) rfl
  have e40 : (0 : Int32) = v31 h0 8 := by rw [e32, stv_s]
  refine J_aload_n E dX6_startAnew_31 0 rfl ?_
  refine J_getR E in_X6 rfl (S_X6.h S0) 9 (by decide) wd213 rfl dX6_startAnew_32 ?_
  refine J_callVNI E cal_X4_drop wd353 rfl (S_X4.h (S_X6.f9 S0)) [] [] (ct_X4_drop_5 l D dA G v31 w (o33) (rf G h0 9) (S_X6.f9 S0)) rfl rfl (Nat.le_of_ble_eq_true rfl) ⟨rfl, rfl⟩ ⟨Nat.le_of_ble_eq_true rfl, Nat.le_of_ble_eq_true rfl⟩ dX6_startAnew_35 (fun x44 v41 w42 p43 => ?_)
  have ew9 : w = w42 := p43.2.2.2.1.1.symm
  subst ew9
  have o45 := p43.1
  have k46 : True := trivial
  have f47 : Fr G [2, 4, 6] v v41 := Fr.tr f39 (p43.2.2.2.2) (by decide)
  have b48 : Bd x44 0 5 := p43.2.2.1
  have e49 : x44 = (F_X4_drop_5 G w v31 (rf G h0 9)).1 := congrArg Prod.fst (p43.2.2.2.1).2
  have e50 : v41 = (F_X4_drop_5 G w v31 (rf G h0 9)).2 := congrArg Prod.snd (p43.2.2.2.1).2
  have hK : K_X6_startAnew_c1 G w h0 v41 x44 = F_X6_startAnew G w v h0 := ((kx_X6_startAnew_1 (e2) (e8) (e15) (e23) (e32) (e49) (e50)).symm.trans hK)
  refine J_pop E dX6_startAnew_38 rfl ?_
  refine J_aload_n E dX6_startAnew_39 0 rfl ?_
  refine J_getR E in_X6 rfl (S_X6.h S0) 10 (by decide) wd215 rfl dX6_startAnew_40 ?_
  refine J_callVNI E cal_X4_drop wd353 rfl (S_X4.h (S_X6.f10 S0)) [] [] (ct_X4_drop_6 l D dA G v41 w (o45) (rf G h0 10) (S_X6.f10 S0)) rfl rfl (Nat.le_of_ble_eq_true rfl) ⟨rfl, rfl⟩ ⟨Nat.le_of_ble_eq_true rfl, Nat.le_of_ble_eq_true rfl⟩ dX6_startAnew_43 (fun x54 v51 w52 p53 => ?_)
  have ew9 : w = w52 := p53.2.2.2.1.1.symm
  subst ew9
  have o55 := p53.1
  have k56 : True := trivial
  have f57 : Fr G [2, 4, 6] v v51 := Fr.tr f47 (p53.2.2.2.2) (by decide)
  have b58 : Bd x54 0 6 := p53.2.2.1
  have e59 : x54 = (F_X4_drop_6 G w v41 (rf G h0 10)).1 := congrArg Prod.fst (p53.2.2.2.1).2
  have e60 : v51 = (F_X4_drop_6 G w v41 (rf G h0 10)).2 := congrArg Prod.snd (p53.2.2.2.1).2
  have hK : K_X6_startAnew_c2 G w h0 v51 x54 = F_X6_startAnew G w v h0 := ((kx_X6_startAnew_2 (e59) (e60)).symm.trans hK)
  refine J_pop E dX6_startAnew_46 rfl ?_
  refine J_aload_n E dX6_startAnew_47 0 rfl ?_
  refine J_getR E in_X6 rfl (S_X6.h S0) 11 (by decide) wd217 rfl dX6_startAnew_48 ?_
  refine J_callVNI E cal_X4_drop wd353 rfl (S_X4.h (S_X6.f11 S0)) [] [] (ct_X4_drop_6 l D dA G v51 w (o55) (rf G h0 11) (S_X6.f11 S0)) rfl rfl (Nat.le_of_ble_eq_true rfl) ⟨rfl, rfl⟩ ⟨Nat.le_of_ble_eq_true rfl, Nat.le_of_ble_eq_true rfl⟩ dX6_startAnew_51 (fun x64 v61 w62 p63 => ?_)
  have ew9 : w = w62 := p63.2.2.2.1.1.symm
  subst ew9
  have o65 := p63.1
  have k66 : True := trivial
  have f67 : Fr G [2, 4, 6] v v61 := Fr.tr f57 (p63.2.2.2.2) (by decide)
  have b68 : Bd x64 0 6 := p63.2.2.1
  have e69 : x64 = (F_X4_drop_6 G w v51 (rf G h0 11)).1 := congrArg Prod.fst (p63.2.2.2.1).2
  have e70 : v61 = (F_X4_drop_6 G w v51 (rf G h0 11)).2 := congrArg Prod.snd (p63.2.2.2.1).2
  have hK : K_X6_startAnew_c3 G w h0 v61 x64 = F_X6_startAnew G w v h0 := ((kx_X6_startAnew_3 (e69) (e70)).symm.trans hK)
  refine J_pop E dX6_startAnew_54 rfl ?_
  exact J_vret E hr dX6_startAnew_55 ⟨o65, k66, ⟨⟨rfl, ((kx_X6_startAnew_4).symm.trans hK)⟩, f67⟩⟩

def K_X7_isWithin_e (G : Gm) (w : Mw) (v : Mv) (x_0 : Int32) (x_1 : Int32) (x_2 : Int32) : Int32 :=
  if x_0 < x_1 then ((0 : Int32)) else (if x_2 < x_0 then ((0 : Int32)) else ((1 : Int32)))
def F_X7_isWithin (G : Gm) (w : Mw) (v : Mv) (x_0 : Int32) (x_1 : Int32) (x_2 : Int32) : Int32 := K_X7_isWithin_e G w v x_0 x_1 x_2
set_option maxRecDepth 100000 in
theorem kx_X7_isWithin_1 {G : Gm} {w : Mw} {v : Mv} {x_0 : Int32} {x_1 : Int32} {x_2 : Int32}  (k0 : x_0 < x_1) : K_X7_isWithin_e G w v x_0 x_1 x_2 = (0 : Int32) := by
  first | rw [K_X7_isWithin_e, if_pos k0] | simp only [K_X7_isWithin_e, if_pos k0]
set_option maxRecDepth 100000 in
theorem kx_X7_isWithin_2 {G : Gm} {w : Mw} {v : Mv} {x_0 : Int32} {x_1 : Int32} {x_2 : Int32}  (k0 : ¬ (x_0 < x_1)) (k1 : x_2 < x_0) : K_X7_isWithin_e G w v x_0 x_1 x_2 = (0 : Int32) := by
  first | rw [K_X7_isWithin_e, if_neg k0, if_pos k1] | simp only [K_X7_isWithin_e, if_neg k0, if_pos k1]
set_option maxRecDepth 100000 in
theorem kx_X7_isWithin_3 {G : Gm} {w : Mw} {v : Mv} {x_0 : Int32} {x_1 : Int32} {x_2 : Int32}  (k0 : ¬ (x_0 < x_1)) (k1 : ¬ (x_2 < x_0)) : K_X7_isWithin_e G w v x_0 x_1 x_2 = (1 : Int32) := by
  first | rw [K_X7_isWithin_e, if_neg k0, if_neg k1] | simp only [K_X7_isWithin_e, if_neg k0, if_neg k1]
abbrev rm_X7_isWithin : Room := { frames := 0, cells := 0, slots := 0, locals := 0 }
set_option maxHeartbeats 4000000 in
set_option maxRecDepth 100000 in
theorem ct_X7_isWithin (l : Launch) (D : va_G) (dA : Nat → ClassId) (G : Gm) (v : Mv) (w : Mw) (hOk : Ok G v w) (x_0 : Int32) (x_1 : Int32) (x_2 : Int32) : CtI l yX7_isWithin cX7_isWithin 3 (some .boolean) rm_X7_isWithin D dA G [.int x_0, .int x_1, .int x_2] v w (fun r v1 w1 => v1 = v ∧ w1 = w ∧ Bd r 0 1 ∧ (r = 0 ∨ (x_1 ≤ x_0 ∧ x_0 ≤ x_2)) ∧ (¬ r = 0 ∨ ¬ (x_1 ≤ x_0 ∧ x_0 ≤ x_2)) ∧ r = F_X7_isWithin G w v x_0 x_1 x_2) := by
  refine CtI.of RX7 [(0, .int x_0), (1, .int x_1), (2, .int x_2)] (Nat.le_of_ble_eq_true rfl) rfl (by decide) rfl ?_
  intro p e s m args below meth c E hr
  have hK : K_X7_isWithin_e G w v x_0 x_1 x_2 = F_X7_isWithin G w v x_0 x_1 x_2 := rfl
  refine J_iload_n E dX7_isWithin_0 0 rfl ?_
  refine J_iload_n E dX7_isWithin_1 1 rfl ?_
  refine J_icmp_lt E 14 dX7_isWithin_2 (by decide) (fun c1 => ?_) (fun c1 => ?_)
  · refine J_iconst E 0 dX7_isWithin_14 (by decide) ?_
    exact J_zret E hr (Bd.z (Bd.lit 0 0 (by decide)) (by decide)) dX7_isWithin_15 ⟨rfl, rfl, ((Bd.lit 0 0 (by decide)).w 0 1 (by decide)), ⟨(Or.inl rfl), (Or.inr (fun h9 => absurd h9.1 (nle_of_lt c1))), ((kx_X7_isWithin_1 (c1)).symm.trans hK)⟩⟩
  · refine J_iload_n E dX7_isWithin_5 0 rfl ?_
    refine J_iload_n E dX7_isWithin_6 2 rfl ?_
    refine J_icmp_gt E 14 dX7_isWithin_7 (by decide) (fun c2 => ?_) (fun c2 => ?_)
    · refine J_iconst E 0 dX7_isWithin_14 (by decide) ?_
      exact J_zret E hr (Bd.z (Bd.lit 0 0 (by decide)) (by decide)) dX7_isWithin_15 ⟨rfl, rfl, ((Bd.lit 0 0 (by decide)).w 0 1 (by decide)), ⟨(Or.inl rfl), (Or.inr (fun h9 => absurd h9.2 (nle_of_lt c2))), ((kx_X7_isWithin_2 (c1) (c2)).symm.trans hK)⟩⟩
    · refine J_iconst E 1 dX7_isWithin_10 (by decide) ?_
      refine J_goto E 15 dX7_isWithin_11 (by decide) ?_
      exact J_zret E hr (Bd.z (Bd.lit 1 1 (by decide)) (by decide)) dX7_isWithin_15 ⟨rfl, rfl, ((Bd.lit 1 1 (by decide)).w 0 1 (by decide)), ⟨(Or.inr ⟨(nlt c1), (nlt c2)⟩), (Or.inl (by decide)), ((kx_X7_isWithin_3 (c1) (c2)).symm.trans hK)⟩⟩

def K_X3_passRun_0 (G : Gm) (w : Mw) (h0 : Nat) : Nat → Mv → Int32 → Int32 → Mv
  | 0, _, _, _ => (fun _ _ => 0 : Mv)
  | n + 1, v, x_0, x_1 =>
    if v h0 1 ≤ v h0 2 then v else if F_X7_isWithin G w v (v (rf G h0 0) (Int32.toNatClampNeg (v h0 2))) x_0 x_1 = 0 then v else K_X3_passRun_0 G w h0 n (stv v h0 2 (v h0 2 + 1)) x_0 x_1
def F_X3_passRun (G : Gm) (w : Mw) (v : Mv) (h0 : Nat) (x_0 x_1 : Int32) : Mv := K_X3_passRun_0 G w h0 151 v x_0 x_1
abbrev rm_X3_passRun : Room := { frames := 1, cells := 0, slots := 0, locals := 22 }
set_option maxHeartbeats 4000000 in
set_option maxRecDepth 100000 in
theorem ct_X3_passRun (l : Launch) (D : va_G) (dA : Nat → ClassId) (G : Gm) (v : Mv) (w : Mw) (hOk : Ok G v w) (h0 : Nat) (S0 : S_X3 G h0) (x_0 : Int32) (x_1 : Int32) (z_0 : Int32) (ez_0 : z_0 = v h0 2) (pre0 : Bd z_0 0 149) (hlt : z_0 < v h0 1) (hwi : x_0 ≤ v (rf G h0 0) z_0.toNatClampNeg ∧ v (rf G h0 0) z_0.toNatClampNeg ≤ x_1) : CtV l yX3_passRun cX3_passRun 3 none rm_X3_passRun D dA G [.ref h0, .int x_0, .int x_1] v w (fun v1 w1 => Ok G v1 w1 ∧ Kp G v v1 ∧ v1 h0 1 = v h0 1 ∧ v1 h0 4 = v h0 4 ∧ Bd (v1 h0 2) 1 150 ∧ (w1 = w ∧ v1 = F_X3_passRun G w v h0 x_0 x_1) ∧ Fr G [3] v v1) := by
  refine CtV.of RX3 [(0, .ref h0), (1, .int x_0), (2, .int x_1)] (Nat.le_of_ble_eq_true rfl) rfl (by decide) rfl ?_
  intro p e s m args below meth c E hr
  have J0 : ∀ n : Nat, ∀ (v1 : Mv), Ok G v1 w → Kp G v v1 → Fr G [3] v v1 → ∀ x7 : Int32, x7 = v1 h0 2 → Bd x7 0 150 → v1 h0 1 = v h0 1 → v1 h0 4 = v h0 4 → (Bd x7 1 150 ∨ (x7 < v1 h0 1 ∧ (x_0 ≤ v1 (rf G h0 0) x7.toNatClampNeg ∧ v1 (rf G h0 0) x7.toNatClampNeg ≤ x_1))) → Mu x7 150 n → K_X3_passRun_0 G w h0 n v1 x_0 x_1 = F_X3_passRun G w v h0 x_0 x_1 → J p l e rm_X3_passRun s m args below meth c 0 0 (MQ below (QcV D dA G (fun v1 w1 => Ok G v1 w1 ∧ Kp G v v1 ∧ v1 h0 1 = v h0 1 ∧ v1 h0 4 = v h0 4 ∧ Bd (v1 h0 2) 1 150 ∧ (w1 = w ∧ v1 = F_X3_passRun G w v h0 x_0 x_1) ∧ Fr G [3] v v1)) args s 0 0 (dm G)) D dA G (dm G) s.heap 3 v1 w [(0, .ref h0), (1, .int x_0), (2, .int x_1)] 0 [] := by
    intro n
    induction n with
    | zero => intro v1 o3 k4 f5 x7 e8 b6 h1s h4s hI hm hK; exact hm.zero b6 (by decide)
    | succ n ih0 =>
      intro v1 o3 k4 f5 x7 e8 b6 h1s h4s hI hmu0 hK
      refine J_aload_n E dX3_passRun_0 0 rfl ?_
      refine J_getI E in_X3 rfl (S_X3.h S0) 2 (by decide) wd255 rfl dX3_passRun_1 (fun x9 e10 => ?_)
      rw [show x9 = x7 from e10.trans (e8).symm]
      refine J_aload_n E dX3_passRun_4 0 rfl ?_
      refine J_getI E in_X3 rfl (S_X3.h S0) 1 (by decide) wd253 rfl dX3_passRun_5 (fun x11 e12 => ?_)
      have b13 : Bd x11 0 150 := Ok.fd o3 e12 (S_X3.h S0) rfl
      refine J_icmp_ge E 41 dX3_passRun_8 (by decide) (fun c14 => ?_) (fun c14 => ?_)
      · exact J_vret E hr dX3_passRun_41 ⟨o3, k4, h1s, h4s, Bd.e (hI.resolve_right (fun q => nle_of_lt q.1 (by rw [← e12]; exact c14))) e8.symm, ⟨rfl, (by rw [← hK, K_X3_passRun_0, if_pos (by rw [← e12, ← e8]; exact c14)])⟩, f5⟩
      · have b15 : Bd x7 0 149 := Bd.lt_l (nle c14) b6 b13 149 (by decide)
        have b16 : Bd x11 1 150 := Bd.lt_r (nle c14) b6 b13 1 (by decide)
        refine J_aload_n E dX3_passRun_11 0 rfl ?_
        refine J_getR E in_X3 rfl (S_X3.h S0) 0 (by decide) wd252 rfl dX3_passRun_12 ?_
        refine J_aload_n E dX3_passRun_15 0 rfl ?_
        refine J_getI E in_X3 rfl (S_X3.h S0) 2 (by decide) wd255 rfl dX3_passRun_16 (fun x17 e18 => ?_)
        rw [show x17 = x7 from e18.trans (e8).symm]
        refine J_iald1 E (S_X3.f0 S0) (Bd.in b15 (by decide)) dX3_passRun_19 (fun x19 e20 => ?_)
        refine J_iload_n E dX3_passRun_20 1 rfl ?_
        refine J_iload_n E dX3_passRun_21 2 rfl ?_
        refine J_callSNI E cal_X7_isWithin wd409 [.int x19, .int x_0, .int x_1] [] (ct_X7_isWithin l D dA G v1 w (o3) x19 x_0 x_1) rfl rfl (Nat.le_of_ble_eq_true rfl) ⟨rfl, rfl⟩ ⟨Nat.le_of_ble_eq_true rfl, Nat.le_of_ble_eq_true rfl⟩ dX3_passRun_22 (fun x24 v21 w22 p23 => ?_)
        rw [p23.1, p23.2.1]
        have b25 : Bd x24 0 1 := p23.2.2.1
        refine J_if_eq E 41 dX3_passRun_25 (by decide) (fun c26 => ?_) (fun c26 => ?_)
        · have b27 : Bd x24 0 0 := Bd.eq_l c26 b25 (Bd.lit 0 0 (by decide)) 0 0 (by decide)
          exact J_vret E hr dX3_passRun_41 ⟨o3, k4, h1s, h4s, Bd.e (hI.resolve_right (fun q => (p23.2.2.2.2.1).resolve_left (fun z => z c26) (by rw [e20]; exact q.2))) e8.symm, ⟨rfl, (by rw [← hK, K_X3_passRun_0, if_neg (by rw [← e12, ← e8]; exact c14), if_pos (by rw [← e8, ← e20, ← p23.2.2.2.2.2]; exact c26)])⟩, f5⟩
        · have b28 : Bd x24 1 1 := (Bd.ne_lo c26 b25 (Bd.lit 0 0 (by decide))).w _ _ (by decide)
          have g29 := (p23.2.2.2.1).resolve_left c26
          refine J_aload_n E dX3_passRun_28 0 rfl ?_
          refine J_dup E dX3_passRun_29 rfl ?_
          refine J_getI E in_X3 rfl (S_X3.h S0) 2 (by decide) wd255 rfl dX3_passRun_30 (fun x30 e31 => ?_)
          rw [show x30 = x7 from e31.trans (e8).symm]
          refine J_iconst E 1 dX3_passRun_33 (by decide) ?_
          refine J_iadd E dX3_passRun_34 (fun x32 e33 => ?_)
          have b34 : Bd x32 1 150 := (Bd.add e33 b15 (Bd.lit 1 1 (by decide)) (by decide)).w _ _ (by decide)
          refine J_pI E in_X3 rfl (S_X3.h S0) 2 (by decide) wd255 tyX3 tyX3_ok nmX3 rfl rfl .int (by decide +kernel) rfl rfl dX3_passRun_35 (fun v35 e36 => ?_)
          have o37 : Ok G v35 w := Ok.pf o3 e36 (S_X3.h S0) rfl (b34.w 0 150 (by decide))
          have k38 : Kp G v v35 := Kp.pf k4 e36 (S_X3.h S0) rfl
          have e39 : x11 = v35 h0 1 := by rw [e36, stv_k (by decide)]; exact e12
          have f40 : Fr G [3] v v35 := Fr.st f5 e36 (S_X3.h S0) rfl
          have e41 : x32 = v35 h0 2 := by rw [e36, stv_s]
          have h1n : v35 h0 1 = v h0 1 := by rw [e36, stv_k (by decide)]; exact h1s
          have h4n : v35 h0 4 = v h0 4 := by rw [e36, stv_k (by decide)]; exact h4s
          refine J_goto E 0 dX3_passRun_38 (by decide) ?_
          exact J.sub [0, 1, 2] rfl (ih0 v35 (o37) (k38) f40 x32 (e41) (b34.w 0 150 (by decide)) h1n h4n (Or.inl b34) (Mu.step hmu0 e33 b15 (Bd.lit 1 1 (by decide)) (by decide)) (by rw [← hK, K_X3_passRun_0, if_neg (by rw [← e12, ← e8]; exact c14), if_neg (by rw [← e8, ← e20, ← p23.2.2.2.2.2]; exact c26), e36, e33, e8]))
  exact J.sub [0, 1, 2] rfl (J0 151 v (hOk) (Kp.rf) Fr.rf z_0 (ez_0) (pre0.w 0 150 (by decide)) rfl rfl (Or.inr ⟨hlt, hwi⟩) (Mu.start _ pre0 (by decide)) rfl)


def K_X3_nextToken_223 (G : Gm) (w : Mw) (h0 : Nat) (v1 : Mv) (x5 : Int32) : Mv :=
  (stv (stv v1 h0 3 x5) h0 2 ((v1 h0 2) + (1 : Int32)))
def K_X3_nextToken_196 (G : Gm) (w : Mw) (h0 : Nat) (v29 : Mv) (x33 : Int32) (x34 : Int32) : Mv :=
  (stv v29 h0 5 (x34 + x33))
def K_X3_nextToken_146 (G : Gm) (w : Mw) (h0 : Nat) (v43 : Mv) (x47 : Int32) : Mv :=
  if ((v43 h0 2) - (v43 h0 4)) = (2 : Int32) then (K_X3_nextToken_196 G w h0 (stv v43 h0 3 x47) ((10 : Int32) * (((stv v43 h0 3 x47) (rf G h0 0) (Int32.toNatClampNeg (v43 h0 4))) - (48 : Int32))) (((stv v43 h0 3 x47) (rf G h0 0) (Int32.toNatClampNeg ((v43 h0 2) - (1 : Int32)))) - (48 : Int32))) else (K_X3_nextToken_196 G w h0 (stv v43 h0 3 x47) (0 : Int32) (((stv v43 h0 3 x47) (rf G h0 0) (Int32.toNatClampNeg ((v43 h0 2) - (1 : Int32)))) - (48 : Int32)))
def K_X3_nextToken_c1 (G : Gm) (w : Mw) (h0 : Nat) (v148 : Mv) : Mv :=
  if (2 : Int32) < ((v148 h0 2) - (v148 h0 4)) then (K_X3_nextToken_146 G w h0 v148 (4 : Int32)) else (K_X3_nextToken_146 G w h0 v148 (2 : Int32))
def K_X3_nextToken_c2 (G : Gm) (w : Mw) (h0 : Nat) (v174 : Mv) : Mv :=
  (stv v174 h0 3 (1 : Int32))
def K_X3_nextToken_38 (G : Gm) (w : Mw) (h0 : Nat) (v90 : Mv) : Mv :=
  if (v90 h0 2) < ((stv v90 h0 4 (v90 h0 2)) h0 1) then (if (F_X7_isWithin G w (stv v90 h0 4 (v90 h0 2)) ((stv v90 h0 4 (v90 h0 2)) (rf G h0 0) (Int32.toNatClampNeg (v90 h0 2))) (97 : Int32) (122 : Int32)) = (0 : Int32) then (if (F_X7_isWithin G w (stv v90 h0 4 (v90 h0 2)) ((stv v90 h0 4 (v90 h0 2)) (rf G h0 0) (Int32.toNatClampNeg (v90 h0 2))) (48 : Int32) (57 : Int32)) = (0 : Int32) then (if ((stv v90 h0 4 (v90 h0 2)) (rf G h0 0) (Int32.toNatClampNeg (v90 h0 2))) = (59 : Int32) then (K_X3_nextToken_223 G w h0 (stv v90 h0 4 (v90 h0 2)) (3 : Int32)) else (K_X3_nextToken_223 G w h0 (stv v90 h0 4 (v90 h0 2)) (4 : Int32))) else (K_X3_nextToken_c1 G w h0 (F_X3_passRun G w (stv v90 h0 4 (v90 h0 2)) h0 (48 : Int32) (57 : Int32)))) else (K_X3_nextToken_c2 G w h0 (F_X3_passRun G w (stv v90 h0 4 (v90 h0 2)) h0 (97 : Int32) (122 : Int32)))) else ((stv (stv v90 h0 4 (v90 h0 2)) h0 3 (0 : Int32)))
def K_X3_nextToken_0 (G : Gm) (w : Mw) (h0 : Nat) : Nat → Mv → Mv
  | 0, _ => (fun _ _ => 0 : Mv)
  | n0 + 1, v204 =>
    if (v204 h0 1) ≤ (v204 h0 2) then (K_X3_nextToken_38 G w h0 v204) else (if (v204 (rf G h0 0) (Int32.toNatClampNeg (v204 h0 2))) = (32 : Int32) then ((K_X3_nextToken_0 G w h0 n0) (stv v204 h0 2 ((v204 h0 2) + (1 : Int32)))) else (K_X3_nextToken_38 G w h0 v204))
def K_X3_nextToken_e (G : Gm) (w : Mw) (v : Mv) (h0 : Nat) : Mv :=
  K_X3_nextToken_0 G w h0 151 v
def F_X3_nextToken (G : Gm) (w : Mw) (v : Mv) (h0 : Nat) : Mv := K_X3_nextToken_e G w v h0
set_option maxRecDepth 100000 in
theorem kx_X3_nextToken_1 {G : Gm} {w : Mw} {h0 : Nat} {v1 : Mv} {x5 : Int32} {v22 : Mv} {x8 : Int32} {v10 : Mv} {x19 : Int32} (a0 : x8 = v1 h0 2) (a1 : v10 = stv v1 h0 3 x5) (a2 : x19 = x8 + (1 : Int32)) (a3 : v22 = stv v10 h0 2 x19)  : K_X3_nextToken_223 G w h0 v1 x5 = v22 := by
  subst a3; subst a2; subst a1; subst a0; first | rw [K_X3_nextToken_223] | simp only [K_X3_nextToken_223]
set_option maxRecDepth 100000 in
theorem kx_X3_nextToken_2 {G : Gm} {w : Mw} {h0 : Nat} {v29 : Mv} {x33 : Int32} {x34 : Int32} {v37 : Mv} {x35 : Int32} (a0 : x35 = x34 + x33) (a1 : v37 = stv v29 h0 5 x35)  : K_X3_nextToken_196 G w h0 v29 x33 x34 = v37 := by
  subst a1; subst a0; first | rw [K_X3_nextToken_196] | simp only [K_X3_nextToken_196]
set_option maxRecDepth 100000 in
theorem kx_X3_nextToken_3 {G : Gm} {w : Mw} {h0 : Nat} {v43 : Mv} {x47 : Int32} {v55 : Mv} {x70 : Int32} {x50 : Int32} {x65 : Int32} {x68 : Int32} {x53 : Int32} {x76 : Int32} (a0 : x50 = v43 h0 2) (a1 : x53 = v43 h0 4) (a2 : v55 = stv v43 h0 3 x47) (a3 : x65 = x50 - (1 : Int32)) (a4 : x68 = v55 (rf G h0 0) (Int32.toNatClampNeg x65)) (a5 : x70 = x68 - (48 : Int32)) (a6 : x76 = x50 - x53) (k0 : ¬ (x76 = (2 : Int32))) : K_X3_nextToken_146 G w h0 v43 x47 = K_X3_nextToken_196 G w h0 v55 (0 : Int32) x70 := by
  subst a6; subst a5; subst a4; subst a3; subst a2; subst a1; subst a0; first | rw [K_X3_nextToken_146, if_neg k0] | simp only [K_X3_nextToken_146, if_neg k0]
set_option maxRecDepth 100000 in
theorem kx_X3_nextToken_4 {G : Gm} {w : Mw} {h0 : Nat} {v43 : Mv} {x47 : Int32} {v55 : Mv} {x88 : Int32} {x70 : Int32} {x50 : Int32} {x65 : Int32} {x68 : Int32} {x53 : Int32} {x84 : Int32} {x86 : Int32} {x76 : Int32} (a0 : x50 = v43 h0 2) (a1 : x53 = v43 h0 4) (a2 : v55 = stv v43 h0 3 x47) (a3 : x65 = x50 - (1 : Int32)) (a4 : x68 = v55 (rf G h0 0) (Int32.toNatClampNeg x65)) (a5 : x70 = x68 - (48 : Int32)) (a6 : x76 = x50 - x53) (a7 : x84 = v55 (rf G h0 0) (Int32.toNatClampNeg x53)) (a8 : x86 = x84 - (48 : Int32)) (a9 : x88 = (10 : Int32) * x86) (k0 : x76 = (2 : Int32)) : K_X3_nextToken_146 G w h0 v43 x47 = K_X3_nextToken_196 G w h0 v55 x88 x70 := by
  subst a9; subst a8; subst a7; subst a6; subst a5; subst a4; subst a3; subst a2; subst a1; subst a0; first | rw [K_X3_nextToken_146, if_pos k0] | simp only [K_X3_nextToken_146, if_pos k0]
set_option maxRecDepth 100000 in
theorem kx_X3_nextToken_5 {G : Gm} {w : Mw} {h0 : Nat} {v90 : Mv} {v97 : Mv} {x94 : Int32} {x114 : Int32} {x127 : Int32} {x106 : Int32} {x119 : Int32} {x132 : Int32} {x140 : Int32} (a0 : x94 = v90 h0 2) (a1 : v97 = stv v90 h0 4 x94) (a2 : x106 = v97 h0 1) (a3 : x114 = v97 (rf G h0 0) (Int32.toNatClampNeg x94)) (a4 : x119 = F_X7_isWithin G w v97 x114 (97 : Int32) (122 : Int32)) (a5 : x127 = v97 (rf G h0 0) (Int32.toNatClampNeg x94)) (a6 : x132 = F_X7_isWithin G w v97 x127 (48 : Int32) (57 : Int32)) (a7 : x140 = v97 (rf G h0 0) (Int32.toNatClampNeg x94)) (k0 : x94 < x106) (k1 : x119 = (0 : Int32)) (k2 : x132 = (0 : Int32)) (k3 : ¬ (x140 = (59 : Int32))) : K_X3_nextToken_38 G w h0 v90 = K_X3_nextToken_223 G w h0 v97 (4 : Int32) := by
  subst a7; subst a6; subst a5; subst a4; subst a3; subst a2; subst a1; subst a0; first | rw [K_X3_nextToken_38, if_pos k0, if_pos k1, if_pos k2, if_neg k3] | simp only [K_X3_nextToken_38, if_pos k0, if_pos k1, if_pos k2, if_neg k3]
set_option maxRecDepth 100000 in
theorem kx_X3_nextToken_6 {G : Gm} {w : Mw} {h0 : Nat} {v90 : Mv} {v97 : Mv} {x94 : Int32} {x114 : Int32} {x127 : Int32} {x106 : Int32} {x119 : Int32} {x132 : Int32} {x140 : Int32} (a0 : x94 = v90 h0 2) (a1 : v97 = stv v90 h0 4 x94) (a2 : x106 = v97 h0 1) (a3 : x114 = v97 (rf G h0 0) (Int32.toNatClampNeg x94)) (a4 : x119 = F_X7_isWithin G w v97 x114 (97 : Int32) (122 : Int32)) (a5 : x127 = v97 (rf G h0 0) (Int32.toNatClampNeg x94)) (a6 : x132 = F_X7_isWithin G w v97 x127 (48 : Int32) (57 : Int32)) (a7 : x140 = v97 (rf G h0 0) (Int32.toNatClampNeg x94)) (k0 : x94 < x106) (k1 : x119 = (0 : Int32)) (k2 : x132 = (0 : Int32)) (k3 : x140 = (59 : Int32)) : K_X3_nextToken_38 G w h0 v90 = K_X3_nextToken_223 G w h0 v97 (3 : Int32) := by
  subst a7; subst a6; subst a5; subst a4; subst a3; subst a2; subst a1; subst a0; first | rw [K_X3_nextToken_38, if_pos k0, if_pos k1, if_pos k2, if_pos k3] | simp only [K_X3_nextToken_38, if_pos k0, if_pos k1, if_pos k2, if_pos k3]
set_option maxRecDepth 100000 in
theorem kx_X3_nextToken_7 {G : Gm} {w : Mw} {h0 : Nat} {v90 : Mv} {v148 : Mv} {x94 : Int32} {v97 : Mv} {x114 : Int32} {x127 : Int32} {x106 : Int32} {x119 : Int32} {x132 : Int32} (a0 : x94 = v90 h0 2) (a1 : v97 = stv v90 h0 4 x94) (a2 : x106 = v97 h0 1) (a3 : x114 = v97 (rf G h0 0) (Int32.toNatClampNeg x94)) (a4 : x119 = F_X7_isWithin G w v97 x114 (97 : Int32) (122 : Int32)) (a5 : x127 = v97 (rf G h0 0) (Int32.toNatClampNeg x94)) (a6 : x132 = F_X7_isWithin G w v97 x127 (48 : Int32) (57 : Int32)) (a7 : v148 = F_X3_passRun G w v97 h0 (48 : Int32) (57 : Int32)) (k0 : x94 < x106) (k1 : x119 = (0 : Int32)) (k2 : ¬ (x132 = (0 : Int32))) : K_X3_nextToken_38 G w h0 v90 = K_X3_nextToken_c1 G w h0 v148 := by
  subst a7; subst a6; subst a5; subst a4; subst a3; subst a2; subst a1; subst a0; first | rw [K_X3_nextToken_38, if_pos k0, if_pos k1, if_neg k2] | simp only [K_X3_nextToken_38, if_pos k0, if_pos k1, if_neg k2]
set_option maxRecDepth 100000 in
theorem kx_X3_nextToken_8 {G : Gm} {w : Mw} {h0 : Nat} {v148 : Mv} {x155 : Int32} {x94 : Int32} {x164 : Int32} (a0 : x94 = v148 h0 4) (a1 : x155 = v148 h0 2) (a2 : x164 = x155 - x94) (k0 : (2 : Int32) < x164) : K_X3_nextToken_c1 G w h0 v148 = K_X3_nextToken_146 G w h0 v148 (4 : Int32) := by
  subst a2; subst a1; subst a0; first | rw [K_X3_nextToken_c1, if_pos k0] | simp only [K_X3_nextToken_c1, if_pos k0]
set_option maxRecDepth 100000 in
theorem kx_X3_nextToken_9 {G : Gm} {w : Mw} {h0 : Nat} {v148 : Mv} {x155 : Int32} {x94 : Int32} {x164 : Int32} (a0 : x94 = v148 h0 4) (a1 : x155 = v148 h0 2) (a2 : x164 = x155 - x94) (k0 : ¬ ((2 : Int32) < x164)) : K_X3_nextToken_c1 G w h0 v148 = K_X3_nextToken_146 G w h0 v148 (2 : Int32) := by
  subst a2; subst a1; subst a0; first | rw [K_X3_nextToken_c1, if_neg k0] | simp only [K_X3_nextToken_c1, if_neg k0]
set_option maxRecDepth 100000 in
theorem kx_X3_nextToken_10 {G : Gm} {w : Mw} {h0 : Nat} {v90 : Mv} {v174 : Mv} {x94 : Int32} {v97 : Mv} {x114 : Int32} {x106 : Int32} {x119 : Int32} (a0 : x94 = v90 h0 2) (a1 : v97 = stv v90 h0 4 x94) (a2 : x106 = v97 h0 1) (a3 : x114 = v97 (rf G h0 0) (Int32.toNatClampNeg x94)) (a4 : x119 = F_X7_isWithin G w v97 x114 (97 : Int32) (122 : Int32)) (a5 : v174 = F_X3_passRun G w v97 h0 (97 : Int32) (122 : Int32)) (k0 : x94 < x106) (k1 : ¬ (x119 = (0 : Int32))) : K_X3_nextToken_38 G w h0 v90 = K_X3_nextToken_c2 G w h0 v174 := by
  subst a5; subst a4; subst a3; subst a2; subst a1; subst a0; first | rw [K_X3_nextToken_38, if_pos k0, if_neg k1] | simp only [K_X3_nextToken_38, if_pos k0, if_neg k1]
set_option maxRecDepth 100000 in
theorem kx_X3_nextToken_11 {G : Gm} {w : Mw} {h0 : Nat} {v174 : Mv} {v186 : Mv} (a0 : v186 = stv v174 h0 3 (1 : Int32))  : K_X3_nextToken_c2 G w h0 v174 = v186 := by
  subst a0; first | rw [K_X3_nextToken_c2] | simp only [K_X3_nextToken_c2]
set_option maxRecDepth 100000 in
theorem kx_X3_nextToken_12 {G : Gm} {w : Mw} {h0 : Nat} {v90 : Mv} {v195 : Mv} {x94 : Int32} {v97 : Mv} {x106 : Int32} (a0 : x94 = v90 h0 2) (a1 : v97 = stv v90 h0 4 x94) (a2 : x106 = v97 h0 1) (a3 : v195 = stv v97 h0 3 (0 : Int32)) (k0 : ¬ (x94 < x106)) : K_X3_nextToken_38 G w h0 v90 = v195 := by
  subst a3; subst a2; subst a1; subst a0; first | rw [K_X3_nextToken_38, if_neg k0] | simp only [K_X3_nextToken_38, if_neg k0]
set_option maxRecDepth 100000 in
theorem kx_X3_nextToken_13 {G : Gm} {w : Mw} {h0 : Nat} {n0 : Nat} {v204 : Mv} {x209 : Int32} {x213 : Int32} (a0 : x209 = v204 h0 2) (a1 : x213 = v204 h0 1) (k0 : x213 ≤ x209) : K_X3_nextToken_0 G w h0 (n0 + 1) v204 = K_X3_nextToken_38 G w h0 v204 := by
  subst a1; subst a0; first | rw [K_X3_nextToken_0, if_pos k0] | simp only [K_X3_nextToken_0, if_pos k0]
set_option maxRecDepth 100000 in
theorem kx_X3_nextToken_14 {G : Gm} {w : Mw} {h0 : Nat} {n0 : Nat} {v204 : Mv} {x209 : Int32} {x213 : Int32} {x221 : Int32} (a0 : x209 = v204 h0 2) (a1 : x213 = v204 h0 1) (a2 : x221 = v204 (rf G h0 0) (Int32.toNatClampNeg x209)) (k0 : ¬ (x213 ≤ x209)) (k1 : ¬ (x221 = (32 : Int32))) : K_X3_nextToken_0 G w h0 (n0 + 1) v204 = K_X3_nextToken_38 G w h0 v204 := by
  subst a2; subst a1; subst a0; first | rw [K_X3_nextToken_0, if_neg k0, if_neg k1] | simp only [K_X3_nextToken_0, if_neg k0, if_neg k1]
set_option maxRecDepth 100000 in
theorem kx_X3_nextToken_15 {G : Gm} {w : Mw} {h0 : Nat} {n0 : Nat} {v204 : Mv} {v230 : Mv} {x209 : Int32} {x227 : Int32} {x213 : Int32} {x221 : Int32} (a0 : x209 = v204 h0 2) (a1 : x213 = v204 h0 1) (a2 : x221 = v204 (rf G h0 0) (Int32.toNatClampNeg x209)) (a3 : x227 = x209 + (1 : Int32)) (a4 : v230 = stv v204 h0 2 x227) (k0 : ¬ (x213 ≤ x209)) (k1 : x221 = (32 : Int32)) : K_X3_nextToken_0 G w h0 (n0 + 1) v204 = (K_X3_nextToken_0 G w h0 n0) v230 := by
  subst a4; subst a3; subst a2; subst a1; subst a0; first | rw [K_X3_nextToken_0, if_neg k0, if_pos k1] | simp only [K_X3_nextToken_0, if_neg k0, if_pos k1]
set_option maxRecDepth 100000 in
theorem kx_X3_nextToken_16 {G : Gm} {w : Mw} {v : Mv} {h0 : Nat}   : K_X3_nextToken_e G w v h0 = K_X3_nextToken_0 G w h0 151 v := by
  first | rw [K_X3_nextToken_e] | simp only [K_X3_nextToken_e]
abbrev rm_X3_nextToken : Room := { frames := 2, cells := 0, slots := 0, locals := 44 }
set_option maxHeartbeats 4000000 in
set_option maxRecDepth 100000 in
theorem ct_X3_nextToken (l : Launch) (D : va_G) (dA : Nat → ClassId) (G : Gm) (v : Mv) (w : Mw) (hOk : Ok G v w) (h0 : Nat) (S0 : S_X3 G h0) : CtV l yX3_nextToken cX3_nextToken 1 none rm_X3_nextToken D dA G [.ref h0] v w (fun v1 w1 => Ok G v1 w1 ∧ Kp G v v1 ∧ (w1 = w ∧ v1 = F_X3_nextToken G w v h0) ∧ Fr G [3] v v1) := by
  refine CtV.of RX3 [(0, .ref h0)] (Nat.le_of_ble_eq_true rfl) rfl (by decide) rfl ?_
  intro p e s m args below meth c E hr
  have J223 : ∀ (v1 : Mv), Ok G v1 w → Kp G v v1 → Fr G [3] v v1 → ∀ x5 : Int32, Bd x5 3 4 → ∀ x8 : Int32, x8 = v1 h0 2 → Bd x8 0 149 → K_X3_nextToken_223 G w h0 v1 x5 = F_X3_nextToken G w v h0 → J p l e rm_X3_nextToken s m args below meth c 0 0 (MQ below (QcV D dA G (fun v1 w1 => Ok G v1 w1 ∧ Kp G v v1 ∧ (w1 = w ∧ v1 = F_X3_nextToken G w v h0) ∧ Fr G [3] v v1)) args s 0 0 (dm G)) D dA G (dm G) s.heap 1 v1 w [(0, .ref h0)] 223 [.int x5, .ref h0] := by
    intro v1 o2 k3 f4 x5 b6 x8 e9 b7 hK
    refine J_pI E in_X3 rfl (S_X3.h S0) 3 (by decide) wd256 tyX3 tyX3_ok nmX3 rfl rfl .int (by decide +kernel) rfl rfl dX3_nextToken_223 (fun v10 e11 => ?_)
    have o12 : Ok G v10 w := Ok.pf o2 e11 (S_X3.h S0) rfl (b6.w I0 I1 (by decide))
    have k13 : Kp G v v10 := Kp.pf k3 e11 (S_X3.h S0) rfl
    have e14 : x8 = v10 h0 2 := by rw [e11, stv_k (by decide)]; exact e9
    have f15 : Fr G [3] v v10 := Fr.st f4 e11 (S_X3.h S0) rfl
    have e16 : x5 = v10 h0 3 := by rw [e11, stv_s]
    refine J_aload_n E dX3_nextToken_226 0 rfl ?_
    refine J_dup E dX3_nextToken_227 rfl ?_
    refine J_getI E in_X3 rfl (S_X3.h S0) 2 (by decide) wd255 rfl dX3_nextToken_228 (fun x17 e18 => ?_)
    rw [show x17 = x8 from e18.trans (e14).symm]
    refine J_iconst E 1 dX3_nextToken_231 (by decide) ?_
    refine J_iadd E dX3_nextToken_232 (fun x19 e20 => ?_)
    have b21 : Bd x19 1 150 := (Bd.add e20 b7 (Bd.lit 1 1 (by decide)) (by decide)).w _ _ (by decide)
    refine J_pI E in_X3 rfl (S_X3.h S0) 2 (by decide) wd255 tyX3 tyX3_ok nmX3 rfl rfl .int (by decide +kernel) rfl rfl dX3_nextToken_233 (fun v22 e23 => ?_)
    have o24 : Ok G v22 w := Ok.pf o12 e23 (S_X3.h S0) rfl (b21.w 0 150 (by decide))
    have k25 : Kp G v v22 := Kp.pf k13 e23 (S_X3.h S0) rfl
    have e26 : x5 = v22 h0 3 := by rw [e23, stv_k (by decide)]; exact e16
    have f27 : Fr G [3] v v22 := Fr.st f15 e23 (S_X3.h S0) rfl
    have e28 : x19 = v22 h0 2 := by rw [e23, stv_s]
    exact J_vret E hr dX3_nextToken_236 ⟨o24, k25, ⟨⟨rfl, ((kx_X3_nextToken_1 (e9) (e11) (e20) (e23)).symm.trans hK)⟩, f27⟩⟩
  have J196 : ∀ (v29 : Mv), Ok G v29 w → Kp G v v29 → Fr G [3] v v29 → ∀ x33 : Int32, ∀ x34 : Int32, K_X3_nextToken_196 G w h0 v29 x33 x34 = F_X3_nextToken G w v h0 → J p l e rm_X3_nextToken s m args below meth c 0 0 (MQ below (QcV D dA G (fun v1 w1 => Ok G v1 w1 ∧ Kp G v v1 ∧ (w1 = w ∧ v1 = F_X3_nextToken G w v h0) ∧ Fr G [3] v v1)) args s 0 0 (dm G)) D dA G (dm G) s.heap 1 v29 w [] 196 [.int x33, .int x34, .ref h0] := by
    intro v29 o30 k31 f32 x33 x34 hK
    refine J_iadd E dX3_nextToken_196 (fun x35 e36 => ?_)
    refine J_pI E in_X3 rfl (S_X3.h S0) 5 (by decide) wd258 tyX3 tyX3_ok nmX3 rfl rfl .int (by decide +kernel) rfl rfl dX3_nextToken_197 (fun v37 e38 => ?_)
    have o39 : Ok G v37 w := Ok.pf o30 e38 (S_X3.h S0) rfl (Bd.any x35)
    have k40 : Kp G v v37 := Kp.pf k31 e38 (S_X3.h S0) rfl
    have f41 : Fr G [3] v v37 := Fr.st f32 e38 (S_X3.h S0) rfl
    have e42 : x35 = v37 h0 5 := by rw [e38, stv_s]
    refine J_goto E 236 dX3_nextToken_200 (by decide) ?_
    exact J_vret E hr dX3_nextToken_236 ⟨o39, k40, ⟨⟨rfl, ((kx_X3_nextToken_2 (e36) (e38)).symm.trans hK)⟩, f41⟩⟩
  have J146 : ∀ (v43 : Mv), Ok G v43 w → Kp G v v43 → Fr G [3] v v43 → ∀ x47 : Int32, Bd x47 2 4 → ∀ x50 : Int32, x50 = v43 h0 2 → Bd x50 1 150 → ∀ x53 : Int32, x53 = v43 h0 4 → Bd x53 0 149 → K_X3_nextToken_146 G w h0 v43 x47 = F_X3_nextToken G w v h0 → J p l e rm_X3_nextToken s m args below meth c 0 0 (MQ below (QcV D dA G (fun v1 w1 => Ok G v1 w1 ∧ Kp G v v1 ∧ (w1 = w ∧ v1 = F_X3_nextToken G w v h0) ∧ Fr G [3] v v1)) args s 0 0 (dm G)) D dA G (dm G) s.heap 1 v43 w [(0, .ref h0)] 146 [.int x47, .ref h0] := by
    intro v43 o44 k45 f46 x47 b48 x50 e51 b49 x53 e54 b52 hK
    refine J_pI E in_X3 rfl (S_X3.h S0) 3 (by decide) wd256 tyX3 tyX3_ok nmX3 rfl rfl .int (by decide +kernel) rfl rfl dX3_nextToken_146 (fun v55 e56 => ?_)
    have o57 : Ok G v55 w := Ok.pf o44 e56 (S_X3.h S0) rfl (b48.w I0 I1 (by decide))
    have k58 : Kp G v v55 := Kp.pf k45 e56 (S_X3.h S0) rfl
    have e59 : x50 = v55 h0 2 := by rw [e56, stv_k (by decide)]; exact e51
    have e60 : x53 = v55 h0 4 := by rw [e56, stv_k (by decide)]; exact e54
    have f61 : Fr G [3] v v55 := Fr.st f46 e56 (S_X3.h S0) rfl
    have e62 : x47 = v55 h0 3 := by rw [e56, stv_s]
    refine J_aload_n E dX3_nextToken_149 0 rfl ?_
    refine J_aload_n E dX3_nextToken_150 0 rfl ?_
    refine J_getR E in_X3 rfl (S_X3.h S0) 0 (by decide) wd252 rfl dX3_nextToken_151 ?_
    refine J_aload_n E dX3_nextToken_154 0 rfl ?_
    refine J_getI E in_X3 rfl (S_X3.h S0) 2 (by decide) wd255 rfl dX3_nextToken_155 (fun x63 e64 => ?_)
    rw [show x63 = x50 from e64.trans (e59).symm]
    refine J_iconst E 1 dX3_nextToken_158 (by decide) ?_
    refine J_isub E dX3_nextToken_159 (fun x65 e66 => ?_)
    have b67 : Bd x65 0 149 := (Bd.sub e66 b49 (Bd.lit 1 1 (by decide)) (by decide)).w _ _ (by decide)
    refine J_iald1 E (S_X3.f0 S0) (Bd.in b67 (by decide)) dX3_nextToken_160 (fun x68 e69 => ?_)
    refine J_bipush E 48 dX3_nextToken_161 (by decide) ?_
    refine J_isub E dX3_nextToken_163 (fun x70 e71 => ?_)
    refine J_aload_n E dX3_nextToken_164 0 rfl ?_
    refine J_getI E in_X3 rfl (S_X3.h S0) 2 (by decide) wd255 rfl dX3_nextToken_165 (fun x72 e73 => ?_)
    rw [show x72 = x50 from e73.trans (e59).symm]
    refine J_aload_n E dX3_nextToken_168 0 rfl ?_
    refine J_getI E in_X3 rfl (S_X3.h S0) 4 (by decide) wd257 rfl dX3_nextToken_169 (fun x74 e75 => ?_)
    rw [show x74 = x53 from e75.trans (e60).symm]
    refine J_isub E dX3_nextToken_172 (fun x76 e77 => ?_)
    have b78 : Bd x76 (-148) 150 := (Bd.sub e77 b49 b52 (by decide)).w _ _ (by decide)
    refine J_iconst E 2 dX3_nextToken_173 (by decide) ?_
    refine J_icmp_ne E 195 dX3_nextToken_174 (by decide) (fun c79 => ?_) (fun c79 => ?_)
    · refine J_iconst E 0 dX3_nextToken_195 (by decide) ?_
      exact J.sub [] rfl (J196 v55 (o57) (k58) f61 0 x70 ((kx_X3_nextToken_3 (e51) (e54) (e56) (e66) (e69) (e71) (e77) (c79)).symm.trans hK))
    · have b80 : Bd x76 2 2 := Bd.eq_l c79 b78 (Bd.lit 2 2 (by decide)) 2 2 (by decide)
      have b81 : Bd x53 0 148 := Bd.suby e77 b49 b52 b80 0 148 (by decide)
      refine J_bipush E 10 dX3_nextToken_177 (by decide) ?_
      refine J_aload_n E dX3_nextToken_179 0 rfl ?_
      refine J_getR E in_X3 rfl (S_X3.h S0) 0 (by decide) wd252 rfl dX3_nextToken_180 ?_
      refine J_aload_n E dX3_nextToken_183 0 rfl ?_
      refine J_getI E in_X3 rfl (S_X3.h S0) 4 (by decide) wd257 rfl dX3_nextToken_184 (fun x82 e83 => ?_)
      rw [show x82 = x53 from e83.trans (e60).symm]
      refine J_iald1 E (S_X3.f0 S0) (Bd.in b81 (by decide)) dX3_nextToken_187 (fun x84 e85 => ?_)
      refine J_bipush E 48 dX3_nextToken_188 (by decide) ?_
      refine J_isub E dX3_nextToken_190 (fun x86 e87 => ?_)
      refine J_imul E dX3_nextToken_191 (fun x88 e89 => ?_)
      refine J_goto E 196 dX3_nextToken_192 (by decide) ?_
      exact J.sub [] rfl (J196 v55 (o57) (k58) f61 x88 x70 ((kx_X3_nextToken_4 (e51) (e54) (e56) (e66) (e69) (e71) (e77) (e85) (e87) (e89) (c79)).symm.trans hK))
  have J38 : ∀ (v90 : Mv), Ok G v90 w → Kp G v v90 → Fr G [3] v v90 → K_X3_nextToken_38 G w h0 v90 = F_X3_nextToken G w v h0 → J p l e rm_X3_nextToken s m args below meth c 0 0 (MQ below (QcV D dA G (fun v1 w1 => Ok G v1 w1 ∧ Kp G v v1 ∧ (w1 = w ∧ v1 = F_X3_nextToken G w v h0) ∧ Fr G [3] v v1)) args s 0 0 (dm G)) D dA G (dm G) s.heap 1 v90 w [(0, .ref h0)] 38 [] := by
    intro v90 o91 k92 f93 hK
    refine J_aload_n E dX3_nextToken_38 0 rfl ?_
    refine J_aload_n E dX3_nextToken_39 0 rfl ?_
    refine J_getI E in_X3 rfl (S_X3.h S0) 2 (by decide) wd255 rfl dX3_nextToken_40 (fun x94 e95 => ?_)
    have b96 : Bd x94 0 150 := Ok.fd o91 e95 (S_X3.h S0) rfl
    refine J_pI E in_X3 rfl (S_X3.h S0) 4 (by decide) wd257 tyX3 tyX3_ok nmX3 rfl rfl .int (by decide +kernel) rfl rfl dX3_nextToken_43 (fun v97 e98 => ?_)
    have o99 : Ok G v97 w := Ok.pf o91 e98 (S_X3.h S0) rfl b96
    have k100 : Kp G v v97 := Kp.pf k92 e98 (S_X3.h S0) rfl
    have e101 : x94 = v97 h0 2 := by rw [e98, stv_k (by decide)]; exact e95
    have f102 : Fr G [3] v v97 := Fr.st f93 e98 (S_X3.h S0) rfl
    have e103 : x94 = v97 h0 4 := by rw [e98, stv_s]
    refine J_aload_n E dX3_nextToken_46 0 rfl ?_
    refine J_getI E in_X3 rfl (S_X3.h S0) 2 (by decide) wd255 rfl dX3_nextToken_47 (fun x104 e105 => ?_)
    rw [show x104 = x94 from e105.trans (e101).symm]
    refine J_aload_n E dX3_nextToken_50 0 rfl ?_
    refine J_getI E in_X3 rfl (S_X3.h S0) 1 (by decide) wd253 rfl dX3_nextToken_51 (fun x106 e107 => ?_)
    have b108 : Bd x106 0 150 := Ok.fd o99 e107 (S_X3.h S0) rfl
    refine J_icmp_lt E 65 dX3_nextToken_54 (by decide) (fun c109 => ?_) (fun c109 => ?_)
    · have b110 : Bd x94 0 149 := Bd.lt_l c109 b96 b108 149 (by decide)
      have b111 : Bd x106 1 150 := Bd.lt_r c109 b96 b108 1 (by decide)
      refine J_aload_n E dX3_nextToken_65 0 rfl ?_
      refine J_getR E in_X3 rfl (S_X3.h S0) 0 (by decide) wd252 rfl dX3_nextToken_66 ?_
      refine J_aload_n E dX3_nextToken_69 0 rfl ?_
      refine J_getI E in_X3 rfl (S_X3.h S0) 2 (by decide) wd255 rfl dX3_nextToken_70 (fun x112 e113 => ?_)
      rw [show x112 = x94 from e113.trans (e101).symm]
      refine J_iald1 E (S_X3.f0 S0) (Bd.in b110 (by decide)) dX3_nextToken_73 (fun x114 e115 => ?_)
      refine J_bipush E 97 dX3_nextToken_74 (by decide) ?_
      refine J_bipush E 122 dX3_nextToken_76 (by decide) ?_
      refine J_callSNI E cal_X7_isWithin wd409 [.int x114, .int 97, .int 122] [] (ct_X7_isWithin l D dA G v97 w (o99) x114 97 122) rfl rfl (Nat.le_of_ble_eq_true rfl) ⟨rfl, rfl⟩ ⟨Nat.le_of_ble_eq_true rfl, Nat.le_of_ble_eq_true rfl⟩ dX3_nextToken_78 (fun x119 v116 w117 p118 => ?_)
      rw [p118.1, p118.2.1]
      have b120 : Bd x119 0 1 := p118.2.2.1
      have e121 : x119 = F_X7_isWithin G w v97 x114 (97 : Int32) (122 : Int32) := (p118.2.2.2.2.2)
      refine J_if_eq E 100 dX3_nextToken_81 (by decide) (fun c122 => ?_) (fun c122 => ?_)
      · have b123 : Bd x119 0 0 := Bd.eq_l c122 b120 (Bd.lit 0 0 (by decide)) 0 0 (by decide)
        have g124 : ¬ (97 ≤ x114 ∧ x114 ≤ 122) := (p118.2.2.2.2.1).resolve_left (fun h9 => h9 c122)
        refine J_aload_n E dX3_nextToken_100 0 rfl ?_
        refine J_getR E in_X3 rfl (S_X3.h S0) 0 (by decide) wd252 rfl dX3_nextToken_101 ?_
        refine J_aload_n E dX3_nextToken_104 0 rfl ?_
        refine J_getI E in_X3 rfl (S_X3.h S0) 2 (by decide) wd255 rfl dX3_nextToken_105 (fun x125 e126 => ?_)
        rw [show x125 = x94 from e126.trans (e101).symm]
        refine J_iald1 E (S_X3.f0 S0) (Bd.in b110 (by decide)) dX3_nextToken_108 (fun x127 e128 => ?_)
        refine J_bipush E 48 dX3_nextToken_109 (by decide) ?_
        refine J_bipush E 57 dX3_nextToken_111 (by decide) ?_
        refine J_callSNI E cal_X7_isWithin wd409 [.int x127, .int 48, .int 57] [] (ct_X7_isWithin l D dA G v97 w (o99) x127 48 57) rfl rfl (Nat.le_of_ble_eq_true rfl) ⟨rfl, rfl⟩ ⟨Nat.le_of_ble_eq_true rfl, Nat.le_of_ble_eq_true rfl⟩ dX3_nextToken_113 (fun x132 v129 w130 p131 => ?_)
        rw [p131.1, p131.2.1]
        have b133 : Bd x132 0 1 := p131.2.2.1
        have e134 : x132 = F_X7_isWithin G w v97 x127 (48 : Int32) (57 : Int32) := (p131.2.2.2.2.2)
        refine J_if_eq E 203 dX3_nextToken_116 (by decide) (fun c135 => ?_) (fun c135 => ?_)
        · have b136 : Bd x132 0 0 := Bd.eq_l c135 b133 (Bd.lit 0 0 (by decide)) 0 0 (by decide)
          have g137 : ¬ (48 ≤ x127 ∧ x127 ≤ 57) := (p131.2.2.2.2.1).resolve_left (fun h9 => h9 c135)
          refine J_aload_n E dX3_nextToken_203 0 rfl ?_
          refine J_aload_n E dX3_nextToken_204 0 rfl ?_
          refine J_getR E in_X3 rfl (S_X3.h S0) 0 (by decide) wd252 rfl dX3_nextToken_205 ?_
          refine J_aload_n E dX3_nextToken_208 0 rfl ?_
          refine J_getI E in_X3 rfl (S_X3.h S0) 2 (by decide) wd255 rfl dX3_nextToken_209 (fun x138 e139 => ?_)
          rw [show x138 = x94 from e139.trans (e101).symm]
          refine J_iald1 E (S_X3.f0 S0) (Bd.in b110 (by decide)) dX3_nextToken_212 (fun x140 e141 => ?_)
          refine J_bipush E 59 dX3_nextToken_213 (by decide) ?_
          refine J_icmp_ne E 222 dX3_nextToken_215 (by decide) (fun c142 => ?_) (fun c142 => ?_)
          · refine J_iconst E 4 dX3_nextToken_222 (by decide) ?_
            exact J.sub [0] rfl (J223 v97 (o99) (k100) f102 4 ((Bd.lit 4 4 (by decide)).w 3 4 (by decide)) x94 (e101) b110 ((kx_X3_nextToken_5 (e95) (e98) (e107) (e115) (e121) (e128) (e134) (e141) (c109) (c122) (c135) (c142)).symm.trans hK))
          · have b143 : Bd x140 59 59 := Bd.eq_l c142 (Bd.any x140) (Bd.lit 59 59 (by decide)) 59 59 (by decide)
            refine J_iconst E 3 dX3_nextToken_218 (by decide) ?_
            refine J_goto E 223 dX3_nextToken_219 (by decide) ?_
            exact J.sub [0] rfl (J223 v97 (o99) (k100) f102 3 ((Bd.lit 3 3 (by decide)).w 3 4 (by decide)) x94 (e101) b110 ((kx_X3_nextToken_6 (e95) (e98) (e107) (e115) (e121) (e128) (e134) (e141) (c109) (c122) (c135) (c142)).symm.trans hK))
        · have b144 : Bd x132 1 1 := (Bd.ne_lo c135 b133 (Bd.lit 0 0 (by decide))).w _ _ (by decide)
          have g145 := (p131.2.2.2.1).resolve_left c135
          have b146 : Bd x127 48 I1 := Bd.le_r g145.1 (Bd.lit 48 48 (by decide)) (Bd.any x127) 48 (by decide)
          have b147 : Bd x127 48 57 := Bd.le_l g145.2 b146 (Bd.lit 57 57 (by decide)) 57 (by decide)
          refine J_aload_n E dX3_nextToken_119 0 rfl ?_
          refine J_bipush E 48 dX3_nextToken_120 (by decide) ?_
          refine J_bipush E 57 dX3_nextToken_122 (by decide) ?_
          refine J_callVV E cal_X3_passRun wd410 rfl (S_X3.h S0) [.int 48, .int 57] [] (ct_X3_passRun l D dA G v97 w (o99) h0 S0 48 57 x94 (e101) b110 (by rw [← (e107)]; exact c109) (by rw [← e128]; exact ⟨g145.1, g145.2⟩)) rfl rfl (Nat.le_of_ble_eq_true rfl) ⟨rfl, rfl⟩ ⟨Nat.le_of_ble_eq_true rfl, Nat.le_of_ble_eq_true rfl⟩ dX3_nextToken_124 (fun v148 w149 p150 => ?_)
          have ew9 : w = w149 := p150.2.2.2.2.2.1.1.symm
          subst ew9
          have o152 := p150.1
          have k153 : Kp G v v148 := (k100).tr p150.2.1
          have f154 : Fr G [3] v v148 := Fr.tr f102 (p150.2.2.2.2.2.2) (by decide)
          obtain ⟨x155, e156⟩ : ∃ z : Int32, z = v148 h0 2 := ⟨_, rfl⟩
          have b157 : Bd x155 0 150 := Ok.fd o152 e156 (S_X3.h S0) rfl
          have b158 : Bd x155 1 150 := Bd.e (p150.2.2.2.2.1) e156
          have e159 : v148 = F_X3_passRun G w v97 h0 (48 : Int32) (57 : Int32) := (p150.2.2.2.2.2.1).2
          have hK : K_X3_nextToken_c1 G w h0 v148 = F_X3_nextToken G w v h0 := ((kx_X3_nextToken_7 (e95) (e98) (e107) (e115) (e121) (e128) (e134) (e159) (c109) (c122) (c135)).symm.trans hK)
          refine J_aload_n E dX3_nextToken_127 0 rfl ?_
          refine J_aload_n E dX3_nextToken_128 0 rfl ?_
          refine J_getI E in_X3 rfl (S_X3.h S0) 2 (by decide) wd255 rfl dX3_nextToken_129 (fun x160 e161 => ?_)
          rw [show x160 = x155 from e161.trans (e156).symm]
          refine J_aload_n E dX3_nextToken_132 0 rfl ?_
          refine J_getI E in_X3 rfl (S_X3.h S0) 4 (by decide) wd257 rfl dX3_nextToken_133 (fun x162 e163 => ?_)
          rw [show x162 = x94 from e163.trans (((e103).trans ((p150.2.2.2.1)).symm)).symm]
          refine J_isub E dX3_nextToken_136 (fun x164 e165 => ?_)
          have b166 : Bd x164 (-148) 150 := (Bd.sub e165 b158 b110 (by decide)).w _ _ (by decide)
          refine J_iconst E 2 dX3_nextToken_137 (by decide) ?_
          refine J_icmp_gt E 145 dX3_nextToken_138 (by decide) (fun c167 => ?_) (fun c167 => ?_)
          · have b168 : Bd x164 3 150 := Bd.lt_r c167 (Bd.lit 2 2 (by decide)) b166 3 (by decide)
            refine J_iconst E 4 dX3_nextToken_145 (by decide) ?_
            exact J.sub [0] rfl (J146 v148 (o152) (k153) f154 4 ((Bd.lit 4 4 (by decide)).w 2 4 (by decide)) x155 (e156) b158 x94 (((e103).trans ((p150.2.2.2.1)).symm)) b110 ((kx_X3_nextToken_8 (((e103).trans ((p150.2.2.2.1)).symm)) (e156) (e165) (c167)).symm.trans hK))
          · have b169 : Bd x164 (-148) 2 := Bd.le_l (nlt c167) b166 (Bd.lit 2 2 (by decide)) 2 (by decide)
            refine J_iconst E 2 dX3_nextToken_141 (by decide) ?_
            refine J_goto E 146 dX3_nextToken_142 (by decide) ?_
            exact J.sub [0] rfl (J146 v148 (o152) (k153) f154 2 ((Bd.lit 2 2 (by decide)).w 2 4 (by decide)) x155 (e156) b158 x94 (((e103).trans ((p150.2.2.2.1)).symm)) b110 ((kx_X3_nextToken_9 (((e103).trans ((p150.2.2.2.1)).symm)) (e156) (e165) (c167)).symm.trans hK))
      · have b170 : Bd x119 1 1 := (Bd.ne_lo c122 b120 (Bd.lit 0 0 (by decide))).w _ _ (by decide)
        have g171 := (p118.2.2.2.1).resolve_left c122
        have b172 : Bd x114 97 I1 := Bd.le_r g171.1 (Bd.lit 97 97 (by decide)) (Bd.any x114) 97 (by decide)
        have b173 : Bd x114 97 122 := Bd.le_l g171.2 b172 (Bd.lit 122 122 (by decide)) 122 (by decide)
        refine J_aload_n E dX3_nextToken_84 0 rfl ?_
        refine J_bipush E 97 dX3_nextToken_85 (by decide) ?_
        refine J_bipush E 122 dX3_nextToken_87 (by decide) ?_
        refine J_callVV E cal_X3_passRun wd410 rfl (S_X3.h S0) [.int 97, .int 122] [] (ct_X3_passRun l D dA G v97 w (o99) h0 S0 97 122 x94 (e101) b110 (by rw [← (e107)]; exact c109) (by rw [← e115]; exact ⟨g171.1, g171.2⟩)) rfl rfl (Nat.le_of_ble_eq_true rfl) ⟨rfl, rfl⟩ ⟨Nat.le_of_ble_eq_true rfl, Nat.le_of_ble_eq_true rfl⟩ dX3_nextToken_89 (fun v174 w175 p176 => ?_)
        have ew9 : w = w175 := p176.2.2.2.2.2.1.1.symm
        subst ew9
        have o178 := p176.1
        have k179 : Kp G v v174 := (k100).tr p176.2.1
        have f180 : Fr G [3] v v174 := Fr.tr f102 (p176.2.2.2.2.2.2) (by decide)
        obtain ⟨x181, e182⟩ : ∃ z : Int32, z = v174 h0 2 := ⟨_, rfl⟩
        have b183 : Bd x181 0 150 := Ok.fd o178 e182 (S_X3.h S0) rfl
        have b184 : Bd x181 1 150 := Bd.e (p176.2.2.2.2.1) e182
        have e185 : v174 = F_X3_passRun G w v97 h0 (97 : Int32) (122 : Int32) := (p176.2.2.2.2.2.1).2
        have hK : K_X3_nextToken_c2 G w h0 v174 = F_X3_nextToken G w v h0 := ((kx_X3_nextToken_10 (e95) (e98) (e107) (e115) (e121) (e185) (c109) (c122)).symm.trans hK)
        refine J_aload_n E dX3_nextToken_92 0 rfl ?_
        refine J_iconst E 1 dX3_nextToken_93 (by decide) ?_
        refine J_pI E in_X3 rfl (S_X3.h S0) 3 (by decide) wd256 tyX3 tyX3_ok nmX3 rfl rfl .int (by decide +kernel) rfl rfl dX3_nextToken_94 (fun v186 e187 => ?_)
        have o188 : Ok G v186 w := Ok.pf o178 e187 (S_X3.h S0) rfl ((Bd.lit 1 1 (by decide)).w I0 I1 (by decide))
        have k189 : Kp G v v186 := Kp.pf k179 e187 (S_X3.h S0) rfl
        have e190 : x106 = v186 h0 1 := by rw [e187, stv_k (by decide)]; exact ((e107).trans ((p176.2.2.1)).symm)
        have e191 : x94 = v186 h0 4 := by rw [e187, stv_k (by decide)]; exact ((e103).trans ((p176.2.2.2.1)).symm)
        have e192 : x181 = v186 h0 2 := by rw [e187, stv_k (by decide)]; exact e182
        have f193 : Fr G [3] v v186 := Fr.st f180 e187 (S_X3.h S0) rfl
        have e194 : (1 : Int32) = v186 h0 3 := by rw [e187, stv_s]
        refine J_goto E 236 dX3_nextToken_97 (by decide) ?_
        exact J_vret E hr dX3_nextToken_236 ⟨o188, k189, ⟨⟨rfl, ((kx_X3_nextToken_11 (e187)).symm.trans hK)⟩, f193⟩⟩
    · refine J_aload_n E dX3_nextToken_57 0 rfl ?_
      refine J_iconst E 0 dX3_nextToken_58 (by decide) ?_
      refine J_pI E in_X3 rfl (S_X3.h S0) 3 (by decide) wd256 tyX3 tyX3_ok nmX3 rfl rfl .int (by decide +kernel) rfl rfl dX3_nextToken_59 (fun v195 e196 => ?_)
      have o197 : Ok G v195 w := Ok.pf o99 e196 (S_X3.h S0) rfl ((Bd.lit 0 0 (by decide)).w I0 I1 (by decide))
      have k198 : Kp G v v195 := Kp.pf k100 e196 (S_X3.h S0) rfl
      have e199 : x94 = v195 h0 2 := by rw [e196, stv_k (by decide)]; exact e101
      have e200 : x94 = v195 h0 4 := by rw [e196, stv_k (by decide)]; exact e103
      have e201 : x106 = v195 h0 1 := by rw [e196, stv_k (by decide)]; exact e107
      have f202 : Fr G [3] v v195 := Fr.st f102 e196 (S_X3.h S0) rfl
      have e203 : (0 : Int32) = v195 h0 3 := by rw [e196, stv_s]
      refine J_goto E 236 dX3_nextToken_62 (by decide) ?_
      exact J_vret E hr dX3_nextToken_236 ⟨o197, k198, ⟨⟨rfl, ((kx_X3_nextToken_12 (e95) (e98) (e107) (e196) (c109)).symm.trans hK)⟩, f202⟩⟩
  have J0 : ∀ n0 : Nat, ∀ (v204 : Mv), Ok G v204 w → Kp G v v204 → Fr G [3] v v204 → ∀ x209 : Int32, x209 = v204 h0 2 → Bd x209 0 150 → Mu x209 150 n0 → K_X3_nextToken_0 G w h0 n0 v204 = F_X3_nextToken G w v h0 → J p l e rm_X3_nextToken s m args below meth c 0 0 (MQ below (QcV D dA G (fun v1 w1 => Ok G v1 w1 ∧ Kp G v v1 ∧ (w1 = w ∧ v1 = F_X3_nextToken G w v h0) ∧ Fr G [3] v v1)) args s 0 0 (dm G)) D dA G (dm G) s.heap 1 v204 w [(0, .ref h0)] 0 [] := by
    intro n0
    induction n0 with
    | zero => intro v204 o205 k206 f207 x209 e210 b208 hm hK; exact hm.zero b208 (by decide)
    | succ n0 ih0 =>
      intro v204 o205 k206 f207 x209 e210 b208 hmu0 hK
      refine J_aload_n E dX3_nextToken_0 0 rfl ?_
      refine J_getI E in_X3 rfl (S_X3.h S0) 2 (by decide) wd255 rfl dX3_nextToken_1 (fun x211 e212 => ?_)
      rw [show x211 = x209 from e212.trans (e210).symm]
      refine J_aload_n E dX3_nextToken_4 0 rfl ?_
      refine J_getI E in_X3 rfl (S_X3.h S0) 1 (by decide) wd253 rfl dX3_nextToken_5 (fun x213 e214 => ?_)
      have b215 : Bd x213 0 150 := Ok.fd o205 e214 (S_X3.h S0) rfl
      refine J_icmp_ge E 38 dX3_nextToken_8 (by decide) (fun c216 => ?_) (fun c216 => ?_)
      · exact J.sub [0] rfl (J38 v204 (o205) (k206) f207 ((kx_X3_nextToken_13 (e210) (e214) (c216)).symm.trans hK))
      · have b217 : Bd x209 0 149 := Bd.lt_l (nle c216) b208 b215 149 (by decide)
        have b218 : Bd x213 1 150 := Bd.lt_r (nle c216) b208 b215 1 (by decide)
        refine J_aload_n E dX3_nextToken_11 0 rfl ?_
        refine J_getR E in_X3 rfl (S_X3.h S0) 0 (by decide) wd252 rfl dX3_nextToken_12 ?_
        refine J_aload_n E dX3_nextToken_15 0 rfl ?_
        refine J_getI E in_X3 rfl (S_X3.h S0) 2 (by decide) wd255 rfl dX3_nextToken_16 (fun x219 e220 => ?_)
        rw [show x219 = x209 from e220.trans (e210).symm]
        refine J_iald1 E (S_X3.f0 S0) (Bd.in b217 (by decide)) dX3_nextToken_19 (fun x221 e222 => ?_)
        refine J_bipush E 32 dX3_nextToken_20 (by decide) ?_
        refine J_icmp_ne E 38 dX3_nextToken_22 (by decide) (fun c223 => ?_) (fun c223 => ?_)
        · exact J.sub [0] rfl (J38 v204 (o205) (k206) f207 ((kx_X3_nextToken_14 (e210) (e214) (e222) (c216) (c223)).symm.trans hK))
        · have b224 : Bd x221 32 32 := Bd.eq_l c223 (Bd.any x221) (Bd.lit 32 32 (by decide)) 32 32 (by decide)
          refine J_aload_n E dX3_nextToken_25 0 rfl ?_
          refine J_dup E dX3_nextToken_26 rfl ?_
          refine J_getI E in_X3 rfl (S_X3.h S0) 2 (by decide) wd255 rfl dX3_nextToken_27 (fun x225 e226 => ?_)
          rw [show x225 = x209 from e226.trans (e210).symm]
          refine J_iconst E 1 dX3_nextToken_30 (by decide) ?_
          refine J_iadd E dX3_nextToken_31 (fun x227 e228 => ?_)
          have b229 : Bd x227 1 150 := (Bd.add e228 b217 (Bd.lit 1 1 (by decide)) (by decide)).w _ _ (by decide)
          refine J_pI E in_X3 rfl (S_X3.h S0) 2 (by decide) wd255 tyX3 tyX3_ok nmX3 rfl rfl .int (by decide +kernel) rfl rfl dX3_nextToken_32 (fun v230 e231 => ?_)
          have o232 : Ok G v230 w := Ok.pf o205 e231 (S_X3.h S0) rfl (b229.w 0 150 (by decide))
          have k233 : Kp G v v230 := Kp.pf k206 e231 (S_X3.h S0) rfl
          have e234 : x213 = v230 h0 1 := by rw [e231, stv_k (by decide)]; exact e214
          have f235 : Fr G [3] v v230 := Fr.st f207 e231 (S_X3.h S0) rfl
          have e236 : x227 = v230 h0 2 := by rw [e231, stv_s]
          refine J_goto E 0 dX3_nextToken_35 (by decide) ?_
          exact J.sub [0] rfl (ih0 v230 (o232) (k233) f235 x227 (e236) (b229.w 0 150 (by decide)) (Mu.step hmu0 e228 b217 (Bd.lit 1 1 (by decide)) (by decide)) ((kx_X3_nextToken_15 (e210) (e214) (e222) (e228) (e231) (c216) (c223)).symm.trans hK))
  have hK : K_X3_nextToken_e G w v h0 = F_X3_nextToken G w v h0 := rfl
  obtain ⟨x237, e238⟩ : ∃ z : Int32, z = v h0 2 := ⟨_, rfl⟩
  have b239 : Bd x237 0 150 := Ok.fd hOk e238 (S_X3.h S0) rfl
  exact J.sub [0] rfl (J0 151 v (hOk) (Kp.rf) Fr.rf x237 (e238) b239 (Mu.start _ b239 (by decide)) ((kx_X3_nextToken_16).symm.trans hK))

def K_X3_takeNumber_c1 (G : Gm) (w : Mw) (h0 : Nat) (v1 : Mv) (x_0 : Int32) (x_1 : Int32) : Int32 × Mv :=
  if (v1 h0 3) = (2 : Int32) then (if (F_X7_isWithin G w v1 (v1 h0 5) x_0 x_1) = (0 : Int32) then (((0 : Int32), v1)) else (((1 : Int32), v1))) else (((0 : Int32), v1))
def K_X3_takeNumber_e (G : Gm) (w : Mw) (v : Mv) (h0 : Nat) (x_0 : Int32) (x_1 : Int32) : Int32 × Mv :=
  K_X3_takeNumber_c1 G w h0 (F_X3_nextToken G w v h0) x_0 x_1
def F_X3_takeNumber (G : Gm) (w : Mw) (v : Mv) (h0 : Nat) (x_0 : Int32) (x_1 : Int32) : Int32 × Mv := K_X3_takeNumber_e G w v h0 x_0 x_1
set_option maxRecDepth 100000 in
theorem kx_X3_takeNumber_1 {G : Gm} {w : Mw} {v : Mv} {h0 : Nat} {x_0 : Int32} {x_1 : Int32} {v1 : Mv} (a0 : v1 = F_X3_nextToken G w v h0)  : K_X3_takeNumber_e G w v h0 x_0 x_1 = K_X3_takeNumber_c1 G w h0 v1 x_0 x_1 := by
  subst a0; first | rw [K_X3_takeNumber_e] | simp only [K_X3_takeNumber_e]
set_option maxRecDepth 100000 in
theorem kx_X3_takeNumber_2 {G : Gm} {w : Mw} {h0 : Nat} {v1 : Mv} {x_0 : Int32} {x_1 : Int32} {x9 : Int32} (a0 : x9 = v1 h0 3) (k0 : ¬ (x9 = (2 : Int32))) : K_X3_takeNumber_c1 G w h0 v1 x_0 x_1 = ((0 : Int32), v1) := by
  subst a0; first | rw [K_X3_takeNumber_c1, if_neg k0] | simp only [K_X3_takeNumber_c1, if_neg k0]
set_option maxRecDepth 100000 in
theorem kx_X3_takeNumber_3 {G : Gm} {w : Mw} {h0 : Nat} {v1 : Mv} {x_0 : Int32} {x_1 : Int32} {x13 : Int32} {x9 : Int32} {x18 : Int32} (a0 : x9 = v1 h0 3) (a1 : x13 = v1 h0 5) (a2 : x18 = F_X7_isWithin G w v1 x13 x_0 x_1) (k0 : x9 = (2 : Int32)) (k1 : x18 = (0 : Int32)) : K_X3_takeNumber_c1 G w h0 v1 x_0 x_1 = ((0 : Int32), v1) := by
  subst a2; subst a1; subst a0; first | rw [K_X3_takeNumber_c1, if_pos k0, if_pos k1] | simp only [K_X3_takeNumber_c1, if_pos k0, if_pos k1]
set_option maxRecDepth 100000 in
theorem kx_X3_takeNumber_4 {G : Gm} {w : Mw} {h0 : Nat} {v1 : Mv} {x_0 : Int32} {x_1 : Int32} {x13 : Int32} {x9 : Int32} {x18 : Int32} (a0 : x9 = v1 h0 3) (a1 : x13 = v1 h0 5) (a2 : x18 = F_X7_isWithin G w v1 x13 x_0 x_1) (k0 : x9 = (2 : Int32)) (k1 : ¬ (x18 = (0 : Int32))) : K_X3_takeNumber_c1 G w h0 v1 x_0 x_1 = ((1 : Int32), v1) := by
  subst a2; subst a1; subst a0; first | rw [K_X3_takeNumber_c1, if_pos k0, if_neg k1] | simp only [K_X3_takeNumber_c1, if_pos k0, if_neg k1]
abbrev rm_X3_takeNumber : Room := { frames := 3, cells := 0, slots := 0, locals := 64 }
set_option maxHeartbeats 4000000 in
set_option maxRecDepth 100000 in
theorem ct_X3_takeNumber (l : Launch) (D : va_G) (dA : Nat → ClassId) (G : Gm) (v : Mv) (w : Mw) (hOk : Ok G v w) (h0 : Nat) (S0 : S_X3 G h0) (x_0 : Int32) (x_1 : Int32) : CtI l yX3_takeNumber cX3_takeNumber 3 (some .boolean) rm_X3_takeNumber D dA G [.ref h0, .int x_0, .int x_1] v w (fun r v1 w1 => Ok G v1 w1 ∧ Kp G v v1 ∧ Bd r 0 1 ∧ (r = 0 ∨ (x_0 ≤ v1 h0 5 ∧ v1 h0 5 ≤ x_1)) ∧ (w1 = w ∧ (r, v1) = F_X3_takeNumber G w v h0 x_0 x_1) ∧ Fr G [3] v v1) := by
  refine CtI.of RX3 [(0, .ref h0), (1, .int x_0), (2, .int x_1)] (Nat.le_of_ble_eq_true rfl) rfl (by decide) rfl ?_
  intro p e s m args below meth c E hr
  have hK : K_X3_takeNumber_e G w v h0 x_0 x_1 = F_X3_takeNumber G w v h0 x_0 x_1 := rfl
  refine J_aload_n E dX3_takeNumber_0 0 rfl ?_
  refine J_callVV E cal_X3_nextToken wd405 rfl (S_X3.h S0) [] [] (ct_X3_nextToken l D dA G v w (hOk) h0 S0) rfl rfl (Nat.le_of_ble_eq_true rfl) ⟨rfl, rfl⟩ ⟨Nat.le_of_ble_eq_true rfl, Nat.le_of_ble_eq_true rfl⟩ dX3_takeNumber_1 (fun v1 w2 p3 => ?_)
  have ew9 : w = w2 := p3.2.2.1.1.symm
  subst ew9
  have o5 := p3.1
  have k6 : Kp G v v1 := (Kp.rf).tr p3.2.1
  have f7 : Fr G [3] v v1 := Fr.tr Fr.rf (p3.2.2.2) (by decide)
  have e8 : v1 = F_X3_nextToken G w v h0 := (p3.2.2.1).2
  have hK : K_X3_takeNumber_c1 G w h0 v1 x_0 x_1 = F_X3_takeNumber G w v h0 x_0 x_1 := ((kx_X3_takeNumber_1 (e8)).symm.trans hK)
  refine J_aload_n E dX3_takeNumber_4 0 rfl ?_
  refine J_getI E in_X3 rfl (S_X3.h S0) 3 (by decide) wd256 rfl dX3_takeNumber_5 (fun x9 e10 => ?_)
  refine J_iconst E 2 dX3_takeNumber_8 (by decide) ?_
  refine J_icmp_ne E 28 dX3_takeNumber_9 (by decide) (fun c11 => ?_) (fun c11 => ?_)
  · refine J_iconst E 0 dX3_takeNumber_28 (by decide) ?_
    exact J_zret E hr (Bd.z (Bd.lit 0 0 (by decide)) (by decide)) dX3_takeNumber_29 ⟨o5, k6, ((Bd.lit 0 0 (by decide)).w 0 1 (by decide)), ⟨(Or.inl rfl), ⟨rfl, ((kx_X3_takeNumber_2 (e10) (c11)).symm.trans hK)⟩, f7⟩⟩
  · have b12 : Bd x9 2 2 := Bd.eq_l c11 (Bd.any x9) (Bd.lit 2 2 (by decide)) 2 2 (by decide)
    refine J_aload_n E dX3_takeNumber_12 0 rfl ?_
    refine J_getI E in_X3 rfl (S_X3.h S0) 5 (by decide) wd258 rfl dX3_takeNumber_13 (fun x13 e14 => ?_)
    refine J_iload_n E dX3_takeNumber_16 1 rfl ?_
    refine J_iload_n E dX3_takeNumber_17 2 rfl ?_
    refine J_callSNI E cal_X7_isWithin wd409 [.int x13, .int x_0, .int x_1] [] (ct_X7_isWithin l D dA G v1 w (o5) x13 x_0 x_1) rfl rfl (Nat.le_of_ble_eq_true rfl) ⟨rfl, rfl⟩ ⟨Nat.le_of_ble_eq_true rfl, Nat.le_of_ble_eq_true rfl⟩ dX3_takeNumber_18 (fun x18 v15 w16 p17 => ?_)
    rw [p17.1, p17.2.1]
    have b19 : Bd x18 0 1 := p17.2.2.1
    have e20 : x18 = F_X7_isWithin G w v1 x13 x_0 x_1 := (p17.2.2.2.2.2)
    refine J_if_eq E 28 dX3_takeNumber_21 (by decide) (fun c21 => ?_) (fun c21 => ?_)
    · have b22 : Bd x18 0 0 := Bd.eq_l c21 b19 (Bd.lit 0 0 (by decide)) 0 0 (by decide)
      have g23 : ¬ (x_0 ≤ x13 ∧ x13 ≤ x_1) := (p17.2.2.2.2.1).resolve_left (fun h9 => h9 c21)
      refine J_iconst E 0 dX3_takeNumber_28 (by decide) ?_
      exact J_zret E hr (Bd.z (Bd.lit 0 0 (by decide)) (by decide)) dX3_takeNumber_29 ⟨o5, k6, ((Bd.lit 0 0 (by decide)).w 0 1 (by decide)), ⟨(Or.inl rfl), ⟨rfl, ((kx_X3_takeNumber_3 (e10) (e14) (e20) (c11) (c21)).symm.trans hK)⟩, f7⟩⟩
    · have b24 : Bd x18 1 1 := (Bd.ne_lo c21 b19 (Bd.lit 0 0 (by decide))).w _ _ (by decide)
      have g25 := (p17.2.2.2.1).resolve_left c21
      refine J_iconst E 1 dX3_takeNumber_24 (by decide) ?_
      refine J_goto E 29 dX3_takeNumber_25 (by decide) ?_
      exact J_zret E hr (Bd.z (Bd.lit 1 1 (by decide)) (by decide)) dX3_takeNumber_29 ⟨o5, k6, ((Bd.lit 1 1 (by decide)).w 0 1 (by decide)), ⟨(Or.inr (by rw [← e14]; exact ⟨g25.1, g25.2⟩)), ⟨rfl, ((kx_X3_takeNumber_4 (e10) (e14) (e20) (c11) (c21)).symm.trans hK)⟩, f7⟩⟩

def K_X6_addThing_e (G : Gm) (w : Mw) (v : Mv) (h0 : Nat) (x_0 : Int32) (x_1 : Int32) : Int32 × Mv :=
  ((v h0 0), (stv (stv (stv (stv v (rf G h0 1) (Int32.toNatClampNeg (v h0 0)) x_0) (rf G h0 2) (Int32.toNatClampNeg (v h0 0)) x_1) h0 0 ((v h0 0) + (1 : Int32))) h0 8 (0 : Int32)))
def F_X6_addThing (G : Gm) (w : Mw) (v : Mv) (h0 : Nat) (x_0 : Int32) (x_1 : Int32) : Int32 × Mv := K_X6_addThing_e G w v h0 x_0 x_1
set_option maxRecDepth 100000 in
theorem kx_X6_addThing_1 {G : Gm} {w : Mw} {v : Mv} {h0 : Nat} {x_0 : Int32} {x_1 : Int32} {z_0 : Int32} {v26 : Mv} {v3 : Mv} {v9 : Mv} {x17 : Int32} {v20 : Mv} (a0 : z_0 = v h0 0) (a1 : v3 = stv v (rf G h0 1) (Int32.toNatClampNeg z_0) x_0) (a2 : v9 = stv v3 (rf G h0 2) (Int32.toNatClampNeg z_0) x_1) (a3 : x17 = z_0 + (1 : Int32)) (a4 : v20 = stv v9 h0 0 x17) (a5 : v26 = stv v20 h0 8 (0 : Int32))  : K_X6_addThing_e G w v h0 x_0 x_1 = (z_0, v26) := by
  subst a5; subst a4; subst a3; subst a2; subst a1; subst a0; first | rw [K_X6_addThing_e] | simp only [K_X6_addThing_e]
abbrev rm_X6_addThing : Room := { frames := 0, cells := 0, slots := 0, locals := 0 }
set_option maxHeartbeats 4000000 in
set_option maxRecDepth 100000 in
theorem ct_X6_addThing (l : Launch) (D : va_G) (dA : Nat → ClassId) (G : Gm) (v : Mv) (w : Mw) (hOk : Ok G v w) (h0 : Nat) (S0 : S_X6 G h0) (x_0 : Int32) (bx_0 : Bd x_0 0 5) (x_1 : Int32) (bx_1 : Bd x_1 1 30) (z_0 : Int32) (ez_0 : z_0 = v h0 0) (pre0 : Bd z_0 0 6) : CtI l yX6_addThing cX6_addThing 4 (some .int) rm_X6_addThing D dA G [.ref h0, .int x_0, .int x_1] v w (fun r v1 w1 => Ok G v1 w1 ∧ True ∧ Bd r 0 6 ∧ (w1 = w ∧ (r, v1) = F_X6_addThing G w v h0 x_0 x_1) ∧ Fr G [6, 107] v v1) := by
  refine CtI.of RX6 [(0, .ref h0), (1, .int x_0), (2, .int x_1)] (Nat.le_of_ble_eq_true rfl) rfl (by decide) rfl ?_
  intro p e s m args below meth c E hr
  have hK : K_X6_addThing_e G w v h0 x_0 x_1 = F_X6_addThing G w v h0 x_0 x_1 := rfl
  refine J_aload_n E dX6_addThing_0 0 rfl ?_
  refine J_getI E in_X6 rfl (S_X6.h S0) 0 (by decide) wd191 rfl dX6_addThing_1 (fun x1 e2 => ?_)
  rw [show x1 = z_0 from e2.trans (ez_0).symm]
  refine J_istore_n E [(3, .int z_0), (0, .ref h0), (1, .int x_0), (2, .int x_1)] dX6_addThing_4 rfl (by decide) rfl ?_
  refine J_aload_n E dX6_addThing_5 1 rfl ?_
  refine J_getR E in_X6 rfl (S_X6.h S0) 1 (by decide) wd195 rfl dX6_addThing_6 ?_
  refine J_iload_n E dX6_addThing_9 0 rfl ?_
  refine J_iload_n E dX6_addThing_10 2 rfl ?_
  refine J_iast1 E (S_X6.f1 S0) (Bd.in pre0 (by decide)) dX6_addThing_11 (fun v3 e4 => ?_)
  have o5 : Ok G v3 w := by rw [e4]; exact Ok.sw hOk (S_X6.f1 S0) pre0 bx_0 0 7 (by decide) (by decide +kernel)
  have k6 : True := trivial
  have f7 : Fr G [6, 107] v v3 := Fr.st Fr.rf e4 (S_X6.f1 S0) rfl
  have e8 : z_0 = v3 h0 0 := by rw [e4, stv_a (tg_ne (S_X6.h S0) ((S_X6.f1 S0)) rfl)]; exact ez_0
  refine J_aload_n E dX6_addThing_12 1 rfl ?_
  refine J_getR E in_X6 rfl (S_X6.h S0) 2 (by decide) wd197 rfl dX6_addThing_13 ?_
  refine J_iload_n E dX6_addThing_16 0 rfl ?_
  refine J_iload_n E dX6_addThing_17 3 rfl ?_
  refine J_iast1 E (S_X6.f2 S0) (Bd.in pre0 (by decide)) dX6_addThing_18 (fun v9 e10 => ?_)
  have o11 : Ok G v9 w := by rw [e10]; exact Ok.sw o5 (S_X6.f2 S0) pre0 bx_1 0 7 (by decide) (by decide +kernel)
  have k12 : True := trivial
  have f13 : Fr G [6, 107] v v9 := Fr.st f7 e10 (S_X6.f2 S0) rfl
  have e14 : z_0 = v9 h0 0 := by rw [e10, stv_a (tg_ne (S_X6.h S0) ((S_X6.f2 S0)) rfl)]; exact e8
  refine J_aload_n E dX6_addThing_19 1 rfl ?_
  refine J_dup E dX6_addThing_20 rfl ?_
  refine J_getI E in_X6 rfl (S_X6.h S0) 0 (by decide) wd191 rfl dX6_addThing_21 (fun x15 e16 => ?_)
  rw [show x15 = z_0 from e16.trans (e14).symm]
  refine J_iconst E 1 dX6_addThing_24 (by decide) ?_
  refine J_iadd E dX6_addThing_25 (fun x17 e18 => ?_)
  have b19 : Bd x17 1 7 := (Bd.add e18 pre0 (Bd.lit 1 1 (by decide)) (by decide)).w _ _ (by decide)
  refine J_pI E in_X6 rfl (S_X6.h S0) 0 (by decide) wd191 tyX6 tyX6_ok nmX6 rfl rfl .int (by decide +kernel) rfl rfl dX6_addThing_26 (fun v20 e21 => ?_)
  have o22 : Ok G v20 w := Ok.pf o11 e21 (S_X6.h S0) rfl (b19.w 0 7 (by decide))
  have f24 : Fr G [6, 107] v v20 := Fr.st f13 e21 (S_X6.h S0) rfl
  have e25 : x17 = v20 h0 0 := by rw [e21, stv_s]
  refine J_aload_n E dX6_addThing_29 1 rfl ?_
  refine J_iconst E 0 dX6_addThing_30 (by decide) ?_
  refine J_pI E in_X6 rfl (S_X6.h S0) 8 (by decide) wd211 tyX6 tyX6_ok nmX6 rfl rfl .int (by decide +kernel) rfl rfl dX6_addThing_31 (fun v26 e27 => ?_)
  have o28 : Ok G v26 w := Ok.pf o22 e27 (S_X6.h S0) rfl ((Bd.lit 0 0 (by decide)).w 0 8 (by decide))
  have e30 : x17 = v26 h0 0 := by rw [e27, stv_k (by decide)]; exact e25
  have f31 : Fr G [6, 107] v v26 := Fr.st f24 e27 (S_X6.h S0) rfl
  have e32 : (0 : Int32) = v26 h0 8 := by rw [e27, stv_s]
  refine J_iload_n E dX6_addThing_34 0 rfl ?_
  exact J_iret E hr dX6_addThing_35 ⟨o28, trivial, pre0, ⟨⟨rfl, ((kx_X6_addThing_1 (ez_0) (e4) (e10) (e18) (e21) (e27)).symm.trans hK)⟩, f31⟩⟩

def K_X3_takeThing_c3 (G : Gm) (w : Mw) (h0 : Nat) (v45 : Mv) (x48 : Int32) : Int32 × Mv :=
  ((1 : Int32), v45)
def K_X3_takeThing_c2 (G : Gm) (w : Mw) (h0 : Nat) (v26 : Mv) (x19 : Int32) (x29 : Int32) : Int32 × Mv :=
  if x29 = (0 : Int32) then (((0 : Int32), v26)) else (K_X3_takeThing_c3 G w h0 ((F_X6_addThing G w v26 (rf G h0 6) x19 (v26 h0 5)).2) ((F_X6_addThing G w v26 (rf G h0 6) x19 (v26 h0 5)).1))
def K_X3_takeThing_c1 (G : Gm) (w : Mw) (h0 : Nat) (v7 : Mv) (x10 : Int32) : Int32 × Mv :=
  if x10 = (0 : Int32) then (((0 : Int32), v7)) else (K_X3_takeThing_c2 G w h0 ((F_X3_takeNumber G w v7 h0 (1 : Int32) (30 : Int32)).2) (v7 h0 5) ((F_X3_takeNumber G w v7 h0 (1 : Int32) (30 : Int32)).1))
def K_X3_takeThing_e (G : Gm) (w : Mw) (v : Mv) (h0 : Nat) : Int32 × Mv :=
  if (7 : Int32) ≤ (v (rf G h0 6) 0) then (((0 : Int32), v)) else (K_X3_takeThing_c1 G w h0 ((F_X3_takeNumber G w v h0 (0 : Int32) (5 : Int32)).2) ((F_X3_takeNumber G w v h0 (0 : Int32) (5 : Int32)).1))
def F_X3_takeThing (G : Gm) (w : Mw) (v : Mv) (h0 : Nat) : Int32 × Mv := K_X3_takeThing_e G w v h0
set_option maxRecDepth 100000 in
theorem kx_X3_takeThing_1 {G : Gm} {w : Mw} {v : Mv} {h0 : Nat} {x1 : Int32} (a0 : x1 = v (rf G h0 6) 0) (k0 : (7 : Int32) ≤ x1) : K_X3_takeThing_e G w v h0 = ((0 : Int32), v) := by
  subst a0; first | rw [K_X3_takeThing_e, if_pos k0] | simp only [K_X3_takeThing_e, if_pos k0]
set_option maxRecDepth 100000 in
theorem kx_X3_takeThing_2 {G : Gm} {w : Mw} {v : Mv} {h0 : Nat} {v7 : Mv} {x10 : Int32} {x1 : Int32} (a0 : x1 = v (rf G h0 6) 0) (a1 : x10 = (F_X3_takeNumber G w v h0 (0 : Int32) (5 : Int32)).1) (a2 : v7 = (F_X3_takeNumber G w v h0 (0 : Int32) (5 : Int32)).2) (k0 : ¬ ((7 : Int32) ≤ x1)) : K_X3_takeThing_e G w v h0 = K_X3_takeThing_c1 G w h0 v7 x10 := by
  subst a2; subst a1; subst a0; first | rw [K_X3_takeThing_e, if_neg k0] | simp only [K_X3_takeThing_e, if_neg k0]
set_option maxRecDepth 100000 in
theorem kx_X3_takeThing_3 {G : Gm} {w : Mw} {h0 : Nat} {v7 : Mv} {x10 : Int32} {v26 : Mv} {x19 : Int32} {x29 : Int32} (a0 : x19 = v7 h0 5) (a1 : x29 = (F_X3_takeNumber G w v7 h0 (1 : Int32) (30 : Int32)).1) (a2 : v26 = (F_X3_takeNumber G w v7 h0 (1 : Int32) (30 : Int32)).2) (k0 : ¬ (x10 = (0 : Int32))) : K_X3_takeThing_c1 G w h0 v7 x10 = K_X3_takeThing_c2 G w h0 v26 x19 x29 := by
  subst a2; subst a1; subst a0; first | rw [K_X3_takeThing_c1, if_neg k0] | simp only [K_X3_takeThing_c1, if_neg k0]
set_option maxRecDepth 100000 in
theorem kx_X3_takeThing_4 {G : Gm} {w : Mw} {h0 : Nat} {v26 : Mv} {x19 : Int32} {x29 : Int32} {v45 : Mv} {x48 : Int32} {x38 : Int32} (a0 : x38 = v26 h0 5) (a1 : x48 = (F_X6_addThing G w v26 (rf G h0 6) x19 x38).1) (a2 : v45 = (F_X6_addThing G w v26 (rf G h0 6) x19 x38).2) (k0 : ¬ (x29 = (0 : Int32))) : K_X3_takeThing_c2 G w h0 v26 x19 x29 = K_X3_takeThing_c3 G w h0 v45 x48 := by
  subst a2; subst a1; subst a0; first | rw [K_X3_takeThing_c2, if_neg k0] | simp only [K_X3_takeThing_c2, if_neg k0]
set_option maxRecDepth 100000 in
theorem kx_X3_takeThing_5 {G : Gm} {w : Mw} {h0 : Nat} {v45 : Mv} {x48 : Int32}   : K_X3_takeThing_c3 G w h0 v45 x48 = ((1 : Int32), v45) := by
  first | rw [K_X3_takeThing_c3] | simp only [K_X3_takeThing_c3]
set_option maxRecDepth 100000 in
theorem kx_X3_takeThing_6 {G : Gm} {w : Mw} {h0 : Nat} {v26 : Mv} {x19 : Int32} {x29 : Int32}  (k0 : x29 = (0 : Int32)) : K_X3_takeThing_c2 G w h0 v26 x19 x29 = ((0 : Int32), v26) := by
  first | rw [K_X3_takeThing_c2, if_pos k0] | simp only [K_X3_takeThing_c2, if_pos k0]
set_option maxRecDepth 100000 in
theorem kx_X3_takeThing_7 {G : Gm} {w : Mw} {h0 : Nat} {v7 : Mv} {x10 : Int32}  (k0 : x10 = (0 : Int32)) : K_X3_takeThing_c1 G w h0 v7 x10 = ((0 : Int32), v7) := by
  first | rw [K_X3_takeThing_c1, if_pos k0] | simp only [K_X3_takeThing_c1, if_pos k0]
abbrev rm_X3_takeThing : Room := { frames := 4, cells := 0, slots := 0, locals := 86 }
set_option maxHeartbeats 4000000 in
set_option maxRecDepth 100000 in
theorem ct_X3_takeThing (l : Launch) (D : va_G) (dA : Nat → ClassId) (G : Gm) (v : Mv) (w : Mw) (hOk : Ok G v w) (h0 : Nat) (S0 : S_X3 G h0) : CtI l yX3_takeThing cX3_takeThing 2 (some .boolean) rm_X3_takeThing D dA G [.ref h0] v w (fun r v1 w1 => Ok G v1 w1 ∧ True ∧ Bd r 0 1 ∧ (w1 = w ∧ (r, v1) = F_X3_takeThing G w v h0) ∧ Fr G [3, 6, 107] v v1) := by
  refine CtI.of RX3 [(0, .ref h0)] (Nat.le_of_ble_eq_true rfl) rfl (by decide) rfl ?_
  intro p e s m args below meth c E hr
  have hK : K_X3_takeThing_e G w v h0 = F_X3_takeThing G w v h0 := rfl
  refine J_aload_n E dX3_takeThing_0 0 rfl ?_
  refine J_getR E in_X3 rfl (S_X3.h S0) 6 (by decide) wd259 rfl dX3_takeThing_1 ?_
  refine J_getIN E in_X6 rfl (S_X6.h (S_X3.f6 S0)) 0 (by decide) wd194 rfl dX3_takeThing_4 (fun x1 e2 => ?_)
  have b3 : Bd x1 0 7 := Ok.fd hOk e2 (S_X6.h (S_X3.f6 S0)) rfl
  refine J_bipush E 7 dX3_takeThing_7 (by decide) ?_
  refine J_icmp_ge E 21 dX3_takeThing_9 (by decide) (fun c4 => ?_) (fun c4 => ?_)
  · have b5 : Bd x1 7 7 := Bd.le_r c4 (Bd.lit 7 7 (by decide)) b3 7 (by decide)
    refine J_iconst E 0 dX3_takeThing_21 (by decide) ?_
    exact J_zret E hr (Bd.z (Bd.lit 0 0 (by decide)) (by decide)) dX3_takeThing_22 ⟨hOk, trivial, ((Bd.lit 0 0 (by decide)).w 0 1 (by decide)), ⟨⟨rfl, ((kx_X3_takeThing_1 (e2) (c4)).symm.trans hK)⟩, Fr.rf⟩⟩
  · have b6 : Bd x1 0 6 := Bd.lt_l (nle c4) b3 (Bd.lit 7 7 (by decide)) 6 (by decide)
    refine J_aload_n E dX3_takeThing_12 0 rfl ?_
    refine J_iconst E 0 dX3_takeThing_13 (by decide) ?_
    refine J_iconst E 5 dX3_takeThing_14 (by decide) ?_
    refine J_callVI E cal_X3_takeNumber wd476 rfl (S_X3.h S0) [.int 0, .int 5] [] (ct_X3_takeNumber l D dA G v w (hOk) h0 S0 0 5) rfl rfl (Nat.le_of_ble_eq_true rfl) ⟨rfl, rfl⟩ ⟨Nat.le_of_ble_eq_true rfl, Nat.le_of_ble_eq_true rfl⟩ dX3_takeThing_15 (fun x10 v7 w8 p9 => ?_)
    have ew9 : w = w8 := p9.2.2.2.2.1.1.symm
    subst ew9
    have o11 := p9.1
    have k12 : True := trivial
    have f13 : Fr G [3, 6, 107] v v7 := Fr.tr Fr.rf (p9.2.2.2.2.2) (by decide)
    have b14 : Bd x10 0 1 := p9.2.2.1
    have e15 : x10 = (F_X3_takeNumber G w v h0 (0 : Int32) (5 : Int32)).1 := congrArg Prod.fst (p9.2.2.2.2.1).2
    have e16 : v7 = (F_X3_takeNumber G w v h0 (0 : Int32) (5 : Int32)).2 := congrArg Prod.snd (p9.2.2.2.2.1).2
    have hK : K_X3_takeThing_c1 G w h0 v7 x10 = F_X3_takeThing G w v h0 := ((kx_X3_takeThing_2 (e2) (e15) (e16) (c4)).symm.trans hK)
    refine J_if_ne E 23 dX3_takeThing_18 (by decide) (fun c17 => ?_) (fun c17 => ?_)
    · have b18 : Bd x10 1 1 := (Bd.ne_lo c17 b14 (Bd.lit 0 0 (by decide))).w _ _ (by decide)
      obtain ⟨x19, e20⟩ : ∃ z : Int32, z = v7 h0 5 := ⟨_, rfl⟩
      have g21 : 0 ≤ x19 ∧ x19 ≤ 5 := by rw [e20]; exact (p9.2.2.2.1).resolve_left c17
      have b22 : Bd x19 0 I1 := Bd.le_r g21.1 (Bd.lit 0 0 (by decide)) (Bd.any x19) 0 (by decide)
      have b23 : Bd x19 0 5 := Bd.le_l g21.2 b22 (Bd.lit 5 5 (by decide)) 5 (by decide)
      refine J_aload_n E dX3_takeThing_23 0 rfl ?_
      refine J_getI E in_X3 rfl (S_X3.h S0) 5 (by decide) wd258 rfl dX3_takeThing_24 (fun x24 e25 => ?_)
      rw [show x24 = x19 from e25.trans (e20).symm]
      refine J_istore_n E [(1, .int x19), (0, .ref h0)] dX3_takeThing_27 rfl (by decide) rfl ?_
      refine J_aload_n E dX3_takeThing_28 1 rfl ?_
      refine J_iconst E 1 dX3_takeThing_29 (by decide) ?_
      refine J_bipush E 30 dX3_takeThing_30 (by decide) ?_
      refine J_callVI E cal_X3_takeNumber wd476 rfl (S_X3.h S0) [.int 1, .int 30] [] (ct_X3_takeNumber l D dA G v7 w (o11) h0 S0 1 30) rfl rfl (Nat.le_of_ble_eq_true rfl) ⟨rfl, rfl⟩ ⟨Nat.le_of_ble_eq_true rfl, Nat.le_of_ble_eq_true rfl⟩ dX3_takeThing_32 (fun x29 v26 w27 p28 => ?_)
      have ew9 : w = w27 := p28.2.2.2.2.1.1.symm
      subst ew9
      have o30 := p28.1
      have k31 : True := trivial
      have f32 : Fr G [3, 6, 107] v v26 := Fr.tr f13 (p28.2.2.2.2.2) (by decide)
      have b33 : Bd x29 0 1 := p28.2.2.1
      have e34 : x29 = (F_X3_takeNumber G w v7 h0 (1 : Int32) (30 : Int32)).1 := congrArg Prod.fst (p28.2.2.2.2.1).2
      have e35 : v26 = (F_X3_takeNumber G w v7 h0 (1 : Int32) (30 : Int32)).2 := congrArg Prod.snd (p28.2.2.2.2.1).2
      have hK : K_X3_takeThing_c2 G w h0 v26 x19 x29 = F_X3_takeThing G w v h0 := ((kx_X3_takeThing_3 (e20) (e34) (e35) (c17)).symm.trans hK)
      refine J_if_ne E 40 dX3_takeThing_35 (by decide) (fun c36 => ?_) (fun c36 => ?_)
      · have b37 : Bd x29 1 1 := (Bd.ne_lo c36 b33 (Bd.lit 0 0 (by decide))).w _ _ (by decide)
        obtain ⟨x38, e39⟩ : ∃ z : Int32, z = v26 h0 5 := ⟨_, rfl⟩
        have g40 : 1 ≤ x38 ∧ x38 ≤ 30 := by rw [e39]; exact (p28.2.2.2.1).resolve_left c36
        have b41 : Bd x38 1 I1 := Bd.le_r g40.1 (Bd.lit 1 1 (by decide)) (Bd.any x38) 1 (by decide)
        have b42 : Bd x38 1 30 := Bd.le_l g40.2 b41 (Bd.lit 30 30 (by decide)) 30 (by decide)
        refine J_aload_n E dX3_takeThing_40 1 rfl ?_
        refine J_getR E in_X3 rfl (S_X3.h S0) 6 (by decide) wd259 rfl dX3_takeThing_41 ?_
        refine J_iload_n E dX3_takeThing_44 0 rfl ?_
        refine J_aload_n E dX3_takeThing_45 1 rfl ?_
        refine J_getI E in_X3 rfl (S_X3.h S0) 5 (by decide) wd258 rfl dX3_takeThing_46 (fun x43 e44 => ?_)
        rw [show x43 = x38 from e44.trans (e39).symm]
        refine J_callVNI E cal_X6_addThing wd480 rfl (S_X6.h (S_X3.f6 S0)) [.int x19, .int x38] [] (ct_X6_addThing l D dA G v26 w (o30) (rf G h0 6) (S_X3.f6 S0) x19 b23 x38 b42 x1 (((((e2).trans (Fr.at (p9.2.2.2.2.2) (S_X6.h (S_X3.f6 S0)) rfl 0).symm)).trans (Fr.at (p28.2.2.2.2.2) (S_X6.h (S_X3.f6 S0)) rfl 0).symm)) b6) rfl rfl (Nat.le_of_ble_eq_true rfl) ⟨rfl, rfl⟩ ⟨Nat.le_of_ble_eq_true rfl, Nat.le_of_ble_eq_true rfl⟩ dX3_takeThing_49 (fun x48 v45 w46 p47 => ?_)
        have ew9 : w = w46 := p47.2.2.2.1.1.symm
        subst ew9
        have o49 := p47.1
        have k50 : True := trivial
        have f51 : Fr G [3, 6, 107] v v45 := Fr.tr f32 (p47.2.2.2.2) (by decide)
        have b52 : Bd x48 0 6 := p47.2.2.1
        have e53 : x48 = (F_X6_addThing G w v26 (rf G h0 6) x19 x38).1 := congrArg Prod.fst (p47.2.2.2.1).2
        have e54 : v45 = (F_X6_addThing G w v26 (rf G h0 6) x19 x38).2 := congrArg Prod.snd (p47.2.2.2.1).2
        have hK : K_X3_takeThing_c3 G w h0 v45 x48 = F_X3_takeThing G w v h0 := ((kx_X3_takeThing_4 (e39) (e53) (e54) (c36)).symm.trans hK)
        refine J_pop E dX3_takeThing_52 rfl ?_
        refine J_iconst E 1 dX3_takeThing_53 (by decide) ?_
        exact J_zret E hr (Bd.z (Bd.lit 1 1 (by decide)) (by decide)) dX3_takeThing_54 ⟨o49, k50, ((Bd.lit 1 1 (by decide)).w 0 1 (by decide)), ⟨⟨rfl, ((kx_X3_takeThing_5).symm.trans hK)⟩, f51⟩⟩
      · have b55 : Bd x29 0 0 := Bd.eq_l c36 b33 (Bd.lit 0 0 (by decide)) 0 0 (by decide)
        refine J_iconst E 0 dX3_takeThing_38 (by decide) ?_
        exact J_zret E hr (Bd.z (Bd.lit 0 0 (by decide)) (by decide)) dX3_takeThing_39 ⟨o30, k31, ((Bd.lit 0 0 (by decide)).w 0 1 (by decide)), ⟨⟨rfl, ((kx_X3_takeThing_6 (c36)).symm.trans hK)⟩, f32⟩⟩
    · have b56 : Bd x10 0 0 := Bd.eq_l c17 b14 (Bd.lit 0 0 (by decide)) 0 0 (by decide)
      refine J_iconst E 0 dX3_takeThing_21 (by decide) ?_
      exact J_zret E hr (Bd.z (Bd.lit 0 0 (by decide)) (by decide)) dX3_takeThing_22 ⟨o11, k12, ((Bd.lit 0 0 (by decide)).w 0 1 (by decide)), ⟨⟨rfl, ((kx_X3_takeThing_7 (c17)).symm.trans hK)⟩, f13⟩⟩

def K_X6_addOne_e (G : Gm) (w : Mw) (v : Mv) (h0 : Nat) (x_0 : Int32) (x_1 : Int32) (x_2 : Int32) : Int32 × Mv :=
  ((v h0 3), (stv (stv (stv (stv (stv (stv (stv v (rf G h0 4) (Int32.toNatClampNeg (v h0 3)) x_0) (rf G h0 5) (Int32.toNatClampNeg (v h0 3)) x_1) (rf G (rf G h0 6) 0) (Int32.toNatClampNeg (v h0 3)) x_2) (rf G (rf G h0 6) 1) (Int32.toNatClampNeg (v h0 3)) (-1 : Int32)) (rf G h0 6) 2 (((stv (stv (stv (stv v (rf G h0 4) (Int32.toNatClampNeg (v h0 3)) x_0) (rf G h0 5) (Int32.toNatClampNeg (v h0 3)) x_1) (rf G (rf G h0 6) 0) (Int32.toNatClampNeg (v h0 3)) x_2) (rf G (rf G h0 6) 1) (Int32.toNatClampNeg (v h0 3)) (-1 : Int32)) (rf G h0 6) 2) ||| ((1 : Int32) <<< ((v h0 3) &&& 31)))) h0 3 ((v h0 3) + (1 : Int32))) h0 8 (0 : Int32)))
def F_X6_addOne (G : Gm) (w : Mw) (v : Mv) (h0 : Nat) (x_0 : Int32) (x_1 : Int32) (x_2 : Int32) : Int32 × Mv := K_X6_addOne_e G w v h0 x_0 x_1 x_2
set_option maxRecDepth 100000 in
theorem kx_X6_addOne_1 {G : Gm} {w : Mw} {v : Mv} {h0 : Nat} {x_0 : Int32} {x_1 : Int32} {x_2 : Int32} {z_0 : Int32} {v53 : Mv} {v3 : Mv} {v9 : Mv} {v15 : Mv} {v21 : Mv} {x27 : Int32} {x29 : Int32} {x32 : Int32} {v34 : Mv} {x43 : Int32} {v46 : Mv} (a0 : z_0 = v h0 3) (a1 : v3 = stv v (rf G h0 4) (Int32.toNatClampNeg z_0) x_0) (a2 : v9 = stv v3 (rf G h0 5) (Int32.toNatClampNeg z_0) x_1) (a3 : v15 = stv v9 (rf G (rf G h0 6) 0) (Int32.toNatClampNeg z_0) x_2) (a4 : v21 = stv v15 (rf G (rf G h0 6) 1) (Int32.toNatClampNeg z_0) (-1 : Int32)) (a5 : x27 = v21 (rf G h0 6) 2) (a6 : x29 = (1 : Int32) <<< (z_0 &&& 31)) (a7 : x32 = x27 ||| x29) (a8 : v34 = stv v21 (rf G h0 6) 2 x32) (a9 : x43 = z_0 + (1 : Int32)) (a10 : v46 = stv v34 h0 3 x43) (a11 : v53 = stv v46 h0 8 (0 : Int32))  : K_X6_addOne_e G w v h0 x_0 x_1 x_2 = (z_0, v53) := by
  subst a11; subst a10; subst a9; subst a8; subst a7; subst a6; subst a5; subst a4; subst a3; subst a2; subst a1; subst a0; first | rw [K_X6_addOne_e] | simp only [K_X6_addOne_e]
abbrev rm_X6_addOne : Room := { frames := 0, cells := 0, slots := 0, locals := 0 }
set_option maxHeartbeats 4000000 in
set_option maxRecDepth 100000 in
theorem ct_X6_addOne (l : Launch) (D : va_G) (dA : Nat → ClassId) (G : Gm) (v : Mv) (w : Mw) (hOk : Ok G v w) (h0 : Nat) (S0 : S_X6 G h0) (x_0 : Int32) (bx_0 : Bd x_0 0 5) (x_1 : Int32) (bx_1 : Bd x_1 1 9) (x_2 : Int32) (bx_2 : Bd x_2 0 99) (z_0 : Int32) (ez_0 : z_0 = v h0 3) (pre0 : Bd z_0 0 6) : CtI l yX6_addOne cX6_addOne 5 (some .int) rm_X6_addOne D dA G [.ref h0, .int x_0, .int x_1, .int x_2] v w (fun r v1 w1 => Ok G v1 w1 ∧ True ∧ Bd r 0 6 ∧ (w1 = w ∧ (r, v1) = F_X6_addOne G w v h0 x_0 x_1 x_2) ∧ Fr G [2, 6, 107] v v1) := by
  refine CtI.of RX6 [(0, .ref h0), (1, .int x_0), (2, .int x_1), (3, .int x_2)] (Nat.le_of_ble_eq_true rfl) rfl (by decide) rfl ?_
  intro p e s m args below meth c E hr
  have hK : K_X6_addOne_e G w v h0 x_0 x_1 x_2 = F_X6_addOne G w v h0 x_0 x_1 x_2 := rfl
  refine J_aload_n E dX6_addOne_0 0 rfl ?_
  refine J_getI E in_X6 rfl (S_X6.h S0) 3 (by decide) wd201 rfl dX6_addOne_1 (fun x1 e2 => ?_)
  rw [show x1 = z_0 from e2.trans (ez_0).symm]
  refine J_istore E [(4, .int z_0), (0, .ref h0), (1, .int x_0), (2, .int x_1), (3, .int x_2)] dX6_addOne_4 (by decide) rfl ?_
  refine J_aload_n E dX6_addOne_6 1 rfl ?_
  refine J_getR E in_X6 rfl (S_X6.h S0) 4 (by decide) wd203 rfl dX6_addOne_7 ?_
  refine J_iload E dX6_addOne_10 0 rfl ?_
  refine J_iload_n E dX6_addOne_12 2 rfl ?_
  refine J_iast1 E (S_X6.f4 S0) (Bd.in pre0 (by decide)) dX6_addOne_13 (fun v3 e4 => ?_)
  have o5 : Ok G v3 w := by rw [e4]; exact Ok.sw hOk (S_X6.f4 S0) pre0 bx_0 0 7 (by decide) (by decide +kernel)
  have k6 : True := trivial
  have f7 : Fr G [2, 6, 107] v v3 := Fr.st Fr.rf e4 (S_X6.f4 S0) rfl
  have e8 : z_0 = v3 h0 3 := by rw [e4, stv_a (tg_ne (S_X6.h S0) ((S_X6.f4 S0)) rfl)]; exact ez_0
  refine J_aload_n E dX6_addOne_14 1 rfl ?_
  refine J_getR E in_X6 rfl (S_X6.h S0) 5 (by decide) wd205 rfl dX6_addOne_15 ?_
  refine J_iload E dX6_addOne_18 0 rfl ?_
  refine J_iload_n E dX6_addOne_20 3 rfl ?_
  refine J_iast1 E (S_X6.f5 S0) (Bd.in pre0 (by decide)) dX6_addOne_21 (fun v9 e10 => ?_)
  have o11 : Ok G v9 w := by rw [e10]; exact Ok.sw o5 (S_X6.f5 S0) pre0 bx_1 0 7 (by decide) (by decide +kernel)
  have k12 : True := trivial
  have f13 : Fr G [2, 6, 107] v v9 := Fr.st f7 e10 (S_X6.f5 S0) rfl
  have e14 : z_0 = v9 h0 3 := by rw [e10, stv_a (tg_ne (S_X6.h S0) ((S_X6.f5 S0)) rfl)]; exact e8
  refine J_aload_n E dX6_addOne_22 1 rfl ?_
  refine J_getR E in_X6 rfl (S_X6.h S0) 6 (by decide) wd207 rfl dX6_addOne_23 ?_
  refine J_getRN E in_X2 rfl (S_X2.h (S_X6.f6 S0)) 0 (by decide) wd151 rfl dX6_addOne_26 ?_
  refine J_iload E dX6_addOne_29 0 rfl ?_
  refine J_iload_n E dX6_addOne_31 4 rfl ?_
  refine J_iast1 E (S_X2.f0 (S_X6.f6 S0)) (Bd.in pre0 (by decide)) dX6_addOne_32 (fun v15 e16 => ?_)
  have o17 : Ok G v15 w := by rw [e16]; exact Ok.sw o11 (S_X2.f0 (S_X6.f6 S0)) pre0 bx_2 0 7 (by decide) (by decide +kernel)
  have k18 : True := trivial
  have f19 : Fr G [2, 6, 107] v v15 := Fr.st f13 e16 (S_X2.f0 (S_X6.f6 S0)) rfl
  have e20 : z_0 = v15 h0 3 := by rw [e16, stv_a (tg_ne (S_X6.h S0) ((S_X2.f0 (S_X6.f6 S0))) rfl)]; exact e14
  refine J_aload_n E dX6_addOne_33 1 rfl ?_
  refine J_getR E in_X6 rfl (S_X6.h S0) 6 (by decide) wd207 rfl dX6_addOne_34 ?_
  refine J_getRN E in_X2 rfl (S_X2.h (S_X6.f6 S0)) 1 (by decide) wd153 rfl dX6_addOne_37 ?_
  refine J_iload E dX6_addOne_40 0 rfl ?_
  refine J_iconst E (-1) dX6_addOne_42 (by decide) ?_
  refine J_iast1 E (S_X2.f1 (S_X6.f6 S0)) (Bd.in pre0 (by decide)) dX6_addOne_43 (fun v21 e22 => ?_)
  have o23 : Ok G v21 w := by rw [e22]; exact Ok.sw o17 (S_X2.f1 (S_X6.f6 S0)) pre0 (Bd.lit (-1) (-1) (by decide)) 0 7 (by decide) (by decide +kernel)
  have k24 : True := trivial
  have f25 : Fr G [2, 6, 107] v v21 := Fr.st f19 e22 (S_X2.f1 (S_X6.f6 S0)) rfl
  have e26 : z_0 = v21 h0 3 := by rw [e22, stv_a (tg_ne (S_X6.h S0) ((S_X2.f1 (S_X6.f6 S0))) rfl)]; exact e20
  refine J_aload_n E dX6_addOne_44 1 rfl ?_
  refine J_getR E in_X6 rfl (S_X6.h S0) 6 (by decide) wd207 rfl dX6_addOne_45 ?_
  refine J_dup E dX6_addOne_48 rfl ?_
  refine J_getIN E in_X2 rfl (S_X2.h (S_X6.f6 S0)) 2 (by decide) wd156 rfl dX6_addOne_49 (fun x27 e28 => ?_)
  refine J_iconst E 1 dX6_addOne_52 (by decide) ?_
  refine J_iload E dX6_addOne_53 0 rfl ?_
  refine J_ishl E dX6_addOne_55 (fun x29 e30 => ?_)
  have b31 : Bd x29 1 64 := Bd.shl1 e30 pre0 6 (by decide)
  refine J_ior E dX6_addOne_56 (fun x32 e33 => ?_)
  refine J_pIN E in_X2 rfl (S_X2.h (S_X6.f6 S0)) 2 (by decide) wd156 tyX2 tyX2_ok nmX2 rfl rfl .int (by decide +kernel) rfl rfl dX6_addOne_57 (fun v34 e35 => ?_)
  have o36 : Ok G v34 w := Ok.pf o23 e35 (S_X2.h (S_X6.f6 S0)) rfl (Bd.any x32)
  have e38 : z_0 = v34 h0 3 := by rw [e35, stv_k (by decide)]; exact e26
  have f39 : Fr G [2, 6, 107] v v34 := Fr.st f25 e35 (S_X2.h (S_X6.f6 S0)) rfl
  have e40 : x32 = v34 (rf G h0 6) 2 := by rw [e35, stv_s]
  refine J_aload_n E dX6_addOne_60 1 rfl ?_
  refine J_dup E dX6_addOne_61 rfl ?_
  refine J_getI E in_X6 rfl (S_X6.h S0) 3 (by decide) wd201 rfl dX6_addOne_62 (fun x41 e42 => ?_)
  rw [show x41 = z_0 from e42.trans (e38).symm]
  refine J_iconst E 1 dX6_addOne_65 (by decide) ?_
  refine J_iadd E dX6_addOne_66 (fun x43 e44 => ?_)
  have b45 : Bd x43 1 7 := (Bd.add e44 pre0 (Bd.lit 1 1 (by decide)) (by decide)).w _ _ (by decide)
  refine J_pI E in_X6 rfl (S_X6.h S0) 3 (by decide) wd201 tyX6 tyX6_ok nmX6 rfl rfl .int (by decide +kernel) rfl rfl dX6_addOne_67 (fun v46 e47 => ?_)
  have o48 : Ok G v46 w := Ok.pf o36 e47 (S_X6.h S0) rfl (b45.w 0 7 (by decide))
  have e50 : x32 = v46 (rf G h0 6) 2 := by rw [e47, stv_k (by decide)]; exact e40
  have f51 : Fr G [2, 6, 107] v v46 := Fr.st f39 e47 (S_X6.h S0) rfl
  have e52 : x43 = v46 h0 3 := by rw [e47, stv_s]
  refine J_aload_n E dX6_addOne_70 1 rfl ?_
  refine J_iconst E 0 dX6_addOne_71 (by decide) ?_
  refine J_pI E in_X6 rfl (S_X6.h S0) 8 (by decide) wd211 tyX6 tyX6_ok nmX6 rfl rfl .int (by decide +kernel) rfl rfl dX6_addOne_72 (fun v53 e54 => ?_)
  have o55 : Ok G v53 w := Ok.pf o48 e54 (S_X6.h S0) rfl ((Bd.lit 0 0 (by decide)).w 0 8 (by decide))
  have e57 : x32 = v53 (rf G h0 6) 2 := by rw [e54, stv_k (by decide)]; exact e50
  have e58 : x43 = v53 h0 3 := by rw [e54, stv_k (by decide)]; exact e52
  have f59 : Fr G [2, 6, 107] v v53 := Fr.st f51 e54 (S_X6.h S0) rfl
  have e60 : (0 : Int32) = v53 h0 8 := by rw [e54, stv_s]
  refine J_iload E dX6_addOne_75 0 rfl ?_
  exact J_iret E hr dX6_addOne_77 ⟨o55, trivial, pre0, ⟨⟨rfl, ((kx_X6_addOne_1 (ez_0) (e4) (e10) (e16) (e22) (e28) (e30) (e33) (e35) (e44) (e47) (e54)).symm.trans hK)⟩, f59⟩⟩

def K_X3_takeOne_c4 (G : Gm) (w : Mw) (h0 : Nat) (v64 : Mv) (x67 : Int32) : Int32 × Mv :=
  ((1 : Int32), v64)
def K_X3_takeOne_c3 (G : Gm) (w : Mw) (h0 : Nat) (v45 : Mv) (x19 : Int32) (x38 : Int32) (x48 : Int32) : Int32 × Mv :=
  if x48 = (0 : Int32) then (((0 : Int32), v45)) else (K_X3_takeOne_c4 G w h0 ((F_X6_addOne G w v45 (rf G h0 6) x19 x38 (v45 h0 5)).2) ((F_X6_addOne G w v45 (rf G h0 6) x19 x38 (v45 h0 5)).1))
def K_X3_takeOne_c2 (G : Gm) (w : Mw) (h0 : Nat) (v26 : Mv) (x19 : Int32) (x29 : Int32) : Int32 × Mv :=
  if x29 = (0 : Int32) then (((0 : Int32), v26)) else (K_X3_takeOne_c3 G w h0 ((F_X3_takeNumber G w v26 h0 (0 : Int32) (99 : Int32)).2) x19 (v26 h0 5) ((F_X3_takeNumber G w v26 h0 (0 : Int32) (99 : Int32)).1))
def K_X3_takeOne_c1 (G : Gm) (w : Mw) (h0 : Nat) (v7 : Mv) (x10 : Int32) : Int32 × Mv :=
  if x10 = (0 : Int32) then (((0 : Int32), v7)) else (K_X3_takeOne_c2 G w h0 ((F_X3_takeNumber G w v7 h0 (1 : Int32) (9 : Int32)).2) (v7 h0 5) ((F_X3_takeNumber G w v7 h0 (1 : Int32) (9 : Int32)).1))
def K_X3_takeOne_e (G : Gm) (w : Mw) (v : Mv) (h0 : Nat) : Int32 × Mv :=
  if (7 : Int32) ≤ (v (rf G h0 6) 3) then (((0 : Int32), v)) else (K_X3_takeOne_c1 G w h0 ((F_X3_takeNumber G w v h0 (0 : Int32) (5 : Int32)).2) ((F_X3_takeNumber G w v h0 (0 : Int32) (5 : Int32)).1))
def F_X3_takeOne (G : Gm) (w : Mw) (v : Mv) (h0 : Nat) : Int32 × Mv := K_X3_takeOne_e G w v h0
set_option maxRecDepth 100000 in
theorem kx_X3_takeOne_1 {G : Gm} {w : Mw} {v : Mv} {h0 : Nat} {x1 : Int32} (a0 : x1 = v (rf G h0 6) 3) (k0 : (7 : Int32) ≤ x1) : K_X3_takeOne_e G w v h0 = ((0 : Int32), v) := by
  subst a0; first | rw [K_X3_takeOne_e, if_pos k0] | simp only [K_X3_takeOne_e, if_pos k0]
set_option maxRecDepth 100000 in
theorem kx_X3_takeOne_2 {G : Gm} {w : Mw} {v : Mv} {h0 : Nat} {v7 : Mv} {x10 : Int32} {x1 : Int32} (a0 : x1 = v (rf G h0 6) 3) (a1 : x10 = (F_X3_takeNumber G w v h0 (0 : Int32) (5 : Int32)).1) (a2 : v7 = (F_X3_takeNumber G w v h0 (0 : Int32) (5 : Int32)).2) (k0 : ¬ ((7 : Int32) ≤ x1)) : K_X3_takeOne_e G w v h0 = K_X3_takeOne_c1 G w h0 v7 x10 := by
  subst a2; subst a1; subst a0; first | rw [K_X3_takeOne_e, if_neg k0] | simp only [K_X3_takeOne_e, if_neg k0]
set_option maxRecDepth 100000 in
theorem kx_X3_takeOne_3 {G : Gm} {w : Mw} {h0 : Nat} {v7 : Mv} {x10 : Int32} {v26 : Mv} {x19 : Int32} {x29 : Int32} (a0 : x19 = v7 h0 5) (a1 : x29 = (F_X3_takeNumber G w v7 h0 (1 : Int32) (9 : Int32)).1) (a2 : v26 = (F_X3_takeNumber G w v7 h0 (1 : Int32) (9 : Int32)).2) (k0 : ¬ (x10 = (0 : Int32))) : K_X3_takeOne_c1 G w h0 v7 x10 = K_X3_takeOne_c2 G w h0 v26 x19 x29 := by
  subst a2; subst a1; subst a0; first | rw [K_X3_takeOne_c1, if_neg k0] | simp only [K_X3_takeOne_c1, if_neg k0]
set_option maxRecDepth 100000 in
theorem kx_X3_takeOne_4 {G : Gm} {w : Mw} {h0 : Nat} {v26 : Mv} {x19 : Int32} {x29 : Int32} {v45 : Mv} {x38 : Int32} {x48 : Int32} (a0 : x38 = v26 h0 5) (a1 : x48 = (F_X3_takeNumber G w v26 h0 (0 : Int32) (99 : Int32)).1) (a2 : v45 = (F_X3_takeNumber G w v26 h0 (0 : Int32) (99 : Int32)).2) (k0 : ¬ (x29 = (0 : Int32))) : K_X3_takeOne_c2 G w h0 v26 x19 x29 = K_X3_takeOne_c3 G w h0 v45 x19 x38 x48 := by
  subst a2; subst a1; subst a0; first | rw [K_X3_takeOne_c2, if_neg k0] | simp only [K_X3_takeOne_c2, if_neg k0]
set_option maxRecDepth 100000 in
theorem kx_X3_takeOne_5 {G : Gm} {w : Mw} {h0 : Nat} {v45 : Mv} {x19 : Int32} {x38 : Int32} {x48 : Int32} {v64 : Mv} {x67 : Int32} {x57 : Int32} (a0 : x57 = v45 h0 5) (a1 : x67 = (F_X6_addOne G w v45 (rf G h0 6) x19 x38 x57).1) (a2 : v64 = (F_X6_addOne G w v45 (rf G h0 6) x19 x38 x57).2) (k0 : ¬ (x48 = (0 : Int32))) : K_X3_takeOne_c3 G w h0 v45 x19 x38 x48 = K_X3_takeOne_c4 G w h0 v64 x67 := by
  subst a2; subst a1; subst a0; first | rw [K_X3_takeOne_c3, if_neg k0] | simp only [K_X3_takeOne_c3, if_neg k0]
set_option maxRecDepth 100000 in
theorem kx_X3_takeOne_6 {G : Gm} {w : Mw} {h0 : Nat} {v64 : Mv} {x67 : Int32}   : K_X3_takeOne_c4 G w h0 v64 x67 = ((1 : Int32), v64) := by
  first | rw [K_X3_takeOne_c4] | simp only [K_X3_takeOne_c4]
set_option maxRecDepth 100000 in
theorem kx_X3_takeOne_7 {G : Gm} {w : Mw} {h0 : Nat} {v45 : Mv} {x19 : Int32} {x38 : Int32} {x48 : Int32}  (k0 : x48 = (0 : Int32)) : K_X3_takeOne_c3 G w h0 v45 x19 x38 x48 = ((0 : Int32), v45) := by
  first | rw [K_X3_takeOne_c3, if_pos k0] | simp only [K_X3_takeOne_c3, if_pos k0]
set_option maxRecDepth 100000 in
theorem kx_X3_takeOne_8 {G : Gm} {w : Mw} {h0 : Nat} {v26 : Mv} {x19 : Int32} {x29 : Int32}  (k0 : x29 = (0 : Int32)) : K_X3_takeOne_c2 G w h0 v26 x19 x29 = ((0 : Int32), v26) := by
  first | rw [K_X3_takeOne_c2, if_pos k0] | simp only [K_X3_takeOne_c2, if_pos k0]
set_option maxRecDepth 100000 in
theorem kx_X3_takeOne_9 {G : Gm} {w : Mw} {h0 : Nat} {v7 : Mv} {x10 : Int32}  (k0 : x10 = (0 : Int32)) : K_X3_takeOne_c1 G w h0 v7 x10 = ((0 : Int32), v7) := by
  first | rw [K_X3_takeOne_c1, if_pos k0] | simp only [K_X3_takeOne_c1, if_pos k0]
abbrev rm_X3_takeOne : Room := { frames := 4, cells := 0, slots := 0, locals := 86 }
set_option maxHeartbeats 4000000 in
set_option maxRecDepth 100000 in
theorem ct_X3_takeOne (l : Launch) (D : va_G) (dA : Nat → ClassId) (G : Gm) (v : Mv) (w : Mw) (hOk : Ok G v w) (h0 : Nat) (S0 : S_X3 G h0) : CtI l yX3_takeOne cX3_takeOne 3 (some .boolean) rm_X3_takeOne D dA G [.ref h0] v w (fun r v1 w1 => Ok G v1 w1 ∧ True ∧ Bd r 0 1 ∧ (w1 = w ∧ (r, v1) = F_X3_takeOne G w v h0) ∧ Fr G [2, 3, 6, 107] v v1) := by
  refine CtI.of RX3 [(0, .ref h0)] (Nat.le_of_ble_eq_true rfl) rfl (by decide) rfl ?_
  intro p e s m args below meth c E hr
  have hK : K_X3_takeOne_e G w v h0 = F_X3_takeOne G w v h0 := rfl
  refine J_aload_n E dX3_takeOne_0 0 rfl ?_
  refine J_getR E in_X3 rfl (S_X3.h S0) 6 (by decide) wd259 rfl dX3_takeOne_1 ?_
  refine J_getIN E in_X6 rfl (S_X6.h (S_X3.f6 S0)) 3 (by decide) wd202 rfl dX3_takeOne_4 (fun x1 e2 => ?_)
  have b3 : Bd x1 0 7 := Ok.fd hOk e2 (S_X6.h (S_X3.f6 S0)) rfl
  refine J_bipush E 7 dX3_takeOne_7 (by decide) ?_
  refine J_icmp_ge E 21 dX3_takeOne_9 (by decide) (fun c4 => ?_) (fun c4 => ?_)
  · have b5 : Bd x1 7 7 := Bd.le_r c4 (Bd.lit 7 7 (by decide)) b3 7 (by decide)
    refine J_iconst E 0 dX3_takeOne_21 (by decide) ?_
    exact J_zret E hr (Bd.z (Bd.lit 0 0 (by decide)) (by decide)) dX3_takeOne_22 ⟨hOk, trivial, ((Bd.lit 0 0 (by decide)).w 0 1 (by decide)), ⟨⟨rfl, ((kx_X3_takeOne_1 (e2) (c4)).symm.trans hK)⟩, Fr.rf⟩⟩
  · have b6 : Bd x1 0 6 := Bd.lt_l (nle c4) b3 (Bd.lit 7 7 (by decide)) 6 (by decide)
    refine J_aload_n E dX3_takeOne_12 0 rfl ?_
    refine J_iconst E 0 dX3_takeOne_13 (by decide) ?_
    refine J_iconst E 5 dX3_takeOne_14 (by decide) ?_
    refine J_callVI E cal_X3_takeNumber wd476 rfl (S_X3.h S0) [.int 0, .int 5] [] (ct_X3_takeNumber l D dA G v w (hOk) h0 S0 0 5) rfl rfl (Nat.le_of_ble_eq_true rfl) ⟨rfl, rfl⟩ ⟨Nat.le_of_ble_eq_true rfl, Nat.le_of_ble_eq_true rfl⟩ dX3_takeOne_15 (fun x10 v7 w8 p9 => ?_)
    have ew9 : w = w8 := p9.2.2.2.2.1.1.symm
    subst ew9
    have o11 := p9.1
    have k12 : True := trivial
    have f13 : Fr G [2, 3, 6, 107] v v7 := Fr.tr Fr.rf (p9.2.2.2.2.2) (by decide)
    have b14 : Bd x10 0 1 := p9.2.2.1
    have e15 : x10 = (F_X3_takeNumber G w v h0 (0 : Int32) (5 : Int32)).1 := congrArg Prod.fst (p9.2.2.2.2.1).2
    have e16 : v7 = (F_X3_takeNumber G w v h0 (0 : Int32) (5 : Int32)).2 := congrArg Prod.snd (p9.2.2.2.2.1).2
    have hK : K_X3_takeOne_c1 G w h0 v7 x10 = F_X3_takeOne G w v h0 := ((kx_X3_takeOne_2 (e2) (e15) (e16) (c4)).symm.trans hK)
    refine J_if_ne E 23 dX3_takeOne_18 (by decide) (fun c17 => ?_) (fun c17 => ?_)
    · have b18 : Bd x10 1 1 := (Bd.ne_lo c17 b14 (Bd.lit 0 0 (by decide))).w _ _ (by decide)
      obtain ⟨x19, e20⟩ : ∃ z : Int32, z = v7 h0 5 := ⟨_, rfl⟩
      have g21 : 0 ≤ x19 ∧ x19 ≤ 5 := by rw [e20]; exact (p9.2.2.2.1).resolve_left c17
      have b22 : Bd x19 0 I1 := Bd.le_r g21.1 (Bd.lit 0 0 (by decide)) (Bd.any x19) 0 (by decide)
      have b23 : Bd x19 0 5 := Bd.le_l g21.2 b22 (Bd.lit 5 5 (by decide)) 5 (by decide)
      refine J_aload_n E dX3_takeOne_23 0 rfl ?_
      refine J_getI E in_X3 rfl (S_X3.h S0) 5 (by decide) wd258 rfl dX3_takeOne_24 (fun x24 e25 => ?_)
      rw [show x24 = x19 from e25.trans (e20).symm]
      refine J_istore_n E [(1, .int x19), (0, .ref h0)] dX3_takeOne_27 rfl (by decide) rfl ?_
      refine J_aload_n E dX3_takeOne_28 1 rfl ?_
      refine J_iconst E 1 dX3_takeOne_29 (by decide) ?_
      refine J_bipush E 9 dX3_takeOne_30 (by decide) ?_
      refine J_callVI E cal_X3_takeNumber wd476 rfl (S_X3.h S0) [.int 1, .int 9] [] (ct_X3_takeNumber l D dA G v7 w (o11) h0 S0 1 9) rfl rfl (Nat.le_of_ble_eq_true rfl) ⟨rfl, rfl⟩ ⟨Nat.le_of_ble_eq_true rfl, Nat.le_of_ble_eq_true rfl⟩ dX3_takeOne_32 (fun x29 v26 w27 p28 => ?_)
      have ew9 : w = w27 := p28.2.2.2.2.1.1.symm
      subst ew9
      have o30 := p28.1
      have k31 : True := trivial
      have f32 : Fr G [2, 3, 6, 107] v v26 := Fr.tr f13 (p28.2.2.2.2.2) (by decide)
      have b33 : Bd x29 0 1 := p28.2.2.1
      have e34 : x29 = (F_X3_takeNumber G w v7 h0 (1 : Int32) (9 : Int32)).1 := congrArg Prod.fst (p28.2.2.2.2.1).2
      have e35 : v26 = (F_X3_takeNumber G w v7 h0 (1 : Int32) (9 : Int32)).2 := congrArg Prod.snd (p28.2.2.2.2.1).2
      have hK : K_X3_takeOne_c2 G w h0 v26 x19 x29 = F_X3_takeOne G w v h0 := ((kx_X3_takeOne_3 (e20) (e34) (e35) (c17)).symm.trans hK)
      refine J_if_ne E 40 dX3_takeOne_35 (by decide) (fun c36 => ?_) (fun c36 => ?_)
      · have b37 : Bd x29 1 1 := (Bd.ne_lo c36 b33 (Bd.lit 0 0 (by decide))).w _ _ (by decide)
        obtain ⟨x38, e39⟩ : ∃ z : Int32, z = v26 h0 5 := ⟨_, rfl⟩
        have g40 : 1 ≤ x38 ∧ x38 ≤ 9 := by rw [e39]; exact (p28.2.2.2.1).resolve_left c36
        have b41 : Bd x38 1 I1 := Bd.le_r g40.1 (Bd.lit 1 1 (by decide)) (Bd.any x38) 1 (by decide)
        have b42 : Bd x38 1 9 := Bd.le_l g40.2 b41 (Bd.lit 9 9 (by decide)) 9 (by decide)
        refine J_aload_n E dX3_takeOne_40 1 rfl ?_
        refine J_getI E in_X3 rfl (S_X3.h S0) 5 (by decide) wd258 rfl dX3_takeOne_41 (fun x43 e44 => ?_)
        rw [show x43 = x38 from e44.trans (e39).symm]
        refine J_istore_n E [(2, .int x38), (1, .int x19), (0, .ref h0)] dX3_takeOne_44 rfl (by decide) rfl ?_
        refine J_aload_n E dX3_takeOne_45 2 rfl ?_
        refine J_iconst E 0 dX3_takeOne_46 (by decide) ?_
        refine J_bipush E 99 dX3_takeOne_47 (by decide) ?_
        refine J_callVI E cal_X3_takeNumber wd476 rfl (S_X3.h S0) [.int 0, .int 99] [] (ct_X3_takeNumber l D dA G v26 w (o30) h0 S0 0 99) rfl rfl (Nat.le_of_ble_eq_true rfl) ⟨rfl, rfl⟩ ⟨Nat.le_of_ble_eq_true rfl, Nat.le_of_ble_eq_true rfl⟩ dX3_takeOne_49 (fun x48 v45 w46 p47 => ?_)
        have ew9 : w = w46 := p47.2.2.2.2.1.1.symm
        subst ew9
        have o49 := p47.1
        have k50 : True := trivial
        have f51 : Fr G [2, 3, 6, 107] v v45 := Fr.tr f32 (p47.2.2.2.2.2) (by decide)
        have b52 : Bd x48 0 1 := p47.2.2.1
        have e53 : x48 = (F_X3_takeNumber G w v26 h0 (0 : Int32) (99 : Int32)).1 := congrArg Prod.fst (p47.2.2.2.2.1).2
        have e54 : v45 = (F_X3_takeNumber G w v26 h0 (0 : Int32) (99 : Int32)).2 := congrArg Prod.snd (p47.2.2.2.2.1).2
        have hK : K_X3_takeOne_c3 G w h0 v45 x19 x38 x48 = F_X3_takeOne G w v h0 := ((kx_X3_takeOne_4 (e39) (e53) (e54) (c36)).symm.trans hK)
        refine J_if_ne E 57 dX3_takeOne_52 (by decide) (fun c55 => ?_) (fun c55 => ?_)
        · have b56 : Bd x48 1 1 := (Bd.ne_lo c55 b52 (Bd.lit 0 0 (by decide))).w _ _ (by decide)
          obtain ⟨x57, e58⟩ : ∃ z : Int32, z = v45 h0 5 := ⟨_, rfl⟩
          have g59 : 0 ≤ x57 ∧ x57 ≤ 99 := by rw [e58]; exact (p47.2.2.2.1).resolve_left c55
          have b60 : Bd x57 0 I1 := Bd.le_r g59.1 (Bd.lit 0 0 (by decide)) (Bd.any x57) 0 (by decide)
          have b61 : Bd x57 0 99 := Bd.le_l g59.2 b60 (Bd.lit 99 99 (by decide)) 99 (by decide)
          refine J_aload_n E dX3_takeOne_57 2 rfl ?_
          refine J_getR E in_X3 rfl (S_X3.h S0) 6 (by decide) wd259 rfl dX3_takeOne_58 ?_
          refine J_iload_n E dX3_takeOne_61 1 rfl ?_
          refine J_iload_n E dX3_takeOne_62 0 rfl ?_
          refine J_aload_n E dX3_takeOne_63 2 rfl ?_
          refine J_getI E in_X3 rfl (S_X3.h S0) 5 (by decide) wd258 rfl dX3_takeOne_64 (fun x62 e63 => ?_)
          rw [show x62 = x57 from e63.trans (e58).symm]
          refine J_callVNI E cal_X6_addOne wd486 rfl (S_X6.h (S_X3.f6 S0)) [.int x19, .int x38, .int x57] [] (ct_X6_addOne l D dA G v45 w (o49) (rf G h0 6) (S_X3.f6 S0) x19 b23 x38 b42 x57 b61 x1 (((((((e2).trans (Fr.at (p9.2.2.2.2.2) (S_X6.h (S_X3.f6 S0)) rfl 3).symm)).trans (Fr.at (p28.2.2.2.2.2) (S_X6.h (S_X3.f6 S0)) rfl 3).symm)).trans (Fr.at (p47.2.2.2.2.2) (S_X6.h (S_X3.f6 S0)) rfl 3).symm)) b6) rfl rfl (Nat.le_of_ble_eq_true rfl) ⟨rfl, rfl⟩ ⟨Nat.le_of_ble_eq_true rfl, Nat.le_of_ble_eq_true rfl⟩ dX3_takeOne_67 (fun x67 v64 w65 p66 => ?_)
          have ew9 : w = w65 := p66.2.2.2.1.1.symm
          subst ew9
          have o68 := p66.1
          have k69 : True := trivial
          have f70 : Fr G [2, 3, 6, 107] v v64 := Fr.tr f51 (p66.2.2.2.2) (by decide)
          have b71 : Bd x67 0 6 := p66.2.2.1
          have e72 : x67 = (F_X6_addOne G w v45 (rf G h0 6) x19 x38 x57).1 := congrArg Prod.fst (p66.2.2.2.1).2
          have e73 : v64 = (F_X6_addOne G w v45 (rf G h0 6) x19 x38 x57).2 := congrArg Prod.snd (p66.2.2.2.1).2
          have hK : K_X3_takeOne_c4 G w h0 v64 x67 = F_X3_takeOne G w v h0 := ((kx_X3_takeOne_5 (e58) (e72) (e73) (c55)).symm.trans hK)
          refine J_pop E dX3_takeOne_70 rfl ?_
          refine J_iconst E 1 dX3_takeOne_71 (by decide) ?_
          exact J_zret E hr (Bd.z (Bd.lit 1 1 (by decide)) (by decide)) dX3_takeOne_72 ⟨o68, k69, ((Bd.lit 1 1 (by decide)).w 0 1 (by decide)), ⟨⟨rfl, ((kx_X3_takeOne_6).symm.trans hK)⟩, f70⟩⟩
        · have b74 : Bd x48 0 0 := Bd.eq_l c55 b52 (Bd.lit 0 0 (by decide)) 0 0 (by decide)
          refine J_iconst E 0 dX3_takeOne_55 (by decide) ?_
          exact J_zret E hr (Bd.z (Bd.lit 0 0 (by decide)) (by decide)) dX3_takeOne_56 ⟨o49, k50, ((Bd.lit 0 0 (by decide)).w 0 1 (by decide)), ⟨⟨rfl, ((kx_X3_takeOne_7 (c55)).symm.trans hK)⟩, f51⟩⟩
      · have b75 : Bd x29 0 0 := Bd.eq_l c36 b33 (Bd.lit 0 0 (by decide)) 0 0 (by decide)
        refine J_iconst E 0 dX3_takeOne_38 (by decide) ?_
        exact J_zret E hr (Bd.z (Bd.lit 0 0 (by decide)) (by decide)) dX3_takeOne_39 ⟨o30, k31, ((Bd.lit 0 0 (by decide)).w 0 1 (by decide)), ⟨⟨rfl, ((kx_X3_takeOne_8 (c36)).symm.trans hK)⟩, f32⟩⟩
    · have b76 : Bd x10 0 0 := Bd.eq_l c17 b14 (Bd.lit 0 0 (by decide)) 0 0 (by decide)
      refine J_iconst E 0 dX3_takeOne_21 (by decide) ?_
      exact J_zret E hr (Bd.z (Bd.lit 0 0 (by decide)) (by decide)) dX3_takeOne_22 ⟨o11, k12, ((Bd.lit 0 0 (by decide)).w 0 1 (by decide)), ⟨⟨rfl, ((kx_X3_takeOne_9 (c17)).symm.trans hK)⟩, f13⟩⟩

def K_X6_mayGet_e (G : Gm) (w : Mw) (v : Mv) (h0 : Nat) (x_0 : Int32) : Int32 :=
  if (F_X2_isHere G w v (rf G h0 6) x_0) = (0 : Int32) then ((0 : Int32)) else (if (v (rf G (rf G h0 6) 1) (Int32.toNatClampNeg x_0)) = (-1 : Int32) then ((1 : Int32)) else ((0 : Int32)))
def F_X6_mayGet (G : Gm) (w : Mw) (v : Mv) (h0 : Nat) (x_0 : Int32) : Int32 := K_X6_mayGet_e G w v h0 x_0
set_option maxRecDepth 100000 in
theorem kx_X6_mayGet_1 {G : Gm} {w : Mw} {v : Mv} {h0 : Nat} {x_0 : Int32} {x4 : Int32} (a0 : x4 = F_X2_isHere G w v (rf G h0 6) x_0) (k0 : x4 = (0 : Int32)) : K_X6_mayGet_e G w v h0 x_0 = (0 : Int32) := by
  subst a0; first | rw [K_X6_mayGet_e, if_pos k0] | simp only [K_X6_mayGet_e, if_pos k0]
set_option maxRecDepth 100000 in
theorem kx_X6_mayGet_2 {G : Gm} {w : Mw} {v : Mv} {h0 : Nat} {x_0 : Int32} {x4 : Int32} {x10 : Int32} (a0 : x4 = F_X2_isHere G w v (rf G h0 6) x_0) (a1 : x10 = v (rf G (rf G h0 6) 1) (Int32.toNatClampNeg x_0)) (k0 : ¬ (x4 = (0 : Int32))) (k1 : ¬ (x10 = (-1 : Int32))) : K_X6_mayGet_e G w v h0 x_0 = (0 : Int32) := by
  subst a1; subst a0; first | rw [K_X6_mayGet_e, if_neg k0, if_neg k1] | simp only [K_X6_mayGet_e, if_neg k0, if_neg k1]
set_option maxRecDepth 100000 in
theorem kx_X6_mayGet_3 {G : Gm} {w : Mw} {v : Mv} {h0 : Nat} {x_0 : Int32} {x4 : Int32} {x10 : Int32} (a0 : x4 = F_X2_isHere G w v (rf G h0 6) x_0) (a1 : x10 = v (rf G (rf G h0 6) 1) (Int32.toNatClampNeg x_0)) (k0 : ¬ (x4 = (0 : Int32))) (k1 : x10 = (-1 : Int32)) : K_X6_mayGet_e G w v h0 x_0 = (1 : Int32) := by
  subst a1; subst a0; first | rw [K_X6_mayGet_e, if_neg k0, if_pos k1] | simp only [K_X6_mayGet_e, if_neg k0, if_pos k1]
abbrev rm_X6_mayGet : Room := { frames := 1, cells := 0, slots := 0, locals := 21 }
set_option maxHeartbeats 4000000 in
set_option maxRecDepth 100000 in
theorem ct_X6_mayGet (l : Launch) (D : va_G) (dA : Nat → ClassId) (G : Gm) (v : Mv) (w : Mw) (hOk : Ok G v w) (h0 : Nat) (S0 : S_X6 G h0) (x_0 : Int32) (bx_0 : Bd x_0 0 6) : CtI l yX6_mayGet cX6_mayGet 2 (some .boolean) rm_X6_mayGet D dA G [.ref h0, .int x_0] v w (fun r v1 w1 => v1 = v ∧ w1 = w ∧ Bd r 0 1 ∧ r = F_X6_mayGet G w v h0 x_0) := by
  refine CtI.of RX6 [(0, .ref h0), (1, .int x_0)] (Nat.le_of_ble_eq_true rfl) rfl (by decide) rfl ?_
  intro p e s m args below meth c E hr
  have hK : K_X6_mayGet_e G w v h0 x_0 = F_X6_mayGet G w v h0 x_0 := rfl
  refine J_aload_n E dX6_mayGet_0 0 rfl ?_
  refine J_getR E in_X6 rfl (S_X6.h S0) 6 (by decide) wd207 rfl dX6_mayGet_1 ?_
  refine J_iload_n E dX6_mayGet_4 1 rfl ?_
  refine J_callVNI E cal_X2_isHere wd496 rfl (S_X2.h (S_X6.f6 S0)) [.int x_0] [] (ct_X2_isHere l D dA G v w (hOk) (rf G h0 6) (S_X6.f6 S0) x_0 bx_0) rfl rfl (Nat.le_of_ble_eq_true rfl) ⟨rfl, rfl⟩ ⟨Nat.le_of_ble_eq_true rfl, Nat.le_of_ble_eq_true rfl⟩ dX6_mayGet_5 (fun x4 v1 w2 p3 => ?_)
  rw [p3.1, p3.2.1]
  have b5 : Bd x4 0 1 := p3.2.2.1
  have e6 : x4 = F_X2_isHere G w v (rf G h0 6) x_0 := (p3.2.2.2)
  refine J_if_eq E 28 dX6_mayGet_8 (by decide) (fun c7 => ?_) (fun c7 => ?_)
  · have b8 : Bd x4 0 0 := Bd.eq_l c7 b5 (Bd.lit 0 0 (by decide)) 0 0 (by decide)
    refine J_iconst E 0 dX6_mayGet_28 (by decide) ?_
    exact J_zret E hr (Bd.z (Bd.lit 0 0 (by decide)) (by decide)) dX6_mayGet_29 ⟨rfl, rfl, ((Bd.lit 0 0 (by decide)).w 0 1 (by decide)), ((kx_X6_mayGet_1 (e6) (c7)).symm.trans hK)⟩
  · have b9 : Bd x4 1 1 := (Bd.ne_lo c7 b5 (Bd.lit 0 0 (by decide))).w _ _ (by decide)
    refine J_aload_n E dX6_mayGet_11 0 rfl ?_
    refine J_getR E in_X6 rfl (S_X6.h S0) 6 (by decide) wd207 rfl dX6_mayGet_12 ?_
    refine J_getRN E in_X2 rfl (S_X2.h (S_X6.f6 S0)) 1 (by decide) wd153 rfl dX6_mayGet_15 ?_
    refine J_iload_n E dX6_mayGet_18 1 rfl ?_
    refine J_iald1 E (S_X2.f1 (S_X6.f6 S0)) (Bd.in bx_0 (by decide)) dX6_mayGet_19 (fun x10 e11 => ?_)
    refine J_iconst E (-1) dX6_mayGet_20 (by decide) ?_
    refine J_icmp_ne E 28 dX6_mayGet_21 (by decide) (fun c12 => ?_) (fun c12 => ?_)
    · refine J_iconst E 0 dX6_mayGet_28 (by decide) ?_
      exact J_zret E hr (Bd.z (Bd.lit 0 0 (by decide)) (by decide)) dX6_mayGet_29 ⟨rfl, rfl, ((Bd.lit 0 0 (by decide)).w 0 1 (by decide)), ((kx_X6_mayGet_2 (e6) (e11) (c7) (c12)).symm.trans hK)⟩
    · have b13 : Bd x10 (-1) (-1) := Bd.eq_l c12 (Bd.any x10) (Bd.lit (-1) (-1) (by decide)) (-1) (-1) (by decide)
      refine J_iconst E 1 dX6_mayGet_24 (by decide) ?_
      refine J_goto E 29 dX6_mayGet_25 (by decide) ?_
      exact J_zret E hr (Bd.z (Bd.lit 1 1 (by decide)) (by decide)) dX6_mayGet_29 ⟨rfl, rfl, ((Bd.lit 1 1 (by decide)).w 0 1 (by decide)), ((kx_X6_mayGet_3 (e6) (e11) (c7) (c12)).symm.trans hK)⟩

def K_X6_ownerIn_2 (G : Gm) (w : Mw) (h0 : Nat) (h_0 : Nat) : Nat → Mv → Int32 → Int32 → Int32
  | 0, _, _, _ => (0 : Int32)
  | n2 + 1, v, x_1, x2 =>
    if (v h0 3) ≤ x2 then ((-1 : Int32)) else (if (v (rf G h_0 1) (Int32.toNatClampNeg x2)) = x_1 then (x2) else ((K_X6_ownerIn_2 G w h0 h_0 n2) v x_1 (x2 + (1 : Int32))))
def K_X6_ownerIn_e (G : Gm) (w : Mw) (v : Mv) (h0 : Nat) (h_0 : Nat) (x_1 : Int32) : Int32 :=
  K_X6_ownerIn_2 G w h0 h_0 8 v x_1 (0 : Int32)
def F_X6_ownerIn (G : Gm) (w : Mw) (v : Mv) (h0 : Nat) (h_0 : Nat) (x_1 : Int32) : Int32 := K_X6_ownerIn_e G w v h0 h_0 x_1
set_option maxRecDepth 100000 in
theorem kx_X6_ownerIn_1 {G : Gm} {w : Mw} {h0 : Nat} {h_0 : Nat} {n2 : Nat} {v : Mv} {x_1 : Int32} {x2 : Int32} {x4 : Int32} (a0 : x4 = v h0 3) (k0 : x4 ≤ x2) : K_X6_ownerIn_2 G w h0 h_0 (n2 + 1) v x_1 x2 = (-1 : Int32) := by
  subst a0; first | rw [K_X6_ownerIn_2, if_pos k0] | simp only [K_X6_ownerIn_2, if_pos k0]
set_option maxRecDepth 100000 in
theorem kx_X6_ownerIn_2 {G : Gm} {w : Mw} {h0 : Nat} {h_0 : Nat} {n2 : Nat} {v : Mv} {x_1 : Int32} {x2 : Int32} {x13 : Int32} {x4 : Int32} {x10 : Int32} (a0 : x4 = v h0 3) (a1 : x10 = v (rf G h_0 1) (Int32.toNatClampNeg x2)) (a2 : x13 = x2 + (1 : Int32)) (k0 : ¬ (x4 ≤ x2)) (k1 : ¬ (x10 = x_1)) : K_X6_ownerIn_2 G w h0 h_0 (n2 + 1) v x_1 x2 = (K_X6_ownerIn_2 G w h0 h_0 n2) v x_1 x13 := by
  subst a2; subst a1; subst a0; first | rw [K_X6_ownerIn_2, if_neg k0, if_neg k1] | simp only [K_X6_ownerIn_2, if_neg k0, if_neg k1]
set_option maxRecDepth 100000 in
theorem kx_X6_ownerIn_3 {G : Gm} {w : Mw} {h0 : Nat} {h_0 : Nat} {n2 : Nat} {v : Mv} {x_1 : Int32} {x2 : Int32} {x4 : Int32} {x10 : Int32} (a0 : x4 = v h0 3) (a1 : x10 = v (rf G h_0 1) (Int32.toNatClampNeg x2)) (k0 : ¬ (x4 ≤ x2)) (k1 : x10 = x_1) : K_X6_ownerIn_2 G w h0 h_0 (n2 + 1) v x_1 x2 = x2 := by
  subst a1; subst a0; first | rw [K_X6_ownerIn_2, if_neg k0, if_pos k1] | simp only [K_X6_ownerIn_2, if_neg k0, if_pos k1]
set_option maxRecDepth 100000 in
theorem kx_X6_ownerIn_4 {G : Gm} {w : Mw} {v : Mv} {h0 : Nat} {h_0 : Nat} {x_1 : Int32}   : K_X6_ownerIn_e G w v h0 h_0 x_1 = K_X6_ownerIn_2 G w h0 h_0 8 v x_1 (0 : Int32) := by
  first | rw [K_X6_ownerIn_e] | simp only [K_X6_ownerIn_e]
abbrev rm_X6_ownerIn : Room := { frames := 0, cells := 0, slots := 0, locals := 0 }
set_option maxHeartbeats 4000000 in
set_option maxRecDepth 100000 in
theorem ct_X6_ownerIn (l : Launch) (D : va_G) (dA : Nat → ClassId) (G : Gm) (v : Mv) (w : Mw) (hOk : Ok G v w) (h0 : Nat) (S0 : S_X6 G h0) (h_0 : Nat) (S_0 : S_X2 G h_0) (x_1 : Int32) (bx_1 : Bd x_1 0 6) : CtI l yX6_ownerIn cX6_ownerIn 4 (some .int) rm_X6_ownerIn D dA G [.ref h0, .ref h_0, .int x_1] v w (fun r v1 w1 => v1 = v ∧ w1 = w ∧ Bd r (-1) 6 ∧ r = F_X6_ownerIn G w v h0 h_0 x_1) := by
  refine CtI.of RX6 [(0, .ref h0), (1, .ref h_0), (2, .int x_1)] (Nat.le_of_ble_eq_true rfl) rfl (by decide) rfl ?_
  intro p e s m args below meth c E hr
  have J2 : ∀ n2 : Nat, Bd x_1 0 6 → ∀ x2 : Int32, Bd x2 0 7 → Mu x2 7 n2 → K_X6_ownerIn_2 G w h0 h_0 n2 v x_1 x2 = F_X6_ownerIn G w v h0 h_0 x_1 → J p l e rm_X6_ownerIn s m args below meth c 0 0 (MQ below (QcI D dA G (fun r v1 w1 => v1 = v ∧ w1 = w ∧ Bd r (-1) 6 ∧ r = F_X6_ownerIn G w v h0 h_0 x_1)) args s 0 0 (dm G)) D dA G (dm G) s.heap 4 v w [(0, .ref h0), (1, .ref h_0), (2, .int x_1), (3, .int x2)] 2 [] := by
    intro n2
    induction n2 with
    | zero => intro b1 x2 b3 hm hK; exact hm.zero b3 (by decide)
    | succ n2 ih2 =>
      intro b1 x2 b3 hmu2 hK
      refine J_iload_n E dX6_ownerIn_2 3 rfl ?_
      refine J_aload_n E dX6_ownerIn_3 0 rfl ?_
      refine J_getI E in_X6 rfl (S_X6.h S0) 3 (by decide) wd201 rfl dX6_ownerIn_4 (fun x4 e5 => ?_)
      have b6 : Bd x4 0 7 := Ok.fd hOk e5 (S_X6.h S0) rfl
      refine J_icmp_ge E 28 dX6_ownerIn_7 (by decide) (fun c7 => ?_) (fun c7 => ?_)
      · refine J_iconst E (-1) dX6_ownerIn_28 (by decide) ?_
        exact J_iret E hr dX6_ownerIn_29 ⟨rfl, rfl, ((Bd.lit (-1) (-1) (by decide)).w (-1) 6 (by decide)), ((kx_X6_ownerIn_1 (e5) (c7)).symm.trans hK)⟩
      · have b8 : Bd x2 0 6 := Bd.lt_l (nle c7) b3 b6 6 (by decide)
        have b9 : Bd x4 1 7 := Bd.lt_r (nle c7) b3 b6 1 (by decide)
        refine J_aload_n E dX6_ownerIn_10 1 rfl ?_
        refine J_getRN E in_X2 rfl (S_X2.h S_0) 1 (by decide) wd153 rfl dX6_ownerIn_11 ?_
        refine J_iload_n E dX6_ownerIn_14 3 rfl ?_
        refine J_iald1 E (S_X2.f1 S_0) (Bd.in b8 (by decide)) dX6_ownerIn_15 (fun x10 e11 => ?_)
        refine J_iload_n E dX6_ownerIn_16 2 rfl ?_
        refine J_icmp_ne E 22 dX6_ownerIn_17 (by decide) (fun c12 => ?_) (fun c12 => ?_)
        · refine J_iinc E 3 1 (fun z => [(3, .int z), (0, .ref h0), (1, .ref h_0), (2, .int x_1)]) dX6_ownerIn_22 rfl (by decide) (by decide) (fun _ => rfl) (fun x13 e14 => ?_)
          have b15 : Bd x13 1 7 := (Bd.add e14 b8 (Bd.lit 1 1 (by decide)) (by decide)).w _ _ (by decide)
          refine J_goto E 2 dX6_ownerIn_25 (by decide) ?_
          exact J.sub [1, 2, 3, 0] rfl (ih2 b1 x13 (b15.w 0 7 (by decide)) (Mu.step hmu2 e14 b8 (Bd.lit 1 1 (by decide)) (by decide)) ((kx_X6_ownerIn_2 (e5) (e11) (e14) (c7) (c12)).symm.trans hK))
        · have b16 : Bd x10 0 6 := Bd.eq_l c12 (Bd.any x10) b1 0 6 (by decide)
          refine J_iload_n E dX6_ownerIn_20 3 rfl ?_
          exact J_iret E hr dX6_ownerIn_21 ⟨rfl, rfl, (b8.w (-1) 6 (by decide)), ((kx_X6_ownerIn_3 (e5) (e11) (c7) (c12)).symm.trans hK)⟩
  have hK : K_X6_ownerIn_e G w v h0 h_0 x_1 = F_X6_ownerIn G w v h0 h_0 x_1 := rfl
  refine J_iconst E 0 dX6_ownerIn_0 (by decide) ?_
  refine J_istore_n E [(3, .int 0), (0, .ref h0), (1, .ref h_0), (2, .int x_1)] dX6_ownerIn_1 rfl (by decide) rfl ?_
  exact J.sub [1, 2, 3, 0] rfl (J2 8 bx_1 0 ((Bd.lit 0 0 (by decide)).w 0 7 (by decide)) (Mu.start _ (Bd.lit 0 0 (by decide)) (by decide)) ((kx_X6_ownerIn_4).symm.trans hK))

def K_X6_ownerOf_e (G : Gm) (w : Mw) (v : Mv) (h0 : Nat) (x_0 : Int32) : Int32 :=
  (F_X6_ownerIn G w v h0 (rf G h0 6) x_0)
def F_X6_ownerOf (G : Gm) (w : Mw) (v : Mv) (h0 : Nat) (x_0 : Int32) : Int32 := K_X6_ownerOf_e G w v h0 x_0
set_option maxRecDepth 100000 in
theorem kx_X6_ownerOf_1 {G : Gm} {w : Mw} {v : Mv} {h0 : Nat} {x_0 : Int32} {x4 : Int32} (a0 : x4 = F_X6_ownerIn G w v h0 (rf G h0 6) x_0)  : K_X6_ownerOf_e G w v h0 x_0 = x4 := by
  subst a0; first | rw [K_X6_ownerOf_e] | simp only [K_X6_ownerOf_e]
abbrev rm_X6_ownerOf : Room := { frames := 1, cells := 0, slots := 0, locals := 23 }
set_option maxHeartbeats 4000000 in
set_option maxRecDepth 100000 in
theorem ct_X6_ownerOf (l : Launch) (D : va_G) (dA : Nat → ClassId) (G : Gm) (v : Mv) (w : Mw) (hOk : Ok G v w) (h0 : Nat) (S0 : S_X6 G h0) (x_0 : Int32) (bx_0 : Bd x_0 0 6) : CtI l yX6_ownerOf cX6_ownerOf 2 (some .int) rm_X6_ownerOf D dA G [.ref h0, .int x_0] v w (fun r v1 w1 => v1 = v ∧ w1 = w ∧ True ∧ r = F_X6_ownerOf G w v h0 x_0) := by
  refine CtI.of RX6 [(0, .ref h0), (1, .int x_0)] (Nat.le_of_ble_eq_true rfl) rfl (by decide) rfl ?_
  intro p e s m args below meth c E hr
  have hK : K_X6_ownerOf_e G w v h0 x_0 = F_X6_ownerOf G w v h0 x_0 := rfl
  refine J_aload_n E dX6_ownerOf_0 0 rfl ?_
  refine J_aload_n E dX6_ownerOf_1 0 rfl ?_
  refine J_getR E in_X6 rfl (S_X6.h S0) 6 (by decide) wd207 rfl dX6_ownerOf_2 ?_
  refine J_iload_n E dX6_ownerOf_5 1 rfl ?_
  refine J_callVI E cal_X6_ownerIn wd504 rfl (S_X6.h S0) [.ref (rf G h0 6), .int x_0] [] (ct_X6_ownerIn l D dA G v w (hOk) h0 S0 (rf G h0 6) (S_X6.f6 S0) x_0 bx_0) rfl rfl (Nat.le_of_ble_eq_true rfl) ⟨rfl, rfl⟩ ⟨Nat.le_of_ble_eq_true rfl, Nat.le_of_ble_eq_true rfl⟩ dX6_ownerOf_6 (fun x4 v1 w2 p3 => ?_)
  rw [p3.1, p3.2.1]
  have b5 : Bd x4 (-1) 6 := p3.2.2.1
  have e6 : x4 = F_X6_ownerIn G w v h0 (rf G h0 6) x_0 := (p3.2.2.2)
  exact J_iret E hr dX6_ownerOf_9 ⟨rfl, rfl, trivial, ((kx_X6_ownerOf_1 (e6)).symm.trans hK)⟩

def K_X3_takeOwn_c2 (G : Gm) (w : Mw) (h0 : Nat) (v44 : Mv) (x20 : Int32) (x47 : Int32) : Int32 × Mv :=
  if x47 = (0 : Int32) then (((0 : Int32), v44)) else (if (F_X6_ownerOf G w v44 (rf G h0 6) (v44 h0 5)) = (-1 : Int32) then (((1 : Int32), (stv v44 (rf G (rf G (rf G h0 6) 6) 1) (Int32.toNatClampNeg x20) (v44 h0 5)))) else (((0 : Int32), v44)))
def K_X3_takeOwn_c1 (G : Gm) (w : Mw) (h0 : Nat) (v7 : Mv) (x10 : Int32) : Int32 × Mv :=
  if x10 = (0 : Int32) then (((0 : Int32), v7)) else (if (F_X6_mayGet G w v7 (rf G h0 6) (v7 h0 5)) = (0 : Int32) then (((0 : Int32), v7)) else (K_X3_takeOwn_c2 G w h0 ((F_X3_takeNumber G w v7 h0 (0 : Int32) ((v7 (rf G h0 6) 0) - (1 : Int32))).2) (v7 h0 5) ((F_X3_takeNumber G w v7 h0 (0 : Int32) ((v7 (rf G h0 6) 0) - (1 : Int32))).1)))
def K_X3_takeOwn_e (G : Gm) (w : Mw) (v : Mv) (h0 : Nat) : Int32 × Mv :=
  K_X3_takeOwn_c1 G w h0 ((F_X3_takeNumber G w v h0 (0 : Int32) ((v (rf G h0 6) 3) - (1 : Int32))).2) ((F_X3_takeNumber G w v h0 (0 : Int32) ((v (rf G h0 6) 3) - (1 : Int32))).1)
def F_X3_takeOwn (G : Gm) (w : Mw) (v : Mv) (h0 : Nat) : Int32 × Mv := K_X3_takeOwn_e G w v h0
set_option maxRecDepth 100000 in
theorem kx_X3_takeOwn_1 {G : Gm} {w : Mw} {v : Mv} {h0 : Nat} {v7 : Mv} {x10 : Int32} {x1 : Int32} {x4 : Int32} (a0 : x1 = v (rf G h0 6) 3) (a1 : x4 = x1 - (1 : Int32)) (a2 : x10 = (F_X3_takeNumber G w v h0 (0 : Int32) x4).1) (a3 : v7 = (F_X3_takeNumber G w v h0 (0 : Int32) x4).2)  : K_X3_takeOwn_e G w v h0 = K_X3_takeOwn_c1 G w h0 v7 x10 := by
  subst a3; subst a2; subst a1; subst a0; first | rw [K_X3_takeOwn_e] | simp only [K_X3_takeOwn_e]
set_option maxRecDepth 100000 in
theorem kx_X3_takeOwn_2 {G : Gm} {w : Mw} {h0 : Nat} {v7 : Mv} {x10 : Int32}  (k0 : x10 = (0 : Int32)) : K_X3_takeOwn_c1 G w h0 v7 x10 = ((0 : Int32), v7) := by
  first | rw [K_X3_takeOwn_c1, if_pos k0] | simp only [K_X3_takeOwn_c1, if_pos k0]
set_option maxRecDepth 100000 in
theorem kx_X3_takeOwn_3 {G : Gm} {w : Mw} {h0 : Nat} {v7 : Mv} {x10 : Int32} {v44 : Mv} {x20 : Int32} {x47 : Int32} {x38 : Int32} {x41 : Int32} {x31 : Int32} (a0 : x20 = v7 h0 5) (a1 : x31 = F_X6_mayGet G w v7 (rf G h0 6) x20) (a2 : x38 = v7 (rf G h0 6) 0) (a3 : x41 = x38 - (1 : Int32)) (a4 : x47 = (F_X3_takeNumber G w v7 h0 (0 : Int32) x41).1) (a5 : v44 = (F_X3_takeNumber G w v7 h0 (0 : Int32) x41).2) (k0 : ¬ (x10 = (0 : Int32))) (k1 : ¬ (x31 = (0 : Int32))) : K_X3_takeOwn_c1 G w h0 v7 x10 = K_X3_takeOwn_c2 G w h0 v44 x20 x47 := by
  subst a5; subst a4; subst a3; subst a2; subst a1; subst a0; first | rw [K_X3_takeOwn_c1, if_neg k0, if_neg k1] | simp only [K_X3_takeOwn_c1, if_neg k0, if_neg k1]
set_option maxRecDepth 100000 in
theorem kx_X3_takeOwn_4 {G : Gm} {w : Mw} {h0 : Nat} {v44 : Mv} {x20 : Int32} {x47 : Int32}  (k0 : x47 = (0 : Int32)) : K_X3_takeOwn_c2 G w h0 v44 x20 x47 = ((0 : Int32), v44) := by
  first | rw [K_X3_takeOwn_c2, if_pos k0] | simp only [K_X3_takeOwn_c2, if_pos k0]
set_option maxRecDepth 100000 in
theorem kx_X3_takeOwn_5 {G : Gm} {w : Mw} {h0 : Nat} {v44 : Mv} {x20 : Int32} {x47 : Int32} {v74 : Mv} {x57 : Int32} {x68 : Int32} (a0 : x57 = v44 h0 5) (a1 : x68 = F_X6_ownerOf G w v44 (rf G h0 6) x57) (a2 : v74 = stv v44 (rf G (rf G (rf G h0 6) 6) 1) (Int32.toNatClampNeg x20) x57) (k0 : ¬ (x47 = (0 : Int32))) (k1 : x68 = (-1 : Int32)) : K_X3_takeOwn_c2 G w h0 v44 x20 x47 = ((1 : Int32), v74) := by
  subst a2; subst a1; subst a0; first | rw [K_X3_takeOwn_c2, if_neg k0, if_pos k1] | simp only [K_X3_takeOwn_c2, if_neg k0, if_pos k1]
set_option maxRecDepth 100000 in
theorem kx_X3_takeOwn_6 {G : Gm} {w : Mw} {h0 : Nat} {v44 : Mv} {x20 : Int32} {x47 : Int32} {x57 : Int32} {x68 : Int32} (a0 : x57 = v44 h0 5) (a1 : x68 = F_X6_ownerOf G w v44 (rf G h0 6) x57) (k0 : ¬ (x47 = (0 : Int32))) (k1 : ¬ (x68 = (-1 : Int32))) : K_X3_takeOwn_c2 G w h0 v44 x20 x47 = ((0 : Int32), v44) := by
  subst a1; subst a0; first | rw [K_X3_takeOwn_c2, if_neg k0, if_neg k1] | simp only [K_X3_takeOwn_c2, if_neg k0, if_neg k1]
set_option maxRecDepth 100000 in
theorem kx_X3_takeOwn_7 {G : Gm} {w : Mw} {h0 : Nat} {v7 : Mv} {x10 : Int32} {x20 : Int32} {x31 : Int32} (a0 : x20 = v7 h0 5) (a1 : x31 = F_X6_mayGet G w v7 (rf G h0 6) x20) (k0 : ¬ (x10 = (0 : Int32))) (k1 : x31 = (0 : Int32)) : K_X3_takeOwn_c1 G w h0 v7 x10 = ((0 : Int32), v7) := by
  subst a1; subst a0; first | rw [K_X3_takeOwn_c1, if_neg k0, if_pos k1] | simp only [K_X3_takeOwn_c1, if_neg k0, if_pos k1]
abbrev rm_X3_takeOwn : Room := { frames := 4, cells := 0, slots := 0, locals := 86 }
set_option maxHeartbeats 4000000 in
set_option maxRecDepth 100000 in
theorem ct_X3_takeOwn (l : Launch) (D : va_G) (dA : Nat → ClassId) (G : Gm) (v : Mv) (w : Mw) (hOk : Ok G v w) (h0 : Nat) (S0 : S_X3 G h0) : CtI l yX3_takeOwn cX3_takeOwn 2 (some .boolean) rm_X3_takeOwn D dA G [.ref h0] v w (fun r v1 w1 => Ok G v1 w1 ∧ Kp G v v1 ∧ Bd r 0 1 ∧ (w1 = w ∧ (r, v1) = F_X3_takeOwn G w v h0) ∧ Fr G [3, 107] v v1) := by
  refine CtI.of RX3 [(0, .ref h0)] (Nat.le_of_ble_eq_true rfl) rfl (by decide) rfl ?_
  intro p e s m args below meth c E hr
  have hK : K_X3_takeOwn_e G w v h0 = F_X3_takeOwn G w v h0 := rfl
  refine J_aload_n E dX3_takeOwn_0 0 rfl ?_
  refine J_iconst E 0 dX3_takeOwn_1 (by decide) ?_
  refine J_aload_n E dX3_takeOwn_2 0 rfl ?_
  refine J_getR E in_X3 rfl (S_X3.h S0) 6 (by decide) wd259 rfl dX3_takeOwn_3 ?_
  refine J_getIN E in_X6 rfl (S_X6.h (S_X3.f6 S0)) 3 (by decide) wd202 rfl dX3_takeOwn_6 (fun x1 e2 => ?_)
  have b3 : Bd x1 0 7 := Ok.fd hOk e2 (S_X6.h (S_X3.f6 S0)) rfl
  refine J_iconst E 1 dX3_takeOwn_9 (by decide) ?_
  refine J_isub E dX3_takeOwn_10 (fun x4 e5 => ?_)
  have b6 : Bd x4 (-1) 6 := (Bd.sub e5 b3 (Bd.lit 1 1 (by decide)) (by decide)).w _ _ (by decide)
  refine J_callVI E cal_X3_takeNumber wd476 rfl (S_X3.h S0) [.int 0, .int x4] [] (ct_X3_takeNumber l D dA G v w (hOk) h0 S0 0 x4) rfl rfl (Nat.le_of_ble_eq_true rfl) ⟨rfl, rfl⟩ ⟨Nat.le_of_ble_eq_true rfl, Nat.le_of_ble_eq_true rfl⟩ dX3_takeOwn_11 (fun x10 v7 w8 p9 => ?_)
  have ew9 : w = w8 := p9.2.2.2.2.1.1.symm
  subst ew9
  have o11 := p9.1
  have k12 : Kp G v v7 := (Kp.rf).tr p9.2.1
  have f13 : Fr G [3, 107] v v7 := Fr.tr Fr.rf (p9.2.2.2.2.2) (by decide)
  have b14 : Bd x10 0 1 := p9.2.2.1
  have e15 : x10 = (F_X3_takeNumber G w v h0 (0 : Int32) x4).1 := congrArg Prod.fst (p9.2.2.2.2.1).2
  have e16 : v7 = (F_X3_takeNumber G w v h0 (0 : Int32) x4).2 := congrArg Prod.snd (p9.2.2.2.2.1).2
  have hK : K_X3_takeOwn_c1 G w h0 v7 x10 = F_X3_takeOwn G w v h0 := ((kx_X3_takeOwn_1 (e2) (e5) (e15) (e16)).symm.trans hK)
  refine J_if_eq E 31 dX3_takeOwn_14 (by decide) (fun c17 => ?_) (fun c17 => ?_)
  · have b18 : Bd x10 0 0 := Bd.eq_l c17 b14 (Bd.lit 0 0 (by decide)) 0 0 (by decide)
    refine J_iconst E 0 dX3_takeOwn_31 (by decide) ?_
    exact J_zret E hr (Bd.z (Bd.lit 0 0 (by decide)) (by decide)) dX3_takeOwn_32 ⟨o11, k12, ((Bd.lit 0 0 (by decide)).w 0 1 (by decide)), ⟨⟨rfl, ((kx_X3_takeOwn_2 (c17)).symm.trans hK)⟩, f13⟩⟩
  · have b19 : Bd x10 1 1 := (Bd.ne_lo c17 b14 (Bd.lit 0 0 (by decide))).w _ _ (by decide)
    obtain ⟨x20, e21⟩ : ∃ z : Int32, z = v7 h0 5 := ⟨_, rfl⟩
    have g22 : 0 ≤ x20 ∧ x20 ≤ x4 := by rw [e21]; exact (p9.2.2.2.1).resolve_left c17
    have b23 : Bd x20 0 I1 := Bd.le_r g22.1 (Bd.lit 0 0 (by decide)) (Bd.any x20) 0 (by decide)
    have b24 : Bd x20 0 6 := Bd.le_l g22.2 b23 b6 6 (by decide)
    have b25 : Bd x4 0 6 := Bd.le_r g22.2 b23 b6 0 (by decide)
    refine J_aload_n E dX3_takeOwn_17 0 rfl ?_
    refine J_getR E in_X3 rfl (S_X3.h S0) 6 (by decide) wd259 rfl dX3_takeOwn_18 ?_
    refine J_aload_n E dX3_takeOwn_21 0 rfl ?_
    refine J_getI E in_X3 rfl (S_X3.h S0) 5 (by decide) wd258 rfl dX3_takeOwn_22 (fun x26 e27 => ?_)
    rw [show x26 = x20 from e27.trans (e21).symm]
    refine J_callVNI E cal_X6_mayGet wd492 rfl (S_X6.h (S_X3.f6 S0)) [.int x20] [] (ct_X6_mayGet l D dA G v7 w (o11) (rf G h0 6) (S_X3.f6 S0) x20 b24) rfl rfl (Nat.le_of_ble_eq_true rfl) ⟨rfl, rfl⟩ ⟨Nat.le_of_ble_eq_true rfl, Nat.le_of_ble_eq_true rfl⟩ dX3_takeOwn_25 (fun x31 v28 w29 p30 => ?_)
    rw [p30.1, p30.2.1]
    have b32 : Bd x31 0 1 := p30.2.2.1
    have e33 : x31 = F_X6_mayGet G w v7 (rf G h0 6) x20 := (p30.2.2.2)
    refine J_if_ne E 33 dX3_takeOwn_28 (by decide) (fun c34 => ?_) (fun c34 => ?_)
    · have b35 : Bd x31 1 1 := (Bd.ne_lo c34 b32 (Bd.lit 0 0 (by decide))).w _ _ (by decide)
      refine J_aload_n E dX3_takeOwn_33 0 rfl ?_
      refine J_getI E in_X3 rfl (S_X3.h S0) 5 (by decide) wd258 rfl dX3_takeOwn_34 (fun x36 e37 => ?_)
      rw [show x36 = x20 from e37.trans (e21).symm]
      refine J_istore_n E [(1, .int x20), (0, .ref h0)] dX3_takeOwn_37 rfl (by decide) rfl ?_
      refine J_aload_n E dX3_takeOwn_38 1 rfl ?_
      refine J_iconst E 0 dX3_takeOwn_39 (by decide) ?_
      refine J_aload_n E dX3_takeOwn_40 1 rfl ?_
      refine J_getR E in_X3 rfl (S_X3.h S0) 6 (by decide) wd259 rfl dX3_takeOwn_41 ?_
      refine J_getIN E in_X6 rfl (S_X6.h (S_X3.f6 S0)) 0 (by decide) wd194 rfl dX3_takeOwn_44 (fun x38 e39 => ?_)
      have b40 : Bd x38 0 7 := Ok.fd o11 e39 (S_X6.h (S_X3.f6 S0)) rfl
      refine J_iconst E 1 dX3_takeOwn_47 (by decide) ?_
      refine J_isub E dX3_takeOwn_48 (fun x41 e42 => ?_)
      have b43 : Bd x41 (-1) 6 := (Bd.sub e42 b40 (Bd.lit 1 1 (by decide)) (by decide)).w _ _ (by decide)
      refine J_callVI E cal_X3_takeNumber wd476 rfl (S_X3.h S0) [.int 0, .int x41] [] (ct_X3_takeNumber l D dA G v7 w (o11) h0 S0 0 x41) rfl rfl (Nat.le_of_ble_eq_true rfl) ⟨rfl, rfl⟩ ⟨Nat.le_of_ble_eq_true rfl, Nat.le_of_ble_eq_true rfl⟩ dX3_takeOwn_49 (fun x47 v44 w45 p46 => ?_)
      have ew9 : w = w45 := p46.2.2.2.2.1.1.symm
      subst ew9
      have o48 := p46.1
      have k49 : Kp G v v44 := (k12).tr p46.2.1
      have f50 : Fr G [3, 107] v v44 := Fr.tr f13 (p46.2.2.2.2.2) (by decide)
      have b51 : Bd x47 0 1 := p46.2.2.1
      have e52 : x47 = (F_X3_takeNumber G w v7 h0 (0 : Int32) x41).1 := congrArg Prod.fst (p46.2.2.2.2.1).2
      have e53 : v44 = (F_X3_takeNumber G w v7 h0 (0 : Int32) x41).2 := congrArg Prod.snd (p46.2.2.2.2.1).2
      have hK : K_X3_takeOwn_c2 G w h0 v44 x20 x47 = F_X3_takeOwn G w v h0 := ((kx_X3_takeOwn_3 (e21) (e33) (e39) (e42) (e52) (e53) (c17) (c34)).symm.trans hK)
      refine J_if_eq E 70 dX3_takeOwn_52 (by decide) (fun c54 => ?_) (fun c54 => ?_)
      · have b55 : Bd x47 0 0 := Bd.eq_l c54 b51 (Bd.lit 0 0 (by decide)) 0 0 (by decide)
        refine J_iconst E 0 dX3_takeOwn_70 (by decide) ?_
        exact J_zret E hr (Bd.z (Bd.lit 0 0 (by decide)) (by decide)) dX3_takeOwn_71 ⟨o48, k49, ((Bd.lit 0 0 (by decide)).w 0 1 (by decide)), ⟨⟨rfl, ((kx_X3_takeOwn_4 (c54)).symm.trans hK)⟩, f50⟩⟩
      · have b56 : Bd x47 1 1 := (Bd.ne_lo c54 b51 (Bd.lit 0 0 (by decide))).w _ _ (by decide)
        obtain ⟨x57, e58⟩ : ∃ z : Int32, z = v44 h0 5 := ⟨_, rfl⟩
        have g59 : 0 ≤ x57 ∧ x57 ≤ x41 := by rw [e58]; exact (p46.2.2.2.1).resolve_left c54
        have b60 : Bd x57 0 I1 := Bd.le_r g59.1 (Bd.lit 0 0 (by decide)) (Bd.any x57) 0 (by decide)
        have b61 : Bd x57 0 6 := Bd.le_l g59.2 b60 b43 6 (by decide)
        have b62 : Bd x41 0 6 := Bd.le_r g59.2 b60 b43 0 (by decide)
        refine J_aload_n E dX3_takeOwn_55 1 rfl ?_
        refine J_getR E in_X3 rfl (S_X3.h S0) 6 (by decide) wd259 rfl dX3_takeOwn_56 ?_
        refine J_aload_n E dX3_takeOwn_59 1 rfl ?_
        refine J_getI E in_X3 rfl (S_X3.h S0) 5 (by decide) wd258 rfl dX3_takeOwn_60 (fun x63 e64 => ?_)
        rw [show x63 = x57 from e64.trans (e58).symm]
        refine J_callVNI E cal_X6_ownerOf wd500 rfl (S_X6.h (S_X3.f6 S0)) [.int x57] [] (ct_X6_ownerOf l D dA G v44 w (o48) (rf G h0 6) (S_X3.f6 S0) x57 b61) rfl rfl (Nat.le_of_ble_eq_true rfl) ⟨rfl, rfl⟩ ⟨Nat.le_of_ble_eq_true rfl, Nat.le_of_ble_eq_true rfl⟩ dX3_takeOwn_63 (fun x68 v65 w66 p67 => ?_)
        rw [p67.1, p67.2.1]
        have e69 : x68 = F_X6_ownerOf G w v44 (rf G h0 6) x57 := (p67.2.2.2)
        refine J_iconst E (-1) dX3_takeOwn_66 (by decide) ?_
        refine J_icmp_eq E 72 dX3_takeOwn_67 (by decide) (fun c70 => ?_) (fun c70 => ?_)
        · have b71 : Bd x68 (-1) (-1) := Bd.eq_l c70 (Bd.any x68) (Bd.lit (-1) (-1) (by decide)) (-1) (-1) (by decide)
          refine J_aload_n E dX3_takeOwn_72 1 rfl ?_
          refine J_getR E in_X3 rfl (S_X3.h S0) 6 (by decide) wd259 rfl dX3_takeOwn_73 ?_
          refine J_getRN E in_X6 rfl (S_X6.h (S_X3.f6 S0)) 6 (by decide) wd208 rfl dX3_takeOwn_76 ?_
          refine J_getRN E in_X2 rfl (S_X2.h (S_X6.f6 (S_X3.f6 S0))) 1 (by decide) wd154 rfl dX3_takeOwn_79 ?_
          refine J_iload_n E dX3_takeOwn_82 0 rfl ?_
          refine J_aload_n E dX3_takeOwn_83 1 rfl ?_
          refine J_getI E in_X3 rfl (S_X3.h S0) 5 (by decide) wd258 rfl dX3_takeOwn_84 (fun x72 e73 => ?_)
          rw [show x72 = x57 from e73.trans (e58).symm]
          refine J_iast1 E (S_X2.f1 (S_X6.f6 (S_X3.f6 S0))) (Bd.in b24 (by decide)) dX3_takeOwn_87 (fun v74 e75 => ?_)
          have o76 : Ok G v74 w := by rw [e75]; exact Ok.sv o48 (S_X2.f1 (S_X6.f6 (S_X3.f6 S0))) b24 b61 0 7 (by decide) (by decide +kernel)
          have k77 : Kp G v v74 := by rw [e75]; exact Kp.sv k49 (S_X2.f1 (S_X6.f6 (S_X3.f6 S0))) b24 0 7 0 6 (by decide) (by decide +kernel)
          have f78 : Fr G [3, 107] v v74 := Fr.st f50 e75 (S_X2.f1 (S_X6.f6 (S_X3.f6 S0))) rfl
          have e79 : x1 = v74 (rf G h0 6) 3 := by rw [e75, stv_a (tg_ne (S_X6.h (S_X3.f6 S0)) ((S_X2.f1 (S_X6.f6 (S_X3.f6 S0)))) rfl)]; exact ((((e2).trans (Fr.at (p9.2.2.2.2.2) (S_X6.h (S_X3.f6 S0)) rfl 3).symm)).trans (Fr.at (p46.2.2.2.2.2) (S_X6.h (S_X3.f6 S0)) rfl 3).symm)
          have e80 : x38 = v74 (rf G h0 6) 0 := by rw [e75, stv_a (tg_ne (S_X6.h (S_X3.f6 S0)) ((S_X2.f1 (S_X6.f6 (S_X3.f6 S0)))) rfl)]; exact ((e39).trans (Fr.at (p46.2.2.2.2.2) (S_X6.h (S_X3.f6 S0)) rfl 0).symm)
          have e81 : x57 = v74 h0 5 := by rw [e75, stv_a (tg_ne (S_X3.h S0) ((S_X2.f1 (S_X6.f6 (S_X3.f6 S0)))) rfl)]; exact e58
          refine J_iconst E 1 dX3_takeOwn_88 (by decide) ?_
          exact J_zret E hr (Bd.z (Bd.lit 1 1 (by decide)) (by decide)) dX3_takeOwn_89 ⟨o76, k77, ((Bd.lit 1 1 (by decide)).w 0 1 (by decide)), ⟨⟨rfl, ((kx_X3_takeOwn_5 (e58) (e69) (e75) (c54) (c70)).symm.trans hK)⟩, f78⟩⟩
        · refine J_iconst E 0 dX3_takeOwn_70 (by decide) ?_
          exact J_zret E hr (Bd.z (Bd.lit 0 0 (by decide)) (by decide)) dX3_takeOwn_71 ⟨o48, k49, ((Bd.lit 0 0 (by decide)).w 0 1 (by decide)), ⟨⟨rfl, ((kx_X3_takeOwn_6 (e58) (e69) (c54) (c70)).symm.trans hK)⟩, f50⟩⟩
    · have b82 : Bd x31 0 0 := Bd.eq_l c34 b32 (Bd.lit 0 0 (by decide)) 0 0 (by decide)
      refine J_iconst E 0 dX3_takeOwn_31 (by decide) ?_
      exact J_zret E hr (Bd.z (Bd.lit 0 0 (by decide)) (by decide)) dX3_takeOwn_32 ⟨o11, k12, ((Bd.lit 0 0 (by decide)).w 0 1 (by decide)), ⟨⟨rfl, ((kx_X3_takeOwn_7 (e21) (e33) (c17) (c34)).symm.trans hK)⟩, f13⟩⟩

def K_X3_takeLeave_c1 (G : Gm) (w : Mw) (h0 : Nat) (v7 : Mv) (x10 : Int32) : Int32 × Mv :=
  if x10 = (0 : Int32) then (((0 : Int32), v7)) else (if (v7 (rf G (rf G (rf G h0 6) 6) 1) (Int32.toNatClampNeg (v7 h0 5))) = (-1 : Int32) then (((0 : Int32), v7)) else (((1 : Int32), (stv v7 (rf G (rf G (rf G h0 6) 6) 1) (Int32.toNatClampNeg (v7 h0 5)) (-1 : Int32)))))
def K_X3_takeLeave_e (G : Gm) (w : Mw) (v : Mv) (h0 : Nat) : Int32 × Mv :=
  K_X3_takeLeave_c1 G w h0 ((F_X3_takeNumber G w v h0 (0 : Int32) ((v (rf G h0 6) 3) - (1 : Int32))).2) ((F_X3_takeNumber G w v h0 (0 : Int32) ((v (rf G h0 6) 3) - (1 : Int32))).1)
def F_X3_takeLeave (G : Gm) (w : Mw) (v : Mv) (h0 : Nat) : Int32 × Mv := K_X3_takeLeave_e G w v h0
set_option maxRecDepth 100000 in
theorem kx_X3_takeLeave_1 {G : Gm} {w : Mw} {v : Mv} {h0 : Nat} {v7 : Mv} {x10 : Int32} {x1 : Int32} {x4 : Int32} (a0 : x1 = v (rf G h0 6) 3) (a1 : x4 = x1 - (1 : Int32)) (a2 : x10 = (F_X3_takeNumber G w v h0 (0 : Int32) x4).1) (a3 : v7 = (F_X3_takeNumber G w v h0 (0 : Int32) x4).2)  : K_X3_takeLeave_e G w v h0 = K_X3_takeLeave_c1 G w h0 v7 x10 := by
  subst a3; subst a2; subst a1; subst a0; first | rw [K_X3_takeLeave_e] | simp only [K_X3_takeLeave_e]
set_option maxRecDepth 100000 in
theorem kx_X3_takeLeave_2 {G : Gm} {w : Mw} {h0 : Nat} {v7 : Mv} {x10 : Int32}  (k0 : x10 = (0 : Int32)) : K_X3_takeLeave_c1 G w h0 v7 x10 = ((0 : Int32), v7) := by
  first | rw [K_X3_takeLeave_c1, if_pos k0] | simp only [K_X3_takeLeave_c1, if_pos k0]
set_option maxRecDepth 100000 in
theorem kx_X3_takeLeave_3 {G : Gm} {w : Mw} {h0 : Nat} {v7 : Mv} {x10 : Int32} {v33 : Mv} {x20 : Int32} {x28 : Int32} (a0 : x20 = v7 h0 5) (a1 : x28 = v7 (rf G (rf G (rf G h0 6) 6) 1) (Int32.toNatClampNeg x20)) (a2 : v33 = stv v7 (rf G (rf G (rf G h0 6) 6) 1) (Int32.toNatClampNeg x20) (-1 : Int32)) (k0 : ¬ (x10 = (0 : Int32))) (k1 : ¬ (x28 = (-1 : Int32))) : K_X3_takeLeave_c1 G w h0 v7 x10 = ((1 : Int32), v33) := by
  subst a2; subst a1; subst a0; first | rw [K_X3_takeLeave_c1, if_neg k0, if_neg k1] | simp only [K_X3_takeLeave_c1, if_neg k0, if_neg k1]
set_option maxRecDepth 100000 in
theorem kx_X3_takeLeave_4 {G : Gm} {w : Mw} {h0 : Nat} {v7 : Mv} {x10 : Int32} {x20 : Int32} {x28 : Int32} (a0 : x20 = v7 h0 5) (a1 : x28 = v7 (rf G (rf G (rf G h0 6) 6) 1) (Int32.toNatClampNeg x20)) (k0 : ¬ (x10 = (0 : Int32))) (k1 : x28 = (-1 : Int32)) : K_X3_takeLeave_c1 G w h0 v7 x10 = ((0 : Int32), v7) := by
  subst a1; subst a0; first | rw [K_X3_takeLeave_c1, if_neg k0, if_pos k1] | simp only [K_X3_takeLeave_c1, if_neg k0, if_pos k1]
abbrev rm_X3_takeLeave : Room := { frames := 4, cells := 0, slots := 0, locals := 86 }
set_option maxHeartbeats 4000000 in
set_option maxRecDepth 100000 in
theorem ct_X3_takeLeave (l : Launch) (D : va_G) (dA : Nat → ClassId) (G : Gm) (v : Mv) (w : Mw) (hOk : Ok G v w) (h0 : Nat) (S0 : S_X3 G h0) : CtI l yX3_takeLeave cX3_takeLeave 1 (some .boolean) rm_X3_takeLeave D dA G [.ref h0] v w (fun r v1 w1 => Ok G v1 w1 ∧ Kp G v v1 ∧ Bd r 0 1 ∧ (w1 = w ∧ (r, v1) = F_X3_takeLeave G w v h0) ∧ Fr G [3, 107] v v1) := by
  refine CtI.of RX3 [(0, .ref h0)] (Nat.le_of_ble_eq_true rfl) rfl (by decide) rfl ?_
  intro p e s m args below meth c E hr
  have hK : K_X3_takeLeave_e G w v h0 = F_X3_takeLeave G w v h0 := rfl
  refine J_aload_n E dX3_takeLeave_0 0 rfl ?_
  refine J_iconst E 0 dX3_takeLeave_1 (by decide) ?_
  refine J_aload_n E dX3_takeLeave_2 0 rfl ?_
  refine J_getR E in_X3 rfl (S_X3.h S0) 6 (by decide) wd259 rfl dX3_takeLeave_3 ?_
  refine J_getIN E in_X6 rfl (S_X6.h (S_X3.f6 S0)) 3 (by decide) wd202 rfl dX3_takeLeave_6 (fun x1 e2 => ?_)
  have b3 : Bd x1 0 7 := Ok.fd hOk e2 (S_X6.h (S_X3.f6 S0)) rfl
  refine J_iconst E 1 dX3_takeLeave_9 (by decide) ?_
  refine J_isub E dX3_takeLeave_10 (fun x4 e5 => ?_)
  have b6 : Bd x4 (-1) 6 := (Bd.sub e5 b3 (Bd.lit 1 1 (by decide)) (by decide)).w _ _ (by decide)
  refine J_callVI E cal_X3_takeNumber wd476 rfl (S_X3.h S0) [.int 0, .int x4] [] (ct_X3_takeNumber l D dA G v w (hOk) h0 S0 0 x4) rfl rfl (Nat.le_of_ble_eq_true rfl) ⟨rfl, rfl⟩ ⟨Nat.le_of_ble_eq_true rfl, Nat.le_of_ble_eq_true rfl⟩ dX3_takeLeave_11 (fun x10 v7 w8 p9 => ?_)
  have ew9 : w = w8 := p9.2.2.2.2.1.1.symm
  subst ew9
  have o11 := p9.1
  have k12 : Kp G v v7 := (Kp.rf).tr p9.2.1
  have f13 : Fr G [3, 107] v v7 := Fr.tr Fr.rf (p9.2.2.2.2.2) (by decide)
  have b14 : Bd x10 0 1 := p9.2.2.1
  have e15 : x10 = (F_X3_takeNumber G w v h0 (0 : Int32) x4).1 := congrArg Prod.fst (p9.2.2.2.2.1).2
  have e16 : v7 = (F_X3_takeNumber G w v h0 (0 : Int32) x4).2 := congrArg Prod.snd (p9.2.2.2.2.1).2
  have hK : K_X3_takeLeave_c1 G w h0 v7 x10 = F_X3_takeLeave G w v h0 := ((kx_X3_takeLeave_1 (e2) (e5) (e15) (e16)).symm.trans hK)
  refine J_if_eq E 36 dX3_takeLeave_14 (by decide) (fun c17 => ?_) (fun c17 => ?_)
  · have b18 : Bd x10 0 0 := Bd.eq_l c17 b14 (Bd.lit 0 0 (by decide)) 0 0 (by decide)
    refine J_iconst E 0 dX3_takeLeave_36 (by decide) ?_
    exact J_zret E hr (Bd.z (Bd.lit 0 0 (by decide)) (by decide)) dX3_takeLeave_37 ⟨o11, k12, ((Bd.lit 0 0 (by decide)).w 0 1 (by decide)), ⟨⟨rfl, ((kx_X3_takeLeave_2 (c17)).symm.trans hK)⟩, f13⟩⟩
  · have b19 : Bd x10 1 1 := (Bd.ne_lo c17 b14 (Bd.lit 0 0 (by decide))).w _ _ (by decide)
    obtain ⟨x20, e21⟩ : ∃ z : Int32, z = v7 h0 5 := ⟨_, rfl⟩
    have g22 : 0 ≤ x20 ∧ x20 ≤ x4 := by rw [e21]; exact (p9.2.2.2.1).resolve_left c17
    have b23 : Bd x20 0 I1 := Bd.le_r g22.1 (Bd.lit 0 0 (by decide)) (Bd.any x20) 0 (by decide)
    have b24 : Bd x20 0 6 := Bd.le_l g22.2 b23 b6 6 (by decide)
    have b25 : Bd x4 0 6 := Bd.le_r g22.2 b23 b6 0 (by decide)
    refine J_aload_n E dX3_takeLeave_17 0 rfl ?_
    refine J_getR E in_X3 rfl (S_X3.h S0) 6 (by decide) wd259 rfl dX3_takeLeave_18 ?_
    refine J_getRN E in_X6 rfl (S_X6.h (S_X3.f6 S0)) 6 (by decide) wd208 rfl dX3_takeLeave_21 ?_
    refine J_getRN E in_X2 rfl (S_X2.h (S_X6.f6 (S_X3.f6 S0))) 1 (by decide) wd154 rfl dX3_takeLeave_24 ?_
    refine J_aload_n E dX3_takeLeave_27 0 rfl ?_
    refine J_getI E in_X3 rfl (S_X3.h S0) 5 (by decide) wd258 rfl dX3_takeLeave_28 (fun x26 e27 => ?_)
    rw [show x26 = x20 from e27.trans (e21).symm]
    refine J_iald1 E (S_X2.f1 (S_X6.f6 (S_X3.f6 S0))) (Bd.in b24 (by decide)) dX3_takeLeave_31 (fun x28 e29 => ?_)
    refine J_iconst E (-1) dX3_takeLeave_32 (by decide) ?_
    refine J_icmp_ne E 38 dX3_takeLeave_33 (by decide) (fun c30 => ?_) (fun c30 => ?_)
    · refine J_aload_n E dX3_takeLeave_38 0 rfl ?_
      refine J_getR E in_X3 rfl (S_X3.h S0) 6 (by decide) wd259 rfl dX3_takeLeave_39 ?_
      refine J_getRN E in_X6 rfl (S_X6.h (S_X3.f6 S0)) 6 (by decide) wd208 rfl dX3_takeLeave_42 ?_
      refine J_getRN E in_X2 rfl (S_X2.h (S_X6.f6 (S_X3.f6 S0))) 1 (by decide) wd154 rfl dX3_takeLeave_45 ?_
      refine J_aload_n E dX3_takeLeave_48 0 rfl ?_
      refine J_getI E in_X3 rfl (S_X3.h S0) 5 (by decide) wd258 rfl dX3_takeLeave_49 (fun x31 e32 => ?_)
      rw [show x31 = x20 from e32.trans (e21).symm]
      refine J_iconst E (-1) dX3_takeLeave_52 (by decide) ?_
      refine J_iast1 E (S_X2.f1 (S_X6.f6 (S_X3.f6 S0))) (Bd.in b24 (by decide)) dX3_takeLeave_53 (fun v33 e34 => ?_)
      have o35 : Ok G v33 w := by rw [e34]; exact Ok.sv o11 (S_X2.f1 (S_X6.f6 (S_X3.f6 S0))) b24 (Bd.lit (-1) (-1) (by decide)) 0 7 (by decide) (by decide +kernel)
      have k36 : Kp G v v33 := by rw [e34]; exact Kp.sv k12 (S_X2.f1 (S_X6.f6 (S_X3.f6 S0))) b24 0 7 (-1) (-1) (by decide) (by decide +kernel)
      have f37 : Fr G [3, 107] v v33 := Fr.st f13 e34 (S_X2.f1 (S_X6.f6 (S_X3.f6 S0))) rfl
      have e38 : x1 = v33 (rf G h0 6) 3 := by rw [e34, stv_a (tg_ne (S_X6.h (S_X3.f6 S0)) ((S_X2.f1 (S_X6.f6 (S_X3.f6 S0)))) rfl)]; exact ((e2).trans (Fr.at (p9.2.2.2.2.2) (S_X6.h (S_X3.f6 S0)) rfl 3).symm)
      have e39 : x20 = v33 h0 5 := by rw [e34, stv_a (tg_ne (S_X3.h S0) ((S_X2.f1 (S_X6.f6 (S_X3.f6 S0)))) rfl)]; exact e21
      refine J_iconst E 1 dX3_takeLeave_54 (by decide) ?_
      exact J_zret E hr (Bd.z (Bd.lit 1 1 (by decide)) (by decide)) dX3_takeLeave_55 ⟨o35, k36, ((Bd.lit 1 1 (by decide)).w 0 1 (by decide)), ⟨⟨rfl, ((kx_X3_takeLeave_3 (e21) (e29) (e34) (c17) (c30)).symm.trans hK)⟩, f37⟩⟩
    · have b40 : Bd x28 (-1) (-1) := Bd.eq_l c30 (Bd.any x28) (Bd.lit (-1) (-1) (by decide)) (-1) (-1) (by decide)
      refine J_iconst E 0 dX3_takeLeave_36 (by decide) ?_
      exact J_zret E hr (Bd.z (Bd.lit 0 0 (by decide)) (by decide)) dX3_takeLeave_37 ⟨o11, k12, ((Bd.lit 0 0 (by decide)).w 0 1 (by decide)), ⟨⟨rfl, ((kx_X3_takeLeave_4 (e21) (e29) (c17) (c30)).symm.trans hK)⟩, f13⟩⟩

def K_X6_hasThing_e (G : Gm) (w : Mw) (v : Mv) (h0 : Nat) (x_0 : Int32) : Int32 :=
  if x_0 < (0 : Int32) then ((0 : Int32)) else (if (v h0 0) ≤ x_0 then ((0 : Int32)) else ((1 : Int32)))
def F_X6_hasThing (G : Gm) (w : Mw) (v : Mv) (h0 : Nat) (x_0 : Int32) : Int32 := K_X6_hasThing_e G w v h0 x_0
set_option maxRecDepth 100000 in
theorem kx_X6_hasThing_1 {G : Gm} {w : Mw} {v : Mv} {h0 : Nat} {x_0 : Int32}  (k0 : x_0 < (0 : Int32)) : K_X6_hasThing_e G w v h0 x_0 = (0 : Int32) := by
  first | rw [K_X6_hasThing_e, if_pos k0] | simp only [K_X6_hasThing_e, if_pos k0]
set_option maxRecDepth 100000 in
theorem kx_X6_hasThing_2 {G : Gm} {w : Mw} {v : Mv} {h0 : Nat} {x_0 : Int32} {x4 : Int32} (a0 : x4 = v h0 0) (k0 : ¬ (x_0 < (0 : Int32))) (k1 : x4 ≤ x_0) : K_X6_hasThing_e G w v h0 x_0 = (0 : Int32) := by
  subst a0; first | rw [K_X6_hasThing_e, if_neg k0, if_pos k1] | simp only [K_X6_hasThing_e, if_neg k0, if_pos k1]
set_option maxRecDepth 100000 in
theorem kx_X6_hasThing_3 {G : Gm} {w : Mw} {v : Mv} {h0 : Nat} {x_0 : Int32} {x4 : Int32} (a0 : x4 = v h0 0) (k0 : ¬ (x_0 < (0 : Int32))) (k1 : ¬ (x4 ≤ x_0)) : K_X6_hasThing_e G w v h0 x_0 = (1 : Int32) := by
  subst a0; first | rw [K_X6_hasThing_e, if_neg k0, if_neg k1] | simp only [K_X6_hasThing_e, if_neg k0, if_neg k1]
abbrev rm_X6_hasThing : Room := { frames := 0, cells := 0, slots := 0, locals := 0 }
set_option maxHeartbeats 4000000 in
set_option maxRecDepth 100000 in
theorem ct_X6_hasThing (l : Launch) (D : va_G) (dA : Nat → ClassId) (G : Gm) (v : Mv) (w : Mw) (hOk : Ok G v w) (h0 : Nat) (S0 : S_X6 G h0) (x_0 : Int32) : CtI l yX6_hasThing cX6_hasThing 2 (some .boolean) rm_X6_hasThing D dA G [.ref h0, .int x_0] v w (fun r v1 w1 => v1 = v ∧ w1 = w ∧ Bd r 0 1 ∧ (r = 0 ∨ Bd x_0 0 6) ∧ r = F_X6_hasThing G w v h0 x_0) := by
  refine CtI.of RX6 [(0, .ref h0), (1, .int x_0)] (Nat.le_of_ble_eq_true rfl) rfl (by decide) rfl ?_
  intro p e s m args below meth c E hr
  have hK : K_X6_hasThing_e G w v h0 x_0 = F_X6_hasThing G w v h0 x_0 := rfl
  refine J_iload_n E dX6_hasThing_0 1 rfl ?_
  refine J_if_lt E 16 dX6_hasThing_1 (by decide) (fun c1 => ?_) (fun c1 => ?_)
  · have b2 : Bd x_0 I0 (-1) := Bd.lt_l c1 (Bd.any x_0) (Bd.lit 0 0 (by decide)) (-1) (by decide)
    refine J_iconst E 0 dX6_hasThing_16 (by decide) ?_
    exact J_zret E hr (Bd.z (Bd.lit 0 0 (by decide)) (by decide)) dX6_hasThing_17 ⟨rfl, rfl, ((Bd.lit 0 0 (by decide)).w 0 1 (by decide)), ⟨(Or.inl rfl), ((kx_X6_hasThing_1 (c1)).symm.trans hK)⟩⟩
  · have b3 : Bd x_0 0 I1 := Bd.le_r (nlt c1) (Bd.lit 0 0 (by decide)) (Bd.any x_0) 0 (by decide)
    refine J_iload_n E dX6_hasThing_4 1 rfl ?_
    refine J_aload_n E dX6_hasThing_5 0 rfl ?_
    refine J_getI E in_X6 rfl (S_X6.h S0) 0 (by decide) wd191 rfl dX6_hasThing_6 (fun x4 e5 => ?_)
    have b6 : Bd x4 0 7 := Ok.fd hOk e5 (S_X6.h S0) rfl
    refine J_icmp_ge E 16 dX6_hasThing_9 (by decide) (fun c7 => ?_) (fun c7 => ?_)
    · refine J_iconst E 0 dX6_hasThing_16 (by decide) ?_
      exact J_zret E hr (Bd.z (Bd.lit 0 0 (by decide)) (by decide)) dX6_hasThing_17 ⟨rfl, rfl, ((Bd.lit 0 0 (by decide)).w 0 1 (by decide)), ⟨(Or.inl rfl), ((kx_X6_hasThing_2 (e5) (c1) (c7)).symm.trans hK)⟩⟩
    · have b8 : Bd x_0 0 6 := Bd.lt_l (nle c7) b3 b6 6 (by decide)
      have b9 : Bd x4 1 7 := Bd.lt_r (nle c7) b3 b6 1 (by decide)
      refine J_iconst E 1 dX6_hasThing_12 (by decide) ?_
      refine J_goto E 17 dX6_hasThing_13 (by decide) ?_
      exact J_zret E hr (Bd.z (Bd.lit 1 1 (by decide)) (by decide)) dX6_hasThing_17 ⟨rfl, rfl, ((Bd.lit 1 1 (by decide)).w 0 1 (by decide)), ⟨(Or.inr b8), ((kx_X6_hasThing_3 (e5) (c1) (c7)).symm.trans hK)⟩⟩

def K_X6_isHeldIn_e (G : Gm) (w : Mw) (v : Mv) (h0 : Nat) (h_0 : Nat) (x_1 : Int32) : Int32 :=
  if (F_X6_hasThing G w v h0 (v (rf G h_0 1) (Int32.toNatClampNeg x_1))) = (0 : Int32) then ((0 : Int32)) else (if (F_X5_thingWeighs G w v (v (rf G h0 1) (Int32.toNatClampNeg (v (rf G h_0 1) (Int32.toNatClampNeg x_1)))) (v (rf G h0 2) (Int32.toNatClampNeg (v (rf G h_0 1) (Int32.toNatClampNeg x_1)))) (v h_0 3)) ≤ (F_X5_oneLifts G w v (v (rf G h0 4) (Int32.toNatClampNeg x_1)) (v (rf G h0 5) (Int32.toNatClampNeg x_1)) (v (rf G h_0 0) (Int32.toNatClampNeg x_1))) then ((0 : Int32)) else ((1 : Int32)))
def F_X6_isHeldIn (G : Gm) (w : Mw) (v : Mv) (h0 : Nat) (h_0 : Nat) (x_1 : Int32) : Int32 := K_X6_isHeldIn_e G w v h0 h_0 x_1
set_option maxRecDepth 100000 in
theorem kx_X6_isHeldIn_1 {G : Gm} {w : Mw} {v : Mv} {h0 : Nat} {h_0 : Nat} {x_1 : Int32} {x1 : Int32} {x6 : Int32} (a0 : x1 = v (rf G h_0 1) (Int32.toNatClampNeg x_1)) (a1 : x6 = F_X6_hasThing G w v h0 x1) (k0 : x6 = (0 : Int32)) : K_X6_isHeldIn_e G w v h0 h_0 x_1 = (0 : Int32) := by
  subst a1; subst a0; first | rw [K_X6_isHeldIn_e, if_pos k0] | simp only [K_X6_isHeldIn_e, if_pos k0]
set_option maxRecDepth 100000 in
theorem kx_X6_isHeldIn_2 {G : Gm} {w : Mw} {v : Mv} {h0 : Nat} {h_0 : Nat} {x_1 : Int32} {x1 : Int32} {x13 : Int32} {x15 : Int32} {x17 : Int32} {x24 : Int32} {x26 : Int32} {x28 : Int32} {x6 : Int32} {x22 : Int32} {x33 : Int32} (a0 : x1 = v (rf G h_0 1) (Int32.toNatClampNeg x_1)) (a1 : x6 = F_X6_hasThing G w v h0 x1) (a2 : x13 = v (rf G h0 1) (Int32.toNatClampNeg x1)) (a3 : x15 = v (rf G h0 2) (Int32.toNatClampNeg x1)) (a4 : x17 = v h_0 3) (a5 : x22 = F_X5_thingWeighs G w v x13 x15 x17) (a6 : x24 = v (rf G h0 4) (Int32.toNatClampNeg x_1)) (a7 : x26 = v (rf G h0 5) (Int32.toNatClampNeg x_1)) (a8 : x28 = v (rf G h_0 0) (Int32.toNatClampNeg x_1)) (a9 : x33 = F_X5_oneLifts G w v x24 x26 x28) (k0 : ¬ (x6 = (0 : Int32))) (k1 : x22 ≤ x33) : K_X6_isHeldIn_e G w v h0 h_0 x_1 = (0 : Int32) := by
  subst a9; subst a8; subst a7; subst a6; subst a5; subst a4; subst a3; subst a2; subst a1; subst a0; first | rw [K_X6_isHeldIn_e, if_neg k0, if_pos k1] | simp only [K_X6_isHeldIn_e, if_neg k0, if_pos k1]
set_option maxRecDepth 100000 in
theorem kx_X6_isHeldIn_3 {G : Gm} {w : Mw} {v : Mv} {h0 : Nat} {h_0 : Nat} {x_1 : Int32} {x1 : Int32} {x13 : Int32} {x15 : Int32} {x17 : Int32} {x24 : Int32} {x26 : Int32} {x28 : Int32} {x6 : Int32} {x22 : Int32} {x33 : Int32} (a0 : x1 = v (rf G h_0 1) (Int32.toNatClampNeg x_1)) (a1 : x6 = F_X6_hasThing G w v h0 x1) (a2 : x13 = v (rf G h0 1) (Int32.toNatClampNeg x1)) (a3 : x15 = v (rf G h0 2) (Int32.toNatClampNeg x1)) (a4 : x17 = v h_0 3) (a5 : x22 = F_X5_thingWeighs G w v x13 x15 x17) (a6 : x24 = v (rf G h0 4) (Int32.toNatClampNeg x_1)) (a7 : x26 = v (rf G h0 5) (Int32.toNatClampNeg x_1)) (a8 : x28 = v (rf G h_0 0) (Int32.toNatClampNeg x_1)) (a9 : x33 = F_X5_oneLifts G w v x24 x26 x28) (k0 : ¬ (x6 = (0 : Int32))) (k1 : ¬ (x22 ≤ x33)) : K_X6_isHeldIn_e G w v h0 h_0 x_1 = (1 : Int32) := by
  subst a9; subst a8; subst a7; subst a6; subst a5; subst a4; subst a3; subst a2; subst a1; subst a0; first | rw [K_X6_isHeldIn_e, if_neg k0, if_neg k1] | simp only [K_X6_isHeldIn_e, if_neg k0, if_neg k1]
abbrev rm_X6_isHeldIn : Room := { frames := 2, cells := 0, slots := 0, locals := 44 }
set_option maxHeartbeats 4000000 in
set_option maxRecDepth 100000 in
theorem ct_X6_isHeldIn (l : Launch) (D : va_G) (dA : Nat → ClassId) (G : Gm) (v : Mv) (w : Mw) (hOk : Ok G v w) (h0 : Nat) (S0 : S_X6 G h0) (h_0 : Nat) (S_0 : S_X2 G h_0) (x_1 : Int32) (bx_1 : Bd x_1 0 6) : CtI l yX6_isHeldIn cX6_isHeldIn 4 (some .boolean) rm_X6_isHeldIn D dA G [.ref h0, .ref h_0, .int x_1] v w (fun r v1 w1 => v1 = v ∧ w1 = w ∧ Bd r 0 1 ∧ r = F_X6_isHeldIn G w v h0 h_0 x_1) := by
  refine CtI.of RX6 [(0, .ref h0), (1, .ref h_0), (2, .int x_1)] (Nat.le_of_ble_eq_true rfl) rfl (by decide) rfl ?_
  intro p e s m args below meth c E hr
  have hK : K_X6_isHeldIn_e G w v h0 h_0 x_1 = F_X6_isHeldIn G w v h0 h_0 x_1 := rfl
  refine J_aload_n E dX6_isHeldIn_0 1 rfl ?_
  refine J_getRN E in_X2 rfl (S_X2.h S_0) 1 (by decide) wd153 rfl dX6_isHeldIn_1 ?_
  refine J_iload_n E dX6_isHeldIn_4 2 rfl ?_
  refine J_iald1 E (S_X2.f1 S_0) (Bd.in bx_1 (by decide)) dX6_isHeldIn_5 (fun x1 e2 => ?_)
  refine J_istore_n E [(3, .int x1), (0, .ref h0), (1, .ref h_0), (2, .int x_1)] dX6_isHeldIn_6 rfl (by decide) rfl ?_
  refine J_aload_n E dX6_isHeldIn_7 1 rfl ?_
  refine J_iload_n E dX6_isHeldIn_8 0 rfl ?_
  refine J_callVI E cal_X6_hasThing wd526 rfl (S_X6.h S0) [.int x1] [] (ct_X6_hasThing l D dA G v w (hOk) h0 S0 x1) rfl rfl (Nat.le_of_ble_eq_true rfl) ⟨rfl, rfl⟩ ⟨Nat.le_of_ble_eq_true rfl, Nat.le_of_ble_eq_true rfl⟩ dX6_isHeldIn_9 (fun x6 v3 w4 p5 => ?_)
  rw [p5.1, p5.2.1]
  have b7 : Bd x6 0 1 := p5.2.2.1
  have e8 : x6 = F_X6_hasThing G w v h0 x1 := (p5.2.2.2.2)
  refine J_if_eq E 62 dX6_isHeldIn_12 (by decide) (fun c9 => ?_) (fun c9 => ?_)
  · have b10 : Bd x6 0 0 := Bd.eq_l c9 b7 (Bd.lit 0 0 (by decide)) 0 0 (by decide)
    refine J_iconst E 0 dX6_isHeldIn_62 (by decide) ?_
    exact J_zret E hr (Bd.z (Bd.lit 0 0 (by decide)) (by decide)) dX6_isHeldIn_63 ⟨rfl, rfl, ((Bd.lit 0 0 (by decide)).w 0 1 (by decide)), ((kx_X6_isHeldIn_1 (e2) (e8) (c9)).symm.trans hK)⟩
  · have b11 : Bd x6 1 1 := (Bd.ne_lo c9 b7 (Bd.lit 0 0 (by decide))).w _ _ (by decide)
    have b12 : Bd x1 0 6 := (p5.2.2.2.1).resolve_left c9
    refine J_aload_n E dX6_isHeldIn_15 1 rfl ?_
    refine J_getR E in_X6 rfl (S_X6.h S0) 1 (by decide) wd195 rfl dX6_isHeldIn_16 ?_
    refine J_iload_n E dX6_isHeldIn_19 0 rfl ?_
    refine J_iald1 E (S_X6.f1 S0) (Bd.in b12 (by decide)) dX6_isHeldIn_20 (fun x13 e14 => ?_)
    refine J_aload_n E dX6_isHeldIn_21 1 rfl ?_
    refine J_getR E in_X6 rfl (S_X6.h S0) 2 (by decide) wd197 rfl dX6_isHeldIn_22 ?_
    refine J_iload_n E dX6_isHeldIn_25 0 rfl ?_
    refine J_iald1 E (S_X6.f2 S0) (Bd.in b12 (by decide)) dX6_isHeldIn_26 (fun x15 e16 => ?_)
    refine J_aload_n E dX6_isHeldIn_27 2 rfl ?_
    refine J_getIN E in_X2 rfl (S_X2.h S_0) 3 (by decide) wd159 rfl dX6_isHeldIn_28 (fun x17 e18 => ?_)
    refine J_callSNI E cal_X5_thingWeighs wd530 [.int x13, .int x15, .int x17] [] (ct_X5_thingWeighs l D dA G v w (hOk) x13 x15 x17) rfl rfl (Nat.le_of_ble_eq_true rfl) ⟨rfl, rfl⟩ ⟨Nat.le_of_ble_eq_true rfl, Nat.le_of_ble_eq_true rfl⟩ dX6_isHeldIn_31 (fun x22 v19 w20 p21 => ?_)
    rw [p21.1, p21.2.1]
    have e23 : x22 = F_X5_thingWeighs G w v x13 x15 x17 := (p21.2.2.2)
    refine J_aload_n E dX6_isHeldIn_34 1 rfl ?_
    refine J_getR E in_X6 rfl (S_X6.h S0) 4 (by decide) wd203 rfl dX6_isHeldIn_35 ?_
    refine J_iload_n E dX6_isHeldIn_38 3 rfl ?_
    refine J_iald1 E (S_X6.f4 S0) (Bd.in bx_1 (by decide)) dX6_isHeldIn_39 (fun x24 e25 => ?_)
    refine J_aload_n E dX6_isHeldIn_40 1 rfl ?_
    refine J_getR E in_X6 rfl (S_X6.h S0) 5 (by decide) wd205 rfl dX6_isHeldIn_41 ?_
    refine J_iload_n E dX6_isHeldIn_44 3 rfl ?_
    refine J_iald1 E (S_X6.f5 S0) (Bd.in bx_1 (by decide)) dX6_isHeldIn_45 (fun x26 e27 => ?_)
    refine J_aload_n E dX6_isHeldIn_46 2 rfl ?_
    refine J_getRN E in_X2 rfl (S_X2.h S_0) 0 (by decide) wd151 rfl dX6_isHeldIn_47 ?_
    refine J_iload_n E dX6_isHeldIn_50 3 rfl ?_
    refine J_iald1 E (S_X2.f0 S_0) (Bd.in bx_1 (by decide)) dX6_isHeldIn_51 (fun x28 e29 => ?_)
    refine J_callSNI E cal_X5_oneLifts wd542 [.int x24, .int x26, .int x28] [.int x22] (ct_X5_oneLifts l D dA G v w (hOk) x24 x26 x28) rfl rfl (Nat.le_of_ble_eq_true rfl) ⟨rfl, rfl⟩ ⟨Nat.le_of_ble_eq_true rfl, Nat.le_of_ble_eq_true rfl⟩ dX6_isHeldIn_52 (fun x33 v30 w31 p32 => ?_)
    rw [p32.1, p32.2.1]
    have e34 : x33 = F_X5_oneLifts G w v x24 x26 x28 := (p32.2.2.2)
    refine J_icmp_le E 62 dX6_isHeldIn_55 (by decide) (fun c35 => ?_) (fun c35 => ?_)
    · refine J_iconst E 0 dX6_isHeldIn_62 (by decide) ?_
      exact J_zret E hr (Bd.z (Bd.lit 0 0 (by decide)) (by decide)) dX6_isHeldIn_63 ⟨rfl, rfl, ((Bd.lit 0 0 (by decide)).w 0 1 (by decide)), ((kx_X6_isHeldIn_2 (e2) (e8) (e14) (e16) (e18) (e23) (e25) (e27) (e29) (e34) (c9) (c35)).symm.trans hK)⟩
    · refine J_iconst E 1 dX6_isHeldIn_58 (by decide) ?_
      refine J_goto E 63 dX6_isHeldIn_59 (by decide) ?_
      exact J_zret E hr (Bd.z (Bd.lit 1 1 (by decide)) (by decide)) dX6_isHeldIn_63 ⟨rfl, rfl, ((Bd.lit 1 1 (by decide)).w 0 1 (by decide)), ((kx_X6_isHeldIn_3 (e2) (e8) (e14) (e16) (e18) (e23) (e25) (e27) (e29) (e34) (c9) (c35)).symm.trans hK)⟩

def K_X6_passYears_66 (G : Gm) (w : Mw) (h0 : Nat) (h_0 : Nat) (rec3 : Mv → Int32 → Int32 → Int32 → Mv) (rec20 : Mv → Int32 → Int32 → Int32 → Int32 → Mv) (v18 : Mv) (x_1 : Int32) (x_2 : Int32) (x7 : Int32) (x16 : Int32) : Mv :=
  rec20 v18 x_1 x_2 x7 (x16 + (1 : Int32))
def K_X6_passYears_c1 (G : Gm) (w : Mw) (h0 : Nat) (h_0 : Nat) (rec3 : Mv → Int32 → Int32 → Int32 → Mv) (rec20 : Mv → Int32 → Int32 → Int32 → Int32 → Mv) (v74 : Mv) (x_1 : Int32) (x_2 : Int32) (x7 : Int32) (x16 : Int32) : Mv :=
  K_X6_passYears_66 G w h0 h_0 rec3 rec20 v74 x_1 x_2 x7 x16
def K_X6_passYears_20 (G : Gm) (w : Mw) (h0 : Nat) (h_0 : Nat) (rec3 : Mv → Int32 → Int32 → Int32 → Mv) : Nat → Mv → Int32 → Int32 → Int32 → Int32 → Mv
  | 0, _, _, _, _, _ => (fun _ _ => 0 : Mv)
  | n20 + 1, v9, x_1, x_2, x7, x16 =>
    if (v9 h0 3) ≤ x16 then (rec3 (stv v9 h_0 3 ((v9 h_0 3) + (1 : Int32))) x_1 x_2 (x7 + (1 : Int32))) else (if (F_X2_isHere G w v9 h_0 x16) = (0 : Int32) then (K_X6_passYears_66 G w h0 h_0 rec3 (K_X6_passYears_20 G w h0 h_0 rec3 n20) v9 x_1 x_2 x7 x16) else (if (F_X6_isHeldIn G w v9 h0 h_0 x16) = (0 : Int32) then (K_X6_passYears_66 G w h0 h_0 rec3 (K_X6_passYears_20 G w h0 h_0 rec3 n20) (F_X2_lose G w v9 h_0 x16) x_1 x_2 x7 x16) else (K_X6_passYears_c1 G w h0 h_0 rec3 (K_X6_passYears_20 G w h0 h_0 rec3 n20) (F_X2_growOlder G w v9 h_0 x16) x_1 x_2 x7 x16)))
def K_X6_passYears_3 (G : Gm) (w : Mw) (h0 : Nat) (h_0 : Nat) : Nat → Mv → Int32 → Int32 → Int32 → Mv
  | 0, _, _, _, _ => (fun _ _ => 0 : Mv)
  | n3 + 1, v1, x_1, x_2, x7 =>
    if x_1 ≤ x7 then (v1) else (if x_2 ≤ (v1 h_0 3) then (v1) else (K_X6_passYears_20 G w h0 h_0 (K_X6_passYears_3 G w h0 h_0 n3) 8 v1 x_1 x_2 x7 (0 : Int32)))
def K_X6_passYears_e (G : Gm) (w : Mw) (v : Mv) (h0 : Nat) (h_0 : Nat) (x_1 : Int32) (x_2 : Int32) : Mv :=
  K_X6_passYears_3 G w h0 h_0 101 v x_1 x_2 (0 : Int32)
def F_X6_passYears (G : Gm) (w : Mw) (v : Mv) (h0 : Nat) (h_0 : Nat) (x_1 : Int32) (x_2 : Int32) : Mv := K_X6_passYears_e G w v h0 h_0 x_1 x_2
set_option maxRecDepth 100000 in
theorem kx_X6_passYears_1 {G : Gm} {w : Mw} {h0 : Nat} {h_0 : Nat} {rec3 : Mv → Int32 → Int32 → Int32 → Mv} {rec20 : Mv → Int32 → Int32 → Int32 → Int32 → Mv} {v18 : Mv} {x_1 : Int32} {x_2 : Int32} {x7 : Int32} {x16 : Int32} {x26 : Int32} (a0 : x26 = x16 + (1 : Int32))  : K_X6_passYears_66 G w h0 h_0 rec3 rec20 v18 x_1 x_2 x7 x16 = rec20 v18 x_1 x_2 x7 x26 := by
  subst a0; first | rw [K_X6_passYears_66] | simp only [K_X6_passYears_66]
set_option maxRecDepth 100000 in
theorem kx_X6_passYears_2 {G : Gm} {w : Mw} {h0 : Nat} {h_0 : Nat} {rec3 : Mv → Int32 → Int32 → Int32 → Mv} {n20 : Nat} {v9 : Mv} {x_1 : Int32} {x_2 : Int32} {x7 : Int32} {x16 : Int32} {v37 : Mv} {x44 : Int32} {x33 : Int32} {x35 : Int32} {x29 : Int32} (a0 : x29 = v9 h0 3) (a1 : x33 = v9 h_0 3) (a2 : x35 = x33 + (1 : Int32)) (a3 : v37 = stv v9 h_0 3 x35) (a4 : x44 = x7 + (1 : Int32)) (k0 : x29 ≤ x16) : K_X6_passYears_20 G w h0 h_0 rec3 (n20 + 1) v9 x_1 x_2 x7 x16 = rec3 v37 x_1 x_2 x44 := by
  subst a4; subst a3; subst a2; subst a1; subst a0; first | rw [K_X6_passYears_20, if_pos k0] | simp only [K_X6_passYears_20, if_pos k0]
set_option maxRecDepth 100000 in
theorem kx_X6_passYears_3 {G : Gm} {w : Mw} {h0 : Nat} {h_0 : Nat} {rec3 : Mv → Int32 → Int32 → Int32 → Mv} {n20 : Nat} {v9 : Mv} {x_1 : Int32} {x_2 : Int32} {x7 : Int32} {x16 : Int32} {v65 : Mv} {x29 : Int32} {x52 : Int32} {x60 : Int32} (a0 : x29 = v9 h0 3) (a1 : x52 = F_X2_isHere G w v9 h_0 x16) (a2 : x60 = F_X6_isHeldIn G w v9 h0 h_0 x16) (a3 : v65 = F_X2_lose G w v9 h_0 x16) (k0 : ¬ (x29 ≤ x16)) (k1 : ¬ (x52 = (0 : Int32))) (k2 : x60 = (0 : Int32)) : K_X6_passYears_20 G w h0 h_0 rec3 (n20 + 1) v9 x_1 x_2 x7 x16 = K_X6_passYears_66 G w h0 h_0 rec3 (K_X6_passYears_20 G w h0 h_0 rec3 n20) v65 x_1 x_2 x7 x16 := by
  subst a3; subst a2; subst a1; subst a0; first | rw [K_X6_passYears_20, if_neg k0, if_neg k1, if_pos k2] | simp only [K_X6_passYears_20, if_neg k0, if_neg k1, if_pos k2]
set_option maxRecDepth 100000 in
theorem kx_X6_passYears_4 {G : Gm} {w : Mw} {h0 : Nat} {h_0 : Nat} {rec3 : Mv → Int32 → Int32 → Int32 → Mv} {n20 : Nat} {v9 : Mv} {x_1 : Int32} {x_2 : Int32} {x7 : Int32} {x16 : Int32} {v74 : Mv} {x29 : Int32} {x52 : Int32} {x60 : Int32} (a0 : x29 = v9 h0 3) (a1 : x52 = F_X2_isHere G w v9 h_0 x16) (a2 : x60 = F_X6_isHeldIn G w v9 h0 h_0 x16) (a3 : v74 = F_X2_growOlder G w v9 h_0 x16) (k0 : ¬ (x29 ≤ x16)) (k1 : ¬ (x52 = (0 : Int32))) (k2 : ¬ (x60 = (0 : Int32))) : K_X6_passYears_20 G w h0 h_0 rec3 (n20 + 1) v9 x_1 x_2 x7 x16 = K_X6_passYears_c1 G w h0 h_0 rec3 (K_X6_passYears_20 G w h0 h_0 rec3 n20) v74 x_1 x_2 x7 x16 := by
  subst a3; subst a2; subst a1; subst a0; first | rw [K_X6_passYears_20, if_neg k0, if_neg k1, if_neg k2] | simp only [K_X6_passYears_20, if_neg k0, if_neg k1, if_neg k2]
set_option maxRecDepth 100000 in
theorem kx_X6_passYears_5 {G : Gm} {w : Mw} {h0 : Nat} {h_0 : Nat} {rec3 : Mv → Int32 → Int32 → Int32 → Mv} {rec20 : Mv → Int32 → Int32 → Int32 → Int32 → Mv} {v74 : Mv} {x_1 : Int32} {x_2 : Int32} {x7 : Int32} {x16 : Int32}   : K_X6_passYears_c1 G w h0 h_0 rec3 rec20 v74 x_1 x_2 x7 x16 = K_X6_passYears_66 G w h0 h_0 rec3 rec20 v74 x_1 x_2 x7 x16 := by
  first | rw [K_X6_passYears_c1] | simp only [K_X6_passYears_c1]
set_option maxRecDepth 100000 in
theorem kx_X6_passYears_6 {G : Gm} {w : Mw} {h0 : Nat} {h_0 : Nat} {rec3 : Mv → Int32 → Int32 → Int32 → Mv} {n20 : Nat} {v9 : Mv} {x_1 : Int32} {x_2 : Int32} {x7 : Int32} {x16 : Int32} {x29 : Int32} {x52 : Int32} (a0 : x29 = v9 h0 3) (a1 : x52 = F_X2_isHere G w v9 h_0 x16) (k0 : ¬ (x29 ≤ x16)) (k1 : x52 = (0 : Int32)) : K_X6_passYears_20 G w h0 h_0 rec3 (n20 + 1) v9 x_1 x_2 x7 x16 = K_X6_passYears_66 G w h0 h_0 rec3 (K_X6_passYears_20 G w h0 h_0 rec3 n20) v9 x_1 x_2 x7 x16 := by
  subst a1; subst a0; first | rw [K_X6_passYears_20, if_neg k0, if_pos k1] | simp only [K_X6_passYears_20, if_neg k0, if_pos k1]
set_option maxRecDepth 100000 in
theorem kx_X6_passYears_7 {G : Gm} {w : Mw} {h0 : Nat} {h_0 : Nat} {n3 : Nat} {v1 : Mv} {x_1 : Int32} {x_2 : Int32} {x7 : Int32}  (k0 : x_1 ≤ x7) : K_X6_passYears_3 G w h0 h_0 (n3 + 1) v1 x_1 x_2 x7 = v1 := by
  first | rw [K_X6_passYears_3, if_pos k0] | simp only [K_X6_passYears_3, if_pos k0]
set_option maxRecDepth 100000 in
theorem kx_X6_passYears_8 {G : Gm} {w : Mw} {h0 : Nat} {h_0 : Nat} {n3 : Nat} {v1 : Mv} {x_1 : Int32} {x_2 : Int32} {x7 : Int32} {x86 : Int32} (a0 : x86 = v1 h_0 3) (k0 : ¬ (x_1 ≤ x7)) (k1 : x_2 ≤ x86) : K_X6_passYears_3 G w h0 h_0 (n3 + 1) v1 x_1 x_2 x7 = v1 := by
  subst a0; first | rw [K_X6_passYears_3, if_neg k0, if_pos k1] | simp only [K_X6_passYears_3, if_neg k0, if_pos k1]
set_option maxRecDepth 100000 in
theorem kx_X6_passYears_9 {G : Gm} {w : Mw} {h0 : Nat} {h_0 : Nat} {n3 : Nat} {v1 : Mv} {x_1 : Int32} {x_2 : Int32} {x7 : Int32} {x86 : Int32} (a0 : x86 = v1 h_0 3) (k0 : ¬ (x_1 ≤ x7)) (k1 : ¬ (x_2 ≤ x86)) : K_X6_passYears_3 G w h0 h_0 (n3 + 1) v1 x_1 x_2 x7 = K_X6_passYears_20 G w h0 h_0 (K_X6_passYears_3 G w h0 h_0 n3) 8 v1 x_1 x_2 x7 (0 : Int32) := by
  subst a0; first | rw [K_X6_passYears_3, if_neg k0, if_neg k1] | simp only [K_X6_passYears_3, if_neg k0, if_neg k1]
set_option maxRecDepth 100000 in
theorem kx_X6_passYears_10 {G : Gm} {w : Mw} {v : Mv} {h0 : Nat} {h_0 : Nat} {x_1 : Int32} {x_2 : Int32}   : K_X6_passYears_e G w v h0 h_0 x_1 x_2 = K_X6_passYears_3 G w h0 h_0 101 v x_1 x_2 (0 : Int32) := by
  first | rw [K_X6_passYears_e] | simp only [K_X6_passYears_e]
abbrev rm_X6_passYears : Room := { frames := 3, cells := 0, slots := 0, locals := 67 }
set_option maxHeartbeats 4000000 in
set_option maxRecDepth 100000 in
theorem ct_X6_passYears (l : Launch) (D : va_G) (dA : Nat → ClassId) (G : Gm) (v : Mv) (w : Mw) (hOk : Ok G v w) (h0 : Nat) (S0 : S_X6 G h0) (h_0 : Nat) (S_0 : S_X2 G h_0) (x_1 : Int32) (bx_1 : Bd x_1 0 99) (x_2 : Int32) (bx_2 : Bd x_2 999 1059) : CtV l yX6_passYears cX6_passYears 6 none rm_X6_passYears D dA G [.ref h0, .ref h_0, .int x_1, .int x_2] v w (fun v1 w1 => Ok G v1 w1 ∧ Kp G v v1 ∧ (w1 = w ∧ v1 = F_X6_passYears G w v h0 h_0 x_1 x_2) ∧ Fr G [2, 107] v v1) := by
  refine CtV.of RX6 [(0, .ref h0), (1, .ref h_0), (2, .int x_1), (3, .int x_2)] (Nat.le_of_ble_eq_true rfl) rfl (by decide) rfl ?_
  intro p e s m args below meth c E hr
  have J3 : ∀ n3 : Nat, ∀ (v1 : Mv), Ok G v1 w → Kp G v v1 → Fr G [2, 107] v v1 → Bd x_1 0 99 → Bd x_2 999 1059 → ∀ x7 : Int32, Bd x7 0 100 → Mu x7 100 n3 → K_X6_passYears_3 G w h0 h_0 n3 v1 x_1 x_2 x7 = F_X6_passYears G w v h0 h_0 x_1 x_2 → J p l e rm_X6_passYears s m args below meth c 0 0 (MQ below (QcV D dA G (fun v1 w1 => Ok G v1 w1 ∧ Kp G v v1 ∧ (w1 = w ∧ v1 = F_X6_passYears G w v h0 h_0 x_1 x_2) ∧ Fr G [2, 107] v v1)) args s 0 0 (dm G)) D dA G (dm G) s.heap 6 v1 w [(0, .ref h0), (1, .ref h_0), (2, .int x_1), (3, .int x_2), (4, .int x7)] 3 [] := by
    intro n3
    induction n3 with
    | zero => intro v1 o2 k3 f4 b5 b6 x7 b8 hm hK; exact hm.zero b8 (by decide)
    | succ n3 ih3 =>
      intro v1 o2 k3 f4 b5 b6 x7 b8 hmu3 hK
      have J20 : ∀ n20 : Nat, ∀ (v9 : Mv), Ok G v9 w → Kp G v v9 → Fr G [2, 107] v v9 → Bd x_1 1 99 → Bd x_2 999 1059 → Bd x7 0 99 → ∀ x16 : Int32, Bd x16 0 7 → Mu x16 7 n20 → K_X6_passYears_20 G w h0 h_0 (K_X6_passYears_3 G w h0 h_0 n3) n20 v9 x_1 x_2 x7 x16 = F_X6_passYears G w v h0 h_0 x_1 x_2 → J p l e rm_X6_passYears s m args below meth c 0 0 (MQ below (QcV D dA G (fun v1 w1 => Ok G v1 w1 ∧ Kp G v v1 ∧ (w1 = w ∧ v1 = F_X6_passYears G w v h0 h_0 x_1 x_2) ∧ Fr G [2, 107] v v1)) args s 0 0 (dm G)) D dA G (dm G) s.heap 6 v9 w [(0, .ref h0), (1, .ref h_0), (2, .int x_1), (3, .int x_2), (4, .int x7), (5, .int x16)] 20 [] := by
        intro n20
        induction n20 with
        | zero => intro v9 o10 k11 f12 b13 b14 b15 x16 b17 hm hK; exact hm.zero b17 (by decide)
        | succ n20 ih20 =>
          intro v9 o10 k11 f12 b13 b14 b15 x16 b17 hmu20 hK
          have J66 : ∀ (v18 : Mv), Ok G v18 w → Kp G v v18 → Fr G [2, 107] v v18 → Bd x_1 1 99 → Bd x_2 999 1059 → Bd x7 0 99 → Bd x16 0 6 → K_X6_passYears_66 G w h0 h_0 (K_X6_passYears_3 G w h0 h_0 n3) (K_X6_passYears_20 G w h0 h_0 (K_X6_passYears_3 G w h0 h_0 n3) n20) v18 x_1 x_2 x7 x16 = F_X6_passYears G w v h0 h_0 x_1 x_2 → J p l e rm_X6_passYears s m args below meth c 0 0 (MQ below (QcV D dA G (fun v1 w1 => Ok G v1 w1 ∧ Kp G v v1 ∧ (w1 = w ∧ v1 = F_X6_passYears G w v h0 h_0 x_1 x_2) ∧ Fr G [2, 107] v v1)) args s 0 0 (dm G)) D dA G (dm G) s.heap 6 v18 w [(0, .ref h0), (1, .ref h_0), (2, .int x_1), (3, .int x_2), (4, .int x7), (5, .int x16)] 66 [] := by
            intro v18 o19 k20 f21 b22 b23 b24 b25 hK
            refine J_iinc E 5 1 (fun z => [(5, .int z), (0, .ref h0), (1, .ref h_0), (2, .int x_1), (3, .int x_2), (4, .int x7)]) dX6_passYears_66 rfl (by decide) (by decide) (fun _ => rfl) (fun x26 e27 => ?_)
            have b28 : Bd x26 1 7 := (Bd.add e27 b25 (Bd.lit 1 1 (by decide)) (by decide)).w _ _ (by decide)
            refine J_goto E 20 dX6_passYears_69 (by decide) ?_
            exact J.sub [1, 2, 3, 4, 5, 0] rfl (ih20 v18 (o19) (k20) f21 b22 b23 b24 x26 (b28.w 0 7 (by decide)) (Mu.step hmu20 e27 b25 (Bd.lit 1 1 (by decide)) (by decide)) ((kx_X6_passYears_1 (e27)).symm.trans hK))
          refine J_iload E dX6_passYears_20 5 rfl ?_
          refine J_aload_n E dX6_passYears_22 0 rfl ?_
          refine J_getI E in_X6 rfl (S_X6.h S0) 3 (by decide) wd201 rfl dX6_passYears_23 (fun x29 e30 => ?_)
          have b31 : Bd x29 0 7 := Ok.fd o10 e30 (S_X6.h S0) rfl
          refine J_icmp_ge E 72 dX6_passYears_26 (by decide) (fun c32 => ?_) (fun c32 => ?_)
          · refine J_aload_n E dX6_passYears_72 1 rfl ?_
            refine J_dup E dX6_passYears_73 rfl ?_
            refine J_getIN E in_X2 rfl (S_X2.h S_0) 3 (by decide) wd159 rfl dX6_passYears_74 (fun x33 e34 => ?_)
            refine J_iconst E 1 dX6_passYears_77 (by decide) ?_
            refine J_iadd E dX6_passYears_78 (fun x35 e36 => ?_)
            refine J_pIN E in_X2 rfl (S_X2.h S_0) 3 (by decide) wd159 tyX2 tyX2_ok nmX2 rfl rfl .int (by decide +kernel) rfl rfl dX6_passYears_79 (fun v37 e38 => ?_)
            have o39 : Ok G v37 w := Ok.pf o10 e38 (S_X2.h S_0) rfl (Bd.any x35)
            have k40 : Kp G v v37 := Kp.pf k11 e38 (S_X2.h S_0) rfl
            have e41 : x29 = v37 h0 3 := by rw [e38, stv_a (tg_ne (S_X6.h S0) (S_X2.h S_0) rfl)]; exact e30
            have f42 : Fr G [2, 107] v v37 := Fr.st f12 e38 (S_X2.h S_0) rfl
            have e43 : x35 = v37 h_0 3 := by rw [e38, stv_s]
            refine J_iinc E 4 1 (fun z => [(4, .int z), (0, .ref h0), (1, .ref h_0), (2, .int x_1), (3, .int x_2), (5, .int x16)]) dX6_passYears_82 rfl (by decide) (by decide) (fun _ => rfl) (fun x44 e45 => ?_)
            have b46 : Bd x44 1 100 := (Bd.add e45 b15 (Bd.lit 1 1 (by decide)) (by decide)).w _ _ (by decide)
            refine J_goto E 3 dX6_passYears_85 (by decide) ?_
            exact J.sub [1, 2, 3, 4, 0] rfl (ih3 v37 (o39) (k40) f42 (b13.w 0 99 (by decide)) b14 x44 (b46.w 0 100 (by decide)) (Mu.step hmu3 e45 b15 (Bd.lit 1 1 (by decide)) (by decide)) ((kx_X6_passYears_2 (e30) (e34) (e36) (e38) (e45) (c32)).symm.trans hK))
          · have b47 : Bd x16 0 6 := Bd.lt_l (nle c32) b17 b31 6 (by decide)
            have b48 : Bd x29 1 7 := Bd.lt_r (nle c32) b17 b31 1 (by decide)
            refine J_aload_n E dX6_passYears_29 1 rfl ?_
            refine J_iload E dX6_passYears_30 5 rfl ?_
            refine J_callVNI E cal_X2_isHere wd496 rfl (S_X2.h S_0) [.int x16] [] (ct_X2_isHere l D dA G v9 w (o10) h_0 S_0 x16 b47) rfl rfl (Nat.le_of_ble_eq_true rfl) ⟨rfl, rfl⟩ ⟨Nat.le_of_ble_eq_true rfl, Nat.le_of_ble_eq_true rfl⟩ dX6_passYears_32 (fun x52 v49 w50 p51 => ?_)
            rw [p51.1, p51.2.1]
            have b53 : Bd x52 0 1 := p51.2.2.1
            have e54 : x52 = F_X2_isHere G w v9 h_0 x16 := (p51.2.2.2)
            refine J_if_ne E 41 dX6_passYears_35 (by decide) (fun c55 => ?_) (fun c55 => ?_)
            · have b56 : Bd x52 1 1 := (Bd.ne_lo c55 b53 (Bd.lit 0 0 (by decide))).w _ _ (by decide)
              refine J_aload_n E dX6_passYears_41 0 rfl ?_
              refine J_aload_n E dX6_passYears_42 1 rfl ?_
              refine J_iload E dX6_passYears_43 5 rfl ?_
              refine J_callVI E cal_X6_isHeldIn wd522 rfl (S_X6.h S0) [.ref h_0, .int x16] [] (ct_X6_isHeldIn l D dA G v9 w (o10) h0 S0 h_0 S_0 x16 b47) rfl rfl (Nat.le_of_ble_eq_true rfl) ⟨rfl, rfl⟩ ⟨Nat.le_of_ble_eq_true rfl, Nat.le_of_ble_eq_true rfl⟩ dX6_passYears_45 (fun x60 v57 w58 p59 => ?_)
              rw [p59.1, p59.2.1]
              have b61 : Bd x60 0 1 := p59.2.2.1
              have e62 : x60 = F_X6_isHeldIn G w v9 h0 h_0 x16 := (p59.2.2.2)
              refine J_if_eq E 60 dX6_passYears_48 (by decide) (fun c63 => ?_) (fun c63 => ?_)
              · have b64 : Bd x60 0 0 := Bd.eq_l c63 b61 (Bd.lit 0 0 (by decide)) 0 0 (by decide)
                refine J_aload_n E dX6_passYears_60 1 rfl ?_
                refine J_iload E dX6_passYears_61 5 rfl ?_
                refine J_callVNV E cal_X2_lose wd559 rfl (S_X2.h S_0) [.int x16] [] (ct_X2_lose l D dA G v9 w (o10) h_0 S_0 x16 b47) rfl rfl (Nat.le_of_ble_eq_true rfl) ⟨rfl, rfl⟩ ⟨Nat.le_of_ble_eq_true rfl, Nat.le_of_ble_eq_true rfl⟩ dX6_passYears_63 (fun v65 w66 p67 => ?_)
                have ew9 : w = w66 := p67.2.2.1.1.symm
                subst ew9
                have o69 := p67.1
                have k70 : Kp G v v65 := (k11).tr p67.2.1
                have f71 : Fr G [2, 107] v v65 := Fr.tr f12 (p67.2.2.2) (by decide)
                have e72 : v65 = F_X2_lose G w v9 h_0 x16 := (p67.2.2.1).2
                exact J.sub [0, 1, 2, 3, 4, 5] rfl (J66 v65 (o69) (k70) f71 b13 b14 b15 b47 ((kx_X6_passYears_3 (e30) (e54) (e62) (e72) (c32) (c55) (c63)).symm.trans hK))
              · have b73 : Bd x60 1 1 := (Bd.ne_lo c63 b61 (Bd.lit 0 0 (by decide))).w _ _ (by decide)
                refine J_aload_n E dX6_passYears_51 1 rfl ?_
                refine J_iload E dX6_passYears_52 5 rfl ?_
                refine J_callVNV E cal_X2_growOlder wd554 rfl (S_X2.h S_0) [.int x16] [] (ct_X2_growOlder l D dA G v9 w (o10) h_0 S_0 x16 b47) rfl rfl (Nat.le_of_ble_eq_true rfl) ⟨rfl, rfl⟩ ⟨Nat.le_of_ble_eq_true rfl, Nat.le_of_ble_eq_true rfl⟩ dX6_passYears_54 (fun v74 w75 p76 => ?_)
                have ew9 : w = w75 := p76.2.2.1.1.symm
                subst ew9
                have o78 := p76.1
                have k79 : Kp G v v74 := (k11).tr p76.2.1
                have f80 : Fr G [2, 107] v v74 := Fr.tr f12 (p76.2.2.2) (by decide)
                have e81 : v74 = F_X2_growOlder G w v9 h_0 x16 := (p76.2.2.1).2
                have hK : K_X6_passYears_c1 G w h0 h_0 (K_X6_passYears_3 G w h0 h_0 n3) (K_X6_passYears_20 G w h0 h_0 (K_X6_passYears_3 G w h0 h_0 n3) n20) v74 x_1 x_2 x7 x16 = F_X6_passYears G w v h0 h_0 x_1 x_2 := ((kx_X6_passYears_4 (e30) (e54) (e62) (e81) (c32) (c55) (c63)).symm.trans hK)
                refine J_goto E 66 dX6_passYears_57 (by decide) ?_
                exact J.sub [0, 1, 2, 3, 4, 5] rfl (J66 v74 (o78) (k79) f80 b13 b14 b15 b47 ((kx_X6_passYears_5).symm.trans hK))
            · have b82 : Bd x52 0 0 := Bd.eq_l c55 b53 (Bd.lit 0 0 (by decide)) 0 0 (by decide)
              refine J_goto E 66 dX6_passYears_38 (by decide) ?_
              exact J.sub [0, 1, 2, 3, 4, 5] rfl (J66 v9 (o10) (k11) f12 b13 b14 b15 b47 ((kx_X6_passYears_6 (e30) (e54) (c32) (c55)).symm.trans hK))
      refine J_iload E dX6_passYears_3 4 rfl ?_
      refine J_iload_n E dX6_passYears_5 2 rfl ?_
      refine J_icmp_ge E 88 dX6_passYears_6 (by decide) (fun c83 => ?_) (fun c83 => ?_)
      · exact J_vret E hr dX6_passYears_88 ⟨o2, k3, ⟨⟨rfl, ((kx_X6_passYears_7 (c83)).symm.trans hK)⟩, f4⟩⟩
      · have b84 : Bd x7 0 98 := Bd.lt_l (nle c83) b8 b5 98 (by decide)
        have b85 : Bd x_1 1 99 := Bd.lt_r (nle c83) b8 b5 1 (by decide)
        refine J_aload_n E dX6_passYears_9 1 rfl ?_
        refine J_getIN E in_X2 rfl (S_X2.h S_0) 3 (by decide) wd159 rfl dX6_passYears_10 (fun x86 e87 => ?_)
        refine J_iload_n E dX6_passYears_13 3 rfl ?_
        refine J_icmp_ge E 88 dX6_passYears_14 (by decide) (fun c88 => ?_) (fun c88 => ?_)
        · have b89 : Bd x86 999 I1 := Bd.le_r c88 b6 (Bd.any x86) 999 (by decide)
          exact J_vret E hr dX6_passYears_88 ⟨o2, k3, ⟨⟨rfl, ((kx_X6_passYears_8 (e87) (c83) (c88)).symm.trans hK)⟩, f4⟩⟩
        · have b90 : Bd x86 I0 1058 := Bd.lt_l (nle c88) (Bd.any x86) b6 1058 (by decide)
          refine J_iconst E 0 dX6_passYears_17 (by decide) ?_
          refine J_istore E [(5, .int 0), (0, .ref h0), (1, .ref h_0), (2, .int x_1), (3, .int x_2), (4, .int x7)] dX6_passYears_18 (by decide) rfl ?_
          exact J.sub [1, 2, 3, 4, 5, 0] rfl (J20 8 v1 (o2) (k3) f4 b85 b6 (b84.w 0 99 (by decide)) 0 ((Bd.lit 0 0 (by decide)).w 0 7 (by decide)) (Mu.start _ (Bd.lit 0 0 (by decide)) (by decide)) ((kx_X6_passYears_9 (e87) (c83) (c88)).symm.trans hK))
  have hK : K_X6_passYears_e G w v h0 h_0 x_1 x_2 = F_X6_passYears G w v h0 h_0 x_1 x_2 := rfl
  refine J_iconst E 0 dX6_passYears_0 (by decide) ?_
  refine J_istore E [(4, .int 0), (0, .ref h0), (1, .ref h_0), (2, .int x_1), (3, .int x_2)] dX6_passYears_1 (by decide) rfl ?_
  exact J.sub [1, 2, 3, 4, 0] rfl (J3 101 v (hOk) (Kp.rf) Fr.rf bx_1 bx_2 0 ((Bd.lit 0 0 (by decide)).w 0 100 (by decide)) (Mu.start _ (Bd.lit 0 0 (by decide)) (by decide)) ((kx_X6_passYears_10).symm.trans hK))

def K_X3_takeYears_c2 (G : Gm) (w : Mw) (h0 : Nat) (v20 : Mv) : Int32 × Mv :=
  ((1 : Int32), v20)
def K_X3_takeYears_c1 (G : Gm) (w : Mw) (h0 : Nat) (v1 : Mv) (x4 : Int32) : Int32 × Mv :=
  if x4 = (0 : Int32) then (((0 : Int32), v1)) else (K_X3_takeYears_c2 G w h0 (F_X6_passYears G w v1 (rf G h0 6) (rf G (rf G h0 6) 6) (v1 h0 5) (999 : Int32)))
def K_X3_takeYears_e (G : Gm) (w : Mw) (v : Mv) (h0 : Nat) : Int32 × Mv :=
  K_X3_takeYears_c1 G w h0 ((F_X3_takeNumber G w v h0 (1 : Int32) (99 : Int32)).2) ((F_X3_takeNumber G w v h0 (1 : Int32) (99 : Int32)).1)
def F_X3_takeYears (G : Gm) (w : Mw) (v : Mv) (h0 : Nat) : Int32 × Mv := K_X3_takeYears_e G w v h0
set_option maxRecDepth 100000 in
theorem kx_X3_takeYears_1 {G : Gm} {w : Mw} {v : Mv} {h0 : Nat} {v1 : Mv} {x4 : Int32} (a0 : x4 = (F_X3_takeNumber G w v h0 (1 : Int32) (99 : Int32)).1) (a1 : v1 = (F_X3_takeNumber G w v h0 (1 : Int32) (99 : Int32)).2)  : K_X3_takeYears_e G w v h0 = K_X3_takeYears_c1 G w h0 v1 x4 := by
  subst a1; subst a0; first | rw [K_X3_takeYears_e] | simp only [K_X3_takeYears_e]
set_option maxRecDepth 100000 in
theorem kx_X3_takeYears_2 {G : Gm} {w : Mw} {h0 : Nat} {v1 : Mv} {x4 : Int32} {v20 : Mv} {x13 : Int32} (a0 : x13 = v1 h0 5) (a1 : v20 = F_X6_passYears G w v1 (rf G h0 6) (rf G (rf G h0 6) 6) x13 (999 : Int32)) (k0 : ¬ (x4 = (0 : Int32))) : K_X3_takeYears_c1 G w h0 v1 x4 = K_X3_takeYears_c2 G w h0 v20 := by
  subst a1; subst a0; first | rw [K_X3_takeYears_c1, if_neg k0] | simp only [K_X3_takeYears_c1, if_neg k0]
set_option maxRecDepth 100000 in
theorem kx_X3_takeYears_3 {G : Gm} {w : Mw} {h0 : Nat} {v20 : Mv}   : K_X3_takeYears_c2 G w h0 v20 = ((1 : Int32), v20) := by
  first | rw [K_X3_takeYears_c2] | simp only [K_X3_takeYears_c2]
set_option maxRecDepth 100000 in
theorem kx_X3_takeYears_4 {G : Gm} {w : Mw} {h0 : Nat} {v1 : Mv} {x4 : Int32}  (k0 : x4 = (0 : Int32)) : K_X3_takeYears_c1 G w h0 v1 x4 = ((0 : Int32), v1) := by
  first | rw [K_X3_takeYears_c1, if_pos k0] | simp only [K_X3_takeYears_c1, if_pos k0]
abbrev rm_X3_takeYears : Room := { frames := 4, cells := 0, slots := 0, locals := 92 }
set_option maxHeartbeats 4000000 in
set_option maxRecDepth 100000 in
theorem ct_X3_takeYears (l : Launch) (D : va_G) (dA : Nat → ClassId) (G : Gm) (v : Mv) (w : Mw) (hOk : Ok G v w) (h0 : Nat) (S0 : S_X3 G h0) : CtI l yX3_takeYears cX3_takeYears 1 (some .boolean) rm_X3_takeYears D dA G [.ref h0] v w (fun r v1 w1 => Ok G v1 w1 ∧ Kp G v v1 ∧ Bd r 0 1 ∧ (w1 = w ∧ (r, v1) = F_X3_takeYears G w v h0) ∧ Fr G [2, 3, 107] v v1) := by
  refine CtI.of RX3 [(0, .ref h0)] (Nat.le_of_ble_eq_true rfl) rfl (by decide) rfl ?_
  intro p e s m args below meth c E hr
  have hK : K_X3_takeYears_e G w v h0 = F_X3_takeYears G w v h0 := rfl
  refine J_aload_n E dX3_takeYears_0 0 rfl ?_
  refine J_iconst E 1 dX3_takeYears_1 (by decide) ?_
  refine J_bipush E 99 dX3_takeYears_2 (by decide) ?_
  refine J_callVI E cal_X3_takeNumber wd476 rfl (S_X3.h S0) [.int 1, .int 99] [] (ct_X3_takeNumber l D dA G v w (hOk) h0 S0 1 99) rfl rfl (Nat.le_of_ble_eq_true rfl) ⟨rfl, rfl⟩ ⟨Nat.le_of_ble_eq_true rfl, Nat.le_of_ble_eq_true rfl⟩ dX3_takeYears_4 (fun x4 v1 w2 p3 => ?_)
  have ew9 : w = w2 := p3.2.2.2.2.1.1.symm
  subst ew9
  have o5 := p3.1
  have k6 : Kp G v v1 := (Kp.rf).tr p3.2.1
  have f7 : Fr G [2, 3, 107] v v1 := Fr.tr Fr.rf (p3.2.2.2.2.2) (by decide)
  have b8 : Bd x4 0 1 := p3.2.2.1
  have e9 : x4 = (F_X3_takeNumber G w v h0 (1 : Int32) (99 : Int32)).1 := congrArg Prod.fst (p3.2.2.2.2.1).2
  have e10 : v1 = (F_X3_takeNumber G w v h0 (1 : Int32) (99 : Int32)).2 := congrArg Prod.snd (p3.2.2.2.2.1).2
  have hK : K_X3_takeYears_c1 G w h0 v1 x4 = F_X3_takeYears G w v h0 := ((kx_X3_takeYears_1 (e9) (e10)).symm.trans hK)
  refine J_if_ne E 12 dX3_takeYears_7 (by decide) (fun c11 => ?_) (fun c11 => ?_)
  · have b12 : Bd x4 1 1 := (Bd.ne_lo c11 b8 (Bd.lit 0 0 (by decide))).w _ _ (by decide)
    obtain ⟨x13, e14⟩ : ∃ z : Int32, z = v1 h0 5 := ⟨_, rfl⟩
    have g15 : 1 ≤ x13 ∧ x13 ≤ 99 := by rw [e14]; exact (p3.2.2.2.1).resolve_left c11
    have b16 : Bd x13 1 I1 := Bd.le_r g15.1 (Bd.lit 1 1 (by decide)) (Bd.any x13) 1 (by decide)
    have b17 : Bd x13 1 99 := Bd.le_l g15.2 b16 (Bd.lit 99 99 (by decide)) 99 (by decide)
    refine J_aload_n E dX3_takeYears_12 0 rfl ?_
    refine J_getR E in_X3 rfl (S_X3.h S0) 6 (by decide) wd259 rfl dX3_takeYears_13 ?_
    refine J_aload_n E dX3_takeYears_16 0 rfl ?_
    refine J_getR E in_X3 rfl (S_X3.h S0) 6 (by decide) wd259 rfl dX3_takeYears_17 ?_
    refine J_getRN E in_X6 rfl (S_X6.h (S_X3.f6 S0)) 6 (by decide) wd208 rfl dX3_takeYears_20 ?_
    refine J_aload_n E dX3_takeYears_23 0 rfl ?_
    refine J_getI E in_X3 rfl (S_X3.h S0) 5 (by decide) wd258 rfl dX3_takeYears_24 (fun x18 e19 => ?_)
    rw [show x18 = x13 from e19.trans (e14).symm]
    refine J_sipush E 999 dX3_takeYears_27 (by decide) ?_
    refine J_callVNV E cal_X6_passYears wd518 rfl (S_X6.h (S_X3.f6 S0)) [.ref (rf G (rf G h0 6) 6), .int x13, .int 999] [] (ct_X6_passYears l D dA G v1 w (o5) (rf G h0 6) (S_X3.f6 S0) (rf G (rf G h0 6) 6) (S_X6.f6 (S_X3.f6 S0)) x13 (b17.w 0 99 (by decide)) 999 ((Bd.lit 999 999 (by decide)).w 999 1059 (by decide))) rfl rfl (Nat.le_of_ble_eq_true rfl) ⟨rfl, rfl⟩ ⟨Nat.le_of_ble_eq_true rfl, Nat.le_of_ble_eq_true rfl⟩ dX3_takeYears_30 (fun v20 w21 p22 => ?_)
    have ew9 : w = w21 := p22.2.2.1.1.symm
    subst ew9
    have o24 := p22.1
    have k25 : Kp G v v20 := (k6).tr p22.2.1
    have f26 : Fr G [2, 3, 107] v v20 := Fr.tr f7 (p22.2.2.2) (by decide)
    have e27 : v20 = F_X6_passYears G w v1 (rf G h0 6) (rf G (rf G h0 6) 6) x13 (999 : Int32) := (p22.2.2.1).2
    have hK : K_X3_takeYears_c2 G w h0 v20 = F_X3_takeYears G w v h0 := ((kx_X3_takeYears_2 (e14) (e27) (c11)).symm.trans hK)
    refine J_iconst E 1 dX3_takeYears_33 (by decide) ?_
    exact J_zret E hr (Bd.z (Bd.lit 1 1 (by decide)) (by decide)) dX3_takeYears_34 ⟨o24, k25, ((Bd.lit 1 1 (by decide)).w 0 1 (by decide)), ⟨⟨rfl, ((kx_X3_takeYears_3).symm.trans hK)⟩, f26⟩⟩
  · have b28 : Bd x4 0 0 := Bd.eq_l c11 b8 (Bd.lit 0 0 (by decide)) 0 0 (by decide)
    refine J_iconst E 0 dX3_takeYears_10 (by decide) ?_
    exact J_zret E hr (Bd.z (Bd.lit 0 0 (by decide)) (by decide)) dX3_takeYears_11 ⟨o5, k6, ((Bd.lit 0 0 (by decide)).w 0 1 (by decide)), ⟨⟨rfl, ((kx_X3_takeYears_4 (c11)).symm.trans hK)⟩, f7⟩⟩

def K_X3_takeStop_c1 (G : Gm) (w : Mw) (h0 : Nat) (v1 : Mv) : Int32 × Mv :=
  if (v1 h0 3) = (3 : Int32) then (((1 : Int32), v1)) else (((0 : Int32), v1))
def K_X3_takeStop_e (G : Gm) (w : Mw) (v : Mv) (h0 : Nat) : Int32 × Mv :=
  K_X3_takeStop_c1 G w h0 (F_X3_nextToken G w v h0)
def F_X3_takeStop (G : Gm) (w : Mw) (v : Mv) (h0 : Nat) : Int32 × Mv := K_X3_takeStop_e G w v h0
set_option maxRecDepth 100000 in
theorem kx_X3_takeStop_1 {G : Gm} {w : Mw} {v : Mv} {h0 : Nat} {v1 : Mv} (a0 : v1 = F_X3_nextToken G w v h0)  : K_X3_takeStop_e G w v h0 = K_X3_takeStop_c1 G w h0 v1 := by
  subst a0; first | rw [K_X3_takeStop_e] | simp only [K_X3_takeStop_e]
set_option maxRecDepth 100000 in
theorem kx_X3_takeStop_2 {G : Gm} {w : Mw} {h0 : Nat} {v1 : Mv} {x9 : Int32} (a0 : x9 = v1 h0 3) (k0 : ¬ (x9 = (3 : Int32))) : K_X3_takeStop_c1 G w h0 v1 = ((0 : Int32), v1) := by
  subst a0; first | rw [K_X3_takeStop_c1, if_neg k0] | simp only [K_X3_takeStop_c1, if_neg k0]
set_option maxRecDepth 100000 in
theorem kx_X3_takeStop_3 {G : Gm} {w : Mw} {h0 : Nat} {v1 : Mv} {x9 : Int32} (a0 : x9 = v1 h0 3) (k0 : x9 = (3 : Int32)) : K_X3_takeStop_c1 G w h0 v1 = ((1 : Int32), v1) := by
  subst a0; first | rw [K_X3_takeStop_c1, if_pos k0] | simp only [K_X3_takeStop_c1, if_pos k0]
abbrev rm_X3_takeStop : Room := { frames := 3, cells := 0, slots := 0, locals := 64 }
set_option maxHeartbeats 4000000 in
set_option maxRecDepth 100000 in
theorem ct_X3_takeStop (l : Launch) (D : va_G) (dA : Nat → ClassId) (G : Gm) (v : Mv) (w : Mw) (hOk : Ok G v w) (h0 : Nat) (S0 : S_X3 G h0) : CtI l yX3_takeStop cX3_takeStop 1 (some .boolean) rm_X3_takeStop D dA G [.ref h0] v w (fun r v1 w1 => Ok G v1 w1 ∧ Kp G v v1 ∧ Bd r 0 1 ∧ (w1 = w ∧ (r, v1) = F_X3_takeStop G w v h0) ∧ Fr G [3] v v1) := by
  refine CtI.of RX3 [(0, .ref h0)] (Nat.le_of_ble_eq_true rfl) rfl (by decide) rfl ?_
  intro p e s m args below meth c E hr
  have hK : K_X3_takeStop_e G w v h0 = F_X3_takeStop G w v h0 := rfl
  refine J_aload_n E dX3_takeStop_0 0 rfl ?_
  refine J_callVV E cal_X3_nextToken wd405 rfl (S_X3.h S0) [] [] (ct_X3_nextToken l D dA G v w (hOk) h0 S0) rfl rfl (Nat.le_of_ble_eq_true rfl) ⟨rfl, rfl⟩ ⟨Nat.le_of_ble_eq_true rfl, Nat.le_of_ble_eq_true rfl⟩ dX3_takeStop_1 (fun v1 w2 p3 => ?_)
  have ew9 : w = w2 := p3.2.2.1.1.symm
  subst ew9
  have o5 := p3.1
  have k6 : Kp G v v1 := (Kp.rf).tr p3.2.1
  have f7 : Fr G [3] v v1 := Fr.tr Fr.rf (p3.2.2.2) (by decide)
  have e8 : v1 = F_X3_nextToken G w v h0 := (p3.2.2.1).2
  have hK : K_X3_takeStop_c1 G w h0 v1 = F_X3_takeStop G w v h0 := ((kx_X3_takeStop_1 (e8)).symm.trans hK)
  refine J_aload_n E dX3_takeStop_4 0 rfl ?_
  refine J_getI E in_X3 rfl (S_X3.h S0) 3 (by decide) wd256 rfl dX3_takeStop_5 (fun x9 e10 => ?_)
  refine J_iconst E 3 dX3_takeStop_8 (by decide) ?_
  refine J_icmp_ne E 16 dX3_takeStop_9 (by decide) (fun c11 => ?_) (fun c11 => ?_)
  · refine J_iconst E 0 dX3_takeStop_16 (by decide) ?_
    exact J_zret E hr (Bd.z (Bd.lit 0 0 (by decide)) (by decide)) dX3_takeStop_17 ⟨o5, k6, ((Bd.lit 0 0 (by decide)).w 0 1 (by decide)), ⟨⟨rfl, ((kx_X3_takeStop_2 (e10) (c11)).symm.trans hK)⟩, f7⟩⟩
  · have b12 : Bd x9 3 3 := Bd.eq_l c11 (Bd.any x9) (Bd.lit 3 3 (by decide)) 3 3 (by decide)
    refine J_iconst E 1 dX3_takeStop_12 (by decide) ?_
    refine J_goto E 17 dX3_takeStop_13 (by decide) ?_
    exact J_zret E hr (Bd.z (Bd.lit 1 1 (by decide)) (by decide)) dX3_takeStop_17 ⟨o5, k6, ((Bd.lit 1 1 (by decide)).w 0 1 (by decide)), ⟨⟨rfl, ((kx_X3_takeStop_3 (e10) (c11)).symm.trans hK)⟩, f7⟩⟩

def K_X4_isFull_5_e (G : Gm) (w : Mw) (v : Mv) (h0 : Nat) : Int32 :=
  if (v h0 2) < (v h0 0) then ((0 : Int32)) else ((1 : Int32))
def F_X4_isFull_5 (G : Gm) (w : Mw) (v : Mv) (h0 : Nat) : Int32 := K_X4_isFull_5_e G w v h0
set_option maxRecDepth 100000 in
theorem kx_X4_isFull_5_1 {G : Gm} {w : Mw} {v : Mv} {h0 : Nat} {x1 : Int32} {x4 : Int32} (a0 : x1 = v h0 2) (a1 : x4 = v h0 0) (k0 : x1 < x4) : K_X4_isFull_5_e G w v h0 = (0 : Int32) := by
  subst a1; subst a0; first | rw [K_X4_isFull_5_e, if_pos k0] | simp only [K_X4_isFull_5_e, if_pos k0]
set_option maxRecDepth 100000 in
theorem kx_X4_isFull_5_2 {G : Gm} {w : Mw} {v : Mv} {h0 : Nat} {x1 : Int32} {x4 : Int32} (a0 : x1 = v h0 2) (a1 : x4 = v h0 0) (k0 : ¬ (x1 < x4)) : K_X4_isFull_5_e G w v h0 = (1 : Int32) := by
  subst a1; subst a0; first | rw [K_X4_isFull_5_e, if_neg k0] | simp only [K_X4_isFull_5_e, if_neg k0]
abbrev rm_X4_isFull_5 : Room := { frames := 0, cells := 0, slots := 0, locals := 0 }
set_option maxHeartbeats 4000000 in
set_option maxRecDepth 100000 in
theorem ct_X4_isFull_5 (l : Launch) (D : va_G) (dA : Nat → ClassId) (G : Gm) (v : Mv) (w : Mw) (hOk : Ok G v w) (h0 : Nat) (S0 : S_X4 G h0 5) : CtI l yX4_isFull cX4_isFull 1 (some .boolean) rm_X4_isFull_5 D dA G [.ref h0] v w (fun r v1 w1 => v1 = v ∧ w1 = w ∧ Bd r 0 1 ∧ (¬ r = 0 ∨ Bd (v h0 2) 0 4) ∧ r = F_X4_isFull_5 G w v h0) := by
  refine CtI.of RX4 [(0, .ref h0)] (Nat.le_of_ble_eq_true rfl) rfl (by decide) rfl ?_
  intro p e s m args below meth c E hr
  have hK : K_X4_isFull_5_e G w v h0 = F_X4_isFull_5 G w v h0 := rfl
  refine J_aload_n E dX4_isFull_0 0 rfl ?_
  refine J_getI E in_X4 rfl (S_X4.h S0) 2 (by decide) wd181 rfl dX4_isFull_1 (fun x1 e2 => ?_)
  have b3 : Bd x1 0 5 := Ok.fd hOk e2 (S_X4.h S0) rfl
  refine J_aload_n E dX4_isFull_4 0 rfl ?_
  refine J_getI E in_X4 rfl (S_X4.h S0) 0 (by decide) wd179 rfl dX4_isFull_5 (fun x4 e5 => ?_)
  have b6 : Bd x4 5 5 := Ok.fd hOk e5 (S_X4.h S0) rfl
  refine J_icmp_lt E 15 dX4_isFull_8 (by decide) (fun c7 => ?_) (fun c7 => ?_)
  · have b8 : Bd x1 0 4 := Bd.lt_l c7 b3 b6 4 (by decide)
    refine J_iconst E 0 dX4_isFull_15 (by decide) ?_
    exact J_zret E hr (Bd.z (Bd.lit 0 0 (by decide)) (by decide)) dX4_isFull_16 ⟨rfl, rfl, ((Bd.lit 0 0 (by decide)).w 0 1 (by decide)), ⟨(Or.inr (Bd.e b8 (e2).symm)), ((kx_X4_isFull_5_1 (e2) (e5) (c7)).symm.trans hK)⟩⟩
  · have b9 : Bd x1 5 5 := Bd.le_r (nlt c7) b6 b3 5 (by decide)
    refine J_iconst E 1 dX4_isFull_11 (by decide) ?_
    refine J_goto E 16 dX4_isFull_12 (by decide) ?_
    exact J_zret E hr (Bd.z (Bd.lit 1 1 (by decide)) (by decide)) dX4_isFull_16 ⟨rfl, rfl, ((Bd.lit 1 1 (by decide)).w 0 1 (by decide)), ⟨(Or.inl (by decide)), ((kx_X4_isFull_5_2 (e2) (e5) (c7)).symm.trans hK)⟩⟩

def K_X4_isFull_6_e (G : Gm) (w : Mw) (v : Mv) (h0 : Nat) : Int32 :=
  if (v h0 2) < (v h0 0) then ((0 : Int32)) else ((1 : Int32))
def F_X4_isFull_6 (G : Gm) (w : Mw) (v : Mv) (h0 : Nat) : Int32 := K_X4_isFull_6_e G w v h0
set_option maxRecDepth 100000 in
theorem kx_X4_isFull_6_1 {G : Gm} {w : Mw} {v : Mv} {h0 : Nat} {x1 : Int32} {x4 : Int32} (a0 : x1 = v h0 2) (a1 : x4 = v h0 0) (k0 : x1 < x4) : K_X4_isFull_6_e G w v h0 = (0 : Int32) := by
  subst a1; subst a0; first | rw [K_X4_isFull_6_e, if_pos k0] | simp only [K_X4_isFull_6_e, if_pos k0]
set_option maxRecDepth 100000 in
theorem kx_X4_isFull_6_2 {G : Gm} {w : Mw} {v : Mv} {h0 : Nat} {x1 : Int32} {x4 : Int32} (a0 : x1 = v h0 2) (a1 : x4 = v h0 0) (k0 : ¬ (x1 < x4)) : K_X4_isFull_6_e G w v h0 = (1 : Int32) := by
  subst a1; subst a0; first | rw [K_X4_isFull_6_e, if_neg k0] | simp only [K_X4_isFull_6_e, if_neg k0]
abbrev rm_X4_isFull_6 : Room := { frames := 0, cells := 0, slots := 0, locals := 0 }
set_option maxHeartbeats 4000000 in
set_option maxRecDepth 100000 in
theorem ct_X4_isFull_6 (l : Launch) (D : va_G) (dA : Nat → ClassId) (G : Gm) (v : Mv) (w : Mw) (hOk : Ok G v w) (h0 : Nat) (S0 : S_X4 G h0 6) : CtI l yX4_isFull cX4_isFull 1 (some .boolean) rm_X4_isFull_6 D dA G [.ref h0] v w (fun r v1 w1 => v1 = v ∧ w1 = w ∧ Bd r 0 1 ∧ (¬ r = 0 ∨ Bd (v h0 2) 0 5) ∧ r = F_X4_isFull_6 G w v h0) := by
  refine CtI.of RX4 [(0, .ref h0)] (Nat.le_of_ble_eq_true rfl) rfl (by decide) rfl ?_
  intro p e s m args below meth c E hr
  have hK : K_X4_isFull_6_e G w v h0 = F_X4_isFull_6 G w v h0 := rfl
  refine J_aload_n E dX4_isFull_0 0 rfl ?_
  refine J_getI E in_X4 rfl (S_X4.h S0) 2 (by decide) wd181 rfl dX4_isFull_1 (fun x1 e2 => ?_)
  have b3 : Bd x1 0 6 := Ok.fd hOk e2 (S_X4.h S0) rfl
  refine J_aload_n E dX4_isFull_4 0 rfl ?_
  refine J_getI E in_X4 rfl (S_X4.h S0) 0 (by decide) wd179 rfl dX4_isFull_5 (fun x4 e5 => ?_)
  have b6 : Bd x4 6 6 := Ok.fd hOk e5 (S_X4.h S0) rfl
  refine J_icmp_lt E 15 dX4_isFull_8 (by decide) (fun c7 => ?_) (fun c7 => ?_)
  · have b8 : Bd x1 0 5 := Bd.lt_l c7 b3 b6 5 (by decide)
    refine J_iconst E 0 dX4_isFull_15 (by decide) ?_
    exact J_zret E hr (Bd.z (Bd.lit 0 0 (by decide)) (by decide)) dX4_isFull_16 ⟨rfl, rfl, ((Bd.lit 0 0 (by decide)).w 0 1 (by decide)), ⟨(Or.inr (Bd.e b8 (e2).symm)), ((kx_X4_isFull_6_1 (e2) (e5) (c7)).symm.trans hK)⟩⟩
  · have b9 : Bd x1 6 6 := Bd.le_r (nlt c7) b6 b3 6 (by decide)
    refine J_iconst E 1 dX4_isFull_11 (by decide) ?_
    refine J_goto E 16 dX4_isFull_12 (by decide) ?_
    exact J_zret E hr (Bd.z (Bd.lit 1 1 (by decide)) (by decide)) dX4_isFull_16 ⟨rfl, rfl, ((Bd.lit 1 1 (by decide)).w 0 1 (by decide)), ⟨(Or.inl (by decide)), ((kx_X4_isFull_6_2 (e2) (e5) (c7)).symm.trans hK)⟩⟩

def K_X4_add_5_e (G : Gm) (w : Mw) (v : Mv) (h0 : Nat) (x_0 : Int32) (x_1 : Int32) (x_2 : Int32) (x_3 : Int32) : Int32 × Mv :=
  (((v h0 2) + (1 : Int32)), (stv (stv (stv (stv (stv v (rf G h0 1) (Int32.toNatClampNeg ((4 : Int32) * (v h0 2))) x_0) (rf G h0 1) (Int32.toNatClampNeg (((4 : Int32) * (v h0 2)) + (1 : Int32))) x_1) (rf G h0 1) (Int32.toNatClampNeg (((4 : Int32) * (v h0 2)) + (2 : Int32))) x_2) (rf G h0 1) (Int32.toNatClampNeg (((4 : Int32) * (v h0 2)) + (3 : Int32))) x_3) h0 2 ((v h0 2) + (1 : Int32))))
def F_X4_add_5 (G : Gm) (w : Mw) (v : Mv) (h0 : Nat) (x_0 : Int32) (x_1 : Int32) (x_2 : Int32) (x_3 : Int32) : Int32 × Mv := K_X4_add_5_e G w v h0 x_0 x_1 x_2 x_3
set_option maxRecDepth 100000 in
theorem kx_X4_add_5_1 {G : Gm} {w : Mw} {v : Mv} {h0 : Nat} {x_0 : Int32} {x_1 : Int32} {x_2 : Int32} {x_3 : Int32} {x41 : Int32} {v44 : Mv} {z_0 : Int32} {x3 : Int32} {v6 : Mv} {x12 : Int32} {v15 : Mv} {x21 : Int32} {v24 : Mv} {x30 : Int32} {v33 : Mv} (a0 : z_0 = v h0 2) (a1 : x3 = (4 : Int32) * z_0) (a2 : v6 = stv v (rf G h0 1) (Int32.toNatClampNeg x3) x_0) (a3 : x12 = x3 + (1 : Int32)) (a4 : v15 = stv v6 (rf G h0 1) (Int32.toNatClampNeg x12) x_1) (a5 : x21 = x3 + (2 : Int32)) (a6 : v24 = stv v15 (rf G h0 1) (Int32.toNatClampNeg x21) x_2) (a7 : x30 = x3 + (3 : Int32)) (a8 : v33 = stv v24 (rf G h0 1) (Int32.toNatClampNeg x30) x_3) (a9 : x41 = z_0 + (1 : Int32)) (a10 : v44 = stv v33 h0 2 x41)  : K_X4_add_5_e G w v h0 x_0 x_1 x_2 x_3 = (x41, v44) := by
  subst a10; subst a9; subst a8; subst a7; subst a6; subst a5; subst a4; subst a3; subst a2; subst a1; subst a0; first | rw [K_X4_add_5_e] | simp only [K_X4_add_5_e]
abbrev rm_X4_add_5 : Room := { frames := 0, cells := 0, slots := 0, locals := 0 }
set_option maxHeartbeats 4000000 in
set_option maxRecDepth 100000 in
theorem ct_X4_add_5 (l : Launch) (D : va_G) (dA : Nat → ClassId) (G : Gm) (v : Mv) (w : Mw) (hOk : Ok G v w) (h0 : Nat) (S0 : S_X4 G h0 5) (x_0 : Int32) (bx_0 : Bd x_0 0 6) (x_1 : Int32) (bx_1 : Bd x_1 0 99) (x_2 : Int32) (bx_2 : Bd x_2 0 60) (x_3 : Int32) (bx_3 : Bd x_3 0 1) (z_0 : Int32) (ez_0 : z_0 = v h0 2) (pre0 : Bd z_0 0 4) : CtI l yX4_add cX4_add 6 (some .int) rm_X4_add_5 D dA G [.ref h0, .int x_0, .int x_1, .int x_2, .int x_3] v w (fun r v1 w1 => Ok G v1 w1 ∧ True ∧ Bd r 1 5 ∧ (w1 = w ∧ (r, v1) = F_X4_add_5 G w v h0 x_0 x_1 x_2 x_3) ∧ Fr G [4, 120, 124] v v1) := by
  refine CtI.of RX4 [(0, .ref h0), (1, .int x_0), (2, .int x_1), (3, .int x_2), (4, .int x_3)] (Nat.le_of_ble_eq_true rfl) rfl (by decide) rfl ?_
  intro p e s m args below meth c E hr
  have hK : K_X4_add_5_e G w v h0 x_0 x_1 x_2 x_3 = F_X4_add_5 G w v h0 x_0 x_1 x_2 x_3 := rfl
  refine J_iconst E 4 dX4_add_0 (by decide) ?_
  refine J_aload_n E dX4_add_1 0 rfl ?_
  refine J_getI E in_X4 rfl (S_X4.h S0) 2 (by decide) wd181 rfl dX4_add_2 (fun x1 e2 => ?_)
  rw [show x1 = z_0 from e2.trans (ez_0).symm]
  refine J_imul E dX4_add_5 (fun x3 e4 => ?_)
  have b5 : Bd x3 0 16 := Bd.mul e4 (Bd.lit 4 4 (by decide)) pre0 (by decide)
  refine J_istore E [(5, .int x3), (0, .ref h0), (1, .int x_0), (2, .int x_1), (3, .int x_2), (4, .int x_3)] dX4_add_6 (by decide) rfl ?_
  refine J_aload_n E dX4_add_8 1 rfl ?_
  refine J_getR E in_X4 rfl (S_X4.h S0) 1 (by decide) wd180 rfl dX4_add_9 ?_
  refine J_iload E dX4_add_12 0 rfl ?_
  refine J_iload_n E dX4_add_14 2 rfl ?_
  refine J_iast1 E (S_X4.f1 S0) (Bd.in b5 (by decide)) dX4_add_15 (fun v6 e7 => ?_)
  have o8 : Ok G v6 w := by rw [e7]; exact Ok.sw hOk (S_X4.f1 S0) b5 bx_0 0 17 (by decide) (by decide +kernel)
  have k9 : True := trivial
  have f10 : Fr G [4, 120, 124] v v6 := Fr.st Fr.rf e7 (S_X4.f1 S0) rfl
  have e11 : z_0 = v6 h0 2 := by rw [e7, stv_a (tg_ne (S_X4.h S0) ((S_X4.f1 S0)) rfl)]; exact ez_0
  refine J_aload_n E dX4_add_16 1 rfl ?_
  refine J_getR E in_X4 rfl (S_X4.h S0) 1 (by decide) wd180 rfl dX4_add_17 ?_
  refine J_iload E dX4_add_20 0 rfl ?_
  refine J_iconst E 1 dX4_add_22 (by decide) ?_
  refine J_iadd E dX4_add_23 (fun x12 e13 => ?_)
  have b14 : Bd x12 1 17 := (Bd.add e13 b5 (Bd.lit 1 1 (by decide)) (by decide)).w _ _ (by decide)
  refine J_iload_n E dX4_add_24 3 rfl ?_
  refine J_iast1 E (S_X4.f1 S0) (Bd.in b14 (by decide)) dX4_add_25 (fun v15 e16 => ?_)
  have o17 : Ok G v15 w := by rw [e16]; exact Ok.sw o8 (S_X4.f1 S0) b14 bx_1 1 17 (by decide) (by decide +kernel)
  have k18 : True := trivial
  have f19 : Fr G [4, 120, 124] v v15 := Fr.st f10 e16 (S_X4.f1 S0) rfl
  have e20 : z_0 = v15 h0 2 := by rw [e16, stv_a (tg_ne (S_X4.h S0) ((S_X4.f1 S0)) rfl)]; exact e11
  refine J_aload_n E dX4_add_26 1 rfl ?_
  refine J_getR E in_X4 rfl (S_X4.h S0) 1 (by decide) wd180 rfl dX4_add_27 ?_
  refine J_iload E dX4_add_30 0 rfl ?_
  refine J_iconst E 2 dX4_add_32 (by decide) ?_
  refine J_iadd E dX4_add_33 (fun x21 e22 => ?_)
  have b23 : Bd x21 2 18 := (Bd.add e22 b5 (Bd.lit 2 2 (by decide)) (by decide)).w _ _ (by decide)
  refine J_iload_n E dX4_add_34 4 rfl ?_
  refine J_iast1 E (S_X4.f1 S0) (Bd.in b23 (by decide)) dX4_add_35 (fun v24 e25 => ?_)
  have o26 : Ok G v24 w := by rw [e25]; exact Ok.sw o17 (S_X4.f1 S0) b23 bx_2 2 17 (by decide) (by decide +kernel)
  have k27 : True := trivial
  have f28 : Fr G [4, 120, 124] v v24 := Fr.st f19 e25 (S_X4.f1 S0) rfl
  have e29 : z_0 = v24 h0 2 := by rw [e25, stv_a (tg_ne (S_X4.h S0) ((S_X4.f1 S0)) rfl)]; exact e20
  refine J_aload_n E dX4_add_36 1 rfl ?_
  refine J_getR E in_X4 rfl (S_X4.h S0) 1 (by decide) wd180 rfl dX4_add_37 ?_
  refine J_iload E dX4_add_40 0 rfl ?_
  refine J_iconst E 3 dX4_add_42 (by decide) ?_
  refine J_iadd E dX4_add_43 (fun x30 e31 => ?_)
  have b32 : Bd x30 3 19 := (Bd.add e31 b5 (Bd.lit 3 3 (by decide)) (by decide)).w _ _ (by decide)
  refine J_iload E dX4_add_44 5 rfl ?_
  refine J_iast1 E (S_X4.f1 S0) (Bd.in b32 (by decide)) dX4_add_46 (fun v33 e34 => ?_)
  have o35 : Ok G v33 w := by rw [e34]; exact Ok.sw o26 (S_X4.f1 S0) b32 bx_3 3 17 (by decide) (by decide +kernel)
  have k36 : True := trivial
  have f37 : Fr G [4, 120, 124] v v33 := Fr.st f28 e34 (S_X4.f1 S0) rfl
  have e38 : z_0 = v33 h0 2 := by rw [e34, stv_a (tg_ne (S_X4.h S0) ((S_X4.f1 S0)) rfl)]; exact e29
  refine J_aload_n E dX4_add_47 1 rfl ?_
  refine J_dup E dX4_add_48 rfl ?_
  refine J_getI E in_X4 rfl (S_X4.h S0) 2 (by decide) wd181 rfl dX4_add_49 (fun x39 e40 => ?_)
  rw [show x39 = z_0 from e40.trans (e38).symm]
  refine J_iconst E 1 dX4_add_52 (by decide) ?_
  refine J_iadd E dX4_add_53 (fun x41 e42 => ?_)
  have b43 : Bd x41 1 5 := (Bd.add e42 pre0 (Bd.lit 1 1 (by decide)) (by decide)).w _ _ (by decide)
  refine J_pI E in_X4 rfl (S_X4.h S0) 2 (by decide) wd181 tyX4 tyX4_ok nmX4 rfl rfl .int (by decide +kernel) rfl rfl dX4_add_54 (fun v44 e45 => ?_)
  have o46 : Ok G v44 w := Ok.pf o35 e45 (S_X4.h S0) rfl (b43.w 0 5 (by decide))
  have f48 : Fr G [4, 120, 124] v v44 := Fr.st f37 e45 (S_X4.h S0) rfl
  have e49 : x41 = v44 h0 2 := by rw [e45, stv_s]
  refine J_aload_n E dX4_add_57 1 rfl ?_
  refine J_getI E in_X4 rfl (S_X4.h S0) 2 (by decide) wd181 rfl dX4_add_58 (fun x50 e51 => ?_)
  rw [show x50 = x41 from e51.trans (e49).symm]
  exact J_iret E hr dX4_add_61 ⟨o46, trivial, b43, ⟨⟨rfl, ((kx_X4_add_5_1 (ez_0) (e4) (e7) (e13) (e16) (e22) (e25) (e31) (e34) (e42) (e45)).symm.trans hK)⟩, f48⟩⟩

def K_X4_add_6_e (G : Gm) (w : Mw) (v : Mv) (h0 : Nat) (x_0 : Int32) (x_1 : Int32) (x_2 : Int32) (x_3 : Int32) : Int32 × Mv :=
  (((v h0 2) + (1 : Int32)), (stv (stv (stv (stv (stv v (rf G h0 1) (Int32.toNatClampNeg ((4 : Int32) * (v h0 2))) x_0) (rf G h0 1) (Int32.toNatClampNeg (((4 : Int32) * (v h0 2)) + (1 : Int32))) x_1) (rf G h0 1) (Int32.toNatClampNeg (((4 : Int32) * (v h0 2)) + (2 : Int32))) x_2) (rf G h0 1) (Int32.toNatClampNeg (((4 : Int32) * (v h0 2)) + (3 : Int32))) x_3) h0 2 ((v h0 2) + (1 : Int32))))
def F_X4_add_6 (G : Gm) (w : Mw) (v : Mv) (h0 : Nat) (x_0 : Int32) (x_1 : Int32) (x_2 : Int32) (x_3 : Int32) : Int32 × Mv := K_X4_add_6_e G w v h0 x_0 x_1 x_2 x_3
set_option maxRecDepth 100000 in
theorem kx_X4_add_6_1 {G : Gm} {w : Mw} {v : Mv} {h0 : Nat} {x_0 : Int32} {x_1 : Int32} {x_2 : Int32} {x_3 : Int32} {x41 : Int32} {v44 : Mv} {z_0 : Int32} {x3 : Int32} {v6 : Mv} {x12 : Int32} {v15 : Mv} {x21 : Int32} {v24 : Mv} {x30 : Int32} {v33 : Mv} (a0 : z_0 = v h0 2) (a1 : x3 = (4 : Int32) * z_0) (a2 : v6 = stv v (rf G h0 1) (Int32.toNatClampNeg x3) x_0) (a3 : x12 = x3 + (1 : Int32)) (a4 : v15 = stv v6 (rf G h0 1) (Int32.toNatClampNeg x12) x_1) (a5 : x21 = x3 + (2 : Int32)) (a6 : v24 = stv v15 (rf G h0 1) (Int32.toNatClampNeg x21) x_2) (a7 : x30 = x3 + (3 : Int32)) (a8 : v33 = stv v24 (rf G h0 1) (Int32.toNatClampNeg x30) x_3) (a9 : x41 = z_0 + (1 : Int32)) (a10 : v44 = stv v33 h0 2 x41)  : K_X4_add_6_e G w v h0 x_0 x_1 x_2 x_3 = (x41, v44) := by
  subst a10; subst a9; subst a8; subst a7; subst a6; subst a5; subst a4; subst a3; subst a2; subst a1; subst a0; first | rw [K_X4_add_6_e] | simp only [K_X4_add_6_e]
abbrev rm_X4_add_6 : Room := { frames := 0, cells := 0, slots := 0, locals := 0 }
set_option maxHeartbeats 4000000 in
set_option maxRecDepth 100000 in
theorem ct_X4_add_6 (l : Launch) (D : va_G) (dA : Nat → ClassId) (G : Gm) (v : Mv) (w : Mw) (hOk : Ok G v w) (h0 : Nat) (S0 : S_X4 G h0 6) (x_0 : Int32) (bx_0 : Bd x_0 0 6) (x_1 : Int32) (bx_1 : Bd x_1 1 30) (x_2 : Int32) (bx_2 : Bd x_2 0 99) (x_3 : Int32) (bx_3 : Bd x_3 0 99) (z_0 : Int32) (ez_0 : z_0 = v h0 2) (pre0 : Bd z_0 0 5) : CtI l yX4_add cX4_add 6 (some .int) rm_X4_add_6 D dA G [.ref h0, .int x_0, .int x_1, .int x_2, .int x_3] v w (fun r v1 w1 => Ok G v1 w1 ∧ True ∧ Bd r 1 6 ∧ (w1 = w ∧ (r, v1) = F_X4_add_6 G w v h0 x_0 x_1 x_2 x_3) ∧ Fr G [4, 120, 124] v v1) := by
  refine CtI.of RX4 [(0, .ref h0), (1, .int x_0), (2, .int x_1), (3, .int x_2), (4, .int x_3)] (Nat.le_of_ble_eq_true rfl) rfl (by decide) rfl ?_
  intro p e s m args below meth c E hr
  have hK : K_X4_add_6_e G w v h0 x_0 x_1 x_2 x_3 = F_X4_add_6 G w v h0 x_0 x_1 x_2 x_3 := rfl
  refine J_iconst E 4 dX4_add_0 (by decide) ?_
  refine J_aload_n E dX4_add_1 0 rfl ?_
  refine J_getI E in_X4 rfl (S_X4.h S0) 2 (by decide) wd181 rfl dX4_add_2 (fun x1 e2 => ?_)
  rw [show x1 = z_0 from e2.trans (ez_0).symm]
  refine J_imul E dX4_add_5 (fun x3 e4 => ?_)
  have b5 : Bd x3 0 20 := Bd.mul e4 (Bd.lit 4 4 (by decide)) pre0 (by decide)
  refine J_istore E [(5, .int x3), (0, .ref h0), (1, .int x_0), (2, .int x_1), (3, .int x_2), (4, .int x_3)] dX4_add_6 (by decide) rfl ?_
  refine J_aload_n E dX4_add_8 1 rfl ?_
  refine J_getR E in_X4 rfl (S_X4.h S0) 1 (by decide) wd180 rfl dX4_add_9 ?_
  refine J_iload E dX4_add_12 0 rfl ?_
  refine J_iload_n E dX4_add_14 2 rfl ?_
  refine J_iast1 E (S_X4.f1 S0) (Bd.in b5 (by decide)) dX4_add_15 (fun v6 e7 => ?_)
  have o8 : Ok G v6 w := by rw [e7]; exact Ok.sw hOk (S_X4.f1 S0) b5 bx_0 0 21 (by decide) (by decide +kernel)
  have k9 : True := trivial
  have f10 : Fr G [4, 120, 124] v v6 := Fr.st Fr.rf e7 (S_X4.f1 S0) rfl
  have e11 : z_0 = v6 h0 2 := by rw [e7, stv_a (tg_ne (S_X4.h S0) ((S_X4.f1 S0)) rfl)]; exact ez_0
  refine J_aload_n E dX4_add_16 1 rfl ?_
  refine J_getR E in_X4 rfl (S_X4.h S0) 1 (by decide) wd180 rfl dX4_add_17 ?_
  refine J_iload E dX4_add_20 0 rfl ?_
  refine J_iconst E 1 dX4_add_22 (by decide) ?_
  refine J_iadd E dX4_add_23 (fun x12 e13 => ?_)
  have b14 : Bd x12 1 21 := (Bd.add e13 b5 (Bd.lit 1 1 (by decide)) (by decide)).w _ _ (by decide)
  refine J_iload_n E dX4_add_24 3 rfl ?_
  refine J_iast1 E (S_X4.f1 S0) (Bd.in b14 (by decide)) dX4_add_25 (fun v15 e16 => ?_)
  have o17 : Ok G v15 w := by rw [e16]; exact Ok.sw o8 (S_X4.f1 S0) b14 bx_1 1 21 (by decide) (by decide +kernel)
  have k18 : True := trivial
  have f19 : Fr G [4, 120, 124] v v15 := Fr.st f10 e16 (S_X4.f1 S0) rfl
  have e20 : z_0 = v15 h0 2 := by rw [e16, stv_a (tg_ne (S_X4.h S0) ((S_X4.f1 S0)) rfl)]; exact e11
  refine J_aload_n E dX4_add_26 1 rfl ?_
  refine J_getR E in_X4 rfl (S_X4.h S0) 1 (by decide) wd180 rfl dX4_add_27 ?_
  refine J_iload E dX4_add_30 0 rfl ?_
  refine J_iconst E 2 dX4_add_32 (by decide) ?_
  refine J_iadd E dX4_add_33 (fun x21 e22 => ?_)
  have b23 : Bd x21 2 22 := (Bd.add e22 b5 (Bd.lit 2 2 (by decide)) (by decide)).w _ _ (by decide)
  refine J_iload_n E dX4_add_34 4 rfl ?_
  refine J_iast1 E (S_X4.f1 S0) (Bd.in b23 (by decide)) dX4_add_35 (fun v24 e25 => ?_)
  have o26 : Ok G v24 w := by rw [e25]; exact Ok.sw o17 (S_X4.f1 S0) b23 bx_2 2 21 (by decide) (by decide +kernel)
  have k27 : True := trivial
  have f28 : Fr G [4, 120, 124] v v24 := Fr.st f19 e25 (S_X4.f1 S0) rfl
  have e29 : z_0 = v24 h0 2 := by rw [e25, stv_a (tg_ne (S_X4.h S0) ((S_X4.f1 S0)) rfl)]; exact e20
  refine J_aload_n E dX4_add_36 1 rfl ?_
  refine J_getR E in_X4 rfl (S_X4.h S0) 1 (by decide) wd180 rfl dX4_add_37 ?_
  refine J_iload E dX4_add_40 0 rfl ?_
  refine J_iconst E 3 dX4_add_42 (by decide) ?_
  refine J_iadd E dX4_add_43 (fun x30 e31 => ?_)
  have b32 : Bd x30 3 23 := (Bd.add e31 b5 (Bd.lit 3 3 (by decide)) (by decide)).w _ _ (by decide)
  refine J_iload E dX4_add_44 5 rfl ?_
  refine J_iast1 E (S_X4.f1 S0) (Bd.in b32 (by decide)) dX4_add_46 (fun v33 e34 => ?_)
  have o35 : Ok G v33 w := by rw [e34]; exact Ok.sw o26 (S_X4.f1 S0) b32 bx_3 3 21 (by decide) (by decide +kernel)
  have k36 : True := trivial
  have f37 : Fr G [4, 120, 124] v v33 := Fr.st f28 e34 (S_X4.f1 S0) rfl
  have e38 : z_0 = v33 h0 2 := by rw [e34, stv_a (tg_ne (S_X4.h S0) ((S_X4.f1 S0)) rfl)]; exact e29
  refine J_aload_n E dX4_add_47 1 rfl ?_
  refine J_dup E dX4_add_48 rfl ?_
  refine J_getI E in_X4 rfl (S_X4.h S0) 2 (by decide) wd181 rfl dX4_add_49 (fun x39 e40 => ?_)
  rw [show x39 = z_0 from e40.trans (e38).symm]
  refine J_iconst E 1 dX4_add_52 (by decide) ?_
  refine J_iadd E dX4_add_53 (fun x41 e42 => ?_)
  have b43 : Bd x41 1 6 := (Bd.add e42 pre0 (Bd.lit 1 1 (by decide)) (by decide)).w _ _ (by decide)
  refine J_pI E in_X4 rfl (S_X4.h S0) 2 (by decide) wd181 tyX4 tyX4_ok nmX4 rfl rfl .int (by decide +kernel) rfl rfl dX4_add_54 (fun v44 e45 => ?_)
  have o46 : Ok G v44 w := Ok.pf o35 e45 (S_X4.h S0) rfl (b43.w 0 6 (by decide))
  have f48 : Fr G [4, 120, 124] v v44 := Fr.st f37 e45 (S_X4.h S0) rfl
  have e49 : x41 = v44 h0 2 := by rw [e45, stv_s]
  refine J_aload_n E dX4_add_57 1 rfl ?_
  refine J_getI E in_X4 rfl (S_X4.h S0) 2 (by decide) wd181 rfl dX4_add_58 (fun x50 e51 => ?_)
  rw [show x50 = x41 from e51.trans (e49).symm]
  exact J_iret E hr dX4_add_61 ⟨o46, trivial, b43, ⟨⟨rfl, ((kx_X4_add_6_1 (ez_0) (e4) (e7) (e13) (e16) (e22) (e25) (e31) (e34) (e42) (e45)).symm.trans hK)⟩, f48⟩⟩

def K_X4_cell_5_e (G : Gm) (w : Mw) (v : Mv) (h0 : Nat) (x_0 : Int32) (x_1 : Int32) : Int32 :=
  (v (rf G h0 1) (Int32.toNatClampNeg (((4 : Int32) * x_0) + x_1)))
def F_X4_cell_5 (G : Gm) (w : Mw) (v : Mv) (h0 : Nat) (x_0 : Int32) (x_1 : Int32) : Int32 := K_X4_cell_5_e G w v h0 x_0 x_1
set_option maxRecDepth 100000 in
theorem kx_X4_cell_5_1 {G : Gm} {w : Mw} {v : Mv} {h0 : Nat} {x_0 : Int32} {x_1 : Int32} {x7 : Int32} {x1 : Int32} {x4 : Int32} (a0 : x1 = (4 : Int32) * x_0) (a1 : x4 = x1 + x_1) (a2 : x7 = v (rf G h0 1) (Int32.toNatClampNeg x4))  : K_X4_cell_5_e G w v h0 x_0 x_1 = x7 := by
  subst a2; subst a1; subst a0; first | rw [K_X4_cell_5_e] | simp only [K_X4_cell_5_e]
abbrev rm_X4_cell_5 : Room := { frames := 0, cells := 0, slots := 0, locals := 0 }
set_option maxHeartbeats 4000000 in
set_option maxRecDepth 100000 in
theorem ct_X4_cell_5 (l : Launch) (D : va_G) (dA : Nat → ClassId) (G : Gm) (v : Mv) (w : Mw) (hOk : Ok G v w) (h0 : Nat) (S0 : S_X4 G h0 5) (x_0 : Int32) (bx_0 : Bd x_0 0 4) (x_1 : Int32) (bx_1 : Bd x_1 0 3) : CtI l yX4_cell cX4_cell 3 (some .int) rm_X4_cell_5 D dA G [.ref h0, .int x_0, .int x_1] v w (fun r v1 w1 => v1 = v ∧ w1 = w ∧ True ∧ r = F_X4_cell_5 G w v h0 x_0 x_1) := by
  refine CtI.of RX4 [(0, .ref h0), (1, .int x_0), (2, .int x_1)] (Nat.le_of_ble_eq_true rfl) rfl (by decide) rfl ?_
  intro p e s m args below meth c E hr
  have hK : K_X4_cell_5_e G w v h0 x_0 x_1 = F_X4_cell_5 G w v h0 x_0 x_1 := rfl
  refine J_aload_n E dX4_cell_0 0 rfl ?_
  refine J_getR E in_X4 rfl (S_X4.h S0) 1 (by decide) wd180 rfl dX4_cell_1 ?_
  refine J_iconst E 4 dX4_cell_4 (by decide) ?_
  refine J_iload_n E dX4_cell_5 1 rfl ?_
  refine J_imul E dX4_cell_6 (fun x1 e2 => ?_)
  have b3 : Bd x1 0 16 := Bd.mul e2 (Bd.lit 4 4 (by decide)) bx_0 (by decide)
  refine J_iload_n E dX4_cell_7 2 rfl ?_
  refine J_iadd E dX4_cell_8 (fun x4 e5 => ?_)
  have b6 : Bd x4 0 19 := (Bd.add e5 b3 bx_1 (by decide)).w _ _ (by decide)
  refine J_iald1 E (S_X4.f1 S0) (Bd.in b6 (by decide)) dX4_cell_9 (fun x7 e8 => ?_)
  exact J_iret E hr dX4_cell_10 ⟨rfl, rfl, trivial, ((kx_X4_cell_5_1 (e2) (e5) (e8)).symm.trans hK)⟩

def K_X4_cell_6_e (G : Gm) (w : Mw) (v : Mv) (h0 : Nat) (x_0 : Int32) (x_1 : Int32) : Int32 :=
  (v (rf G h0 1) (Int32.toNatClampNeg (((4 : Int32) * x_0) + x_1)))
def F_X4_cell_6 (G : Gm) (w : Mw) (v : Mv) (h0 : Nat) (x_0 : Int32) (x_1 : Int32) : Int32 := K_X4_cell_6_e G w v h0 x_0 x_1
set_option maxRecDepth 100000 in
theorem kx_X4_cell_6_1 {G : Gm} {w : Mw} {v : Mv} {h0 : Nat} {x_0 : Int32} {x_1 : Int32} {x7 : Int32} {x1 : Int32} {x4 : Int32} (a0 : x1 = (4 : Int32) * x_0) (a1 : x4 = x1 + x_1) (a2 : x7 = v (rf G h0 1) (Int32.toNatClampNeg x4))  : K_X4_cell_6_e G w v h0 x_0 x_1 = x7 := by
  subst a2; subst a1; subst a0; first | rw [K_X4_cell_6_e] | simp only [K_X4_cell_6_e]
abbrev rm_X4_cell_6 : Room := { frames := 0, cells := 0, slots := 0, locals := 0 }
set_option maxHeartbeats 4000000 in
set_option maxRecDepth 100000 in
theorem ct_X4_cell_6 (l : Launch) (D : va_G) (dA : Nat → ClassId) (G : Gm) (v : Mv) (w : Mw) (hOk : Ok G v w) (h0 : Nat) (S0 : S_X4 G h0 6) (x_0 : Int32) (bx_0 : Bd x_0 0 5) (x_1 : Int32) (bx_1 : Bd x_1 0 3) : CtI l yX4_cell cX4_cell 3 (some .int) rm_X4_cell_6 D dA G [.ref h0, .int x_0, .int x_1] v w (fun r v1 w1 => v1 = v ∧ w1 = w ∧ True ∧ r = F_X4_cell_6 G w v h0 x_0 x_1) := by
  refine CtI.of RX4 [(0, .ref h0), (1, .int x_0), (2, .int x_1)] (Nat.le_of_ble_eq_true rfl) rfl (by decide) rfl ?_
  intro p e s m args below meth c E hr
  have hK : K_X4_cell_6_e G w v h0 x_0 x_1 = F_X4_cell_6 G w v h0 x_0 x_1 := rfl
  refine J_aload_n E dX4_cell_0 0 rfl ?_
  refine J_getR E in_X4 rfl (S_X4.h S0) 1 (by decide) wd180 rfl dX4_cell_1 ?_
  refine J_iconst E 4 dX4_cell_4 (by decide) ?_
  refine J_iload_n E dX4_cell_5 1 rfl ?_
  refine J_imul E dX4_cell_6 (fun x1 e2 => ?_)
  have b3 : Bd x1 0 20 := Bd.mul e2 (Bd.lit 4 4 (by decide)) bx_0 (by decide)
  refine J_iload_n E dX4_cell_7 2 rfl ?_
  refine J_iadd E dX4_cell_8 (fun x4 e5 => ?_)
  have b6 : Bd x4 0 23 := (Bd.add e5 b3 bx_1 (by decide)).w _ _ (by decide)
  refine J_iald1 E (S_X4.f1 S0) (Bd.in b6 (by decide)) dX4_cell_9 (fun x7 e8 => ?_)
  exact J_iret E hr dX4_cell_10 ⟨rfl, rfl, trivial, ((kx_X4_cell_6_1 (e2) (e5) (e8)).symm.trans hK)⟩

def K_X4_copyFrom_5_10 (G : Gm) (w : Mw) (h0 : Nat) (h_0 : Nat) : Nat → Mv → Int32 → Mv
  | 0, _, _ => (fun _ _ => 0 : Mv)
  | n10 + 1, v1, x5 =>
    if ((4 : Int32) * (v1 h0 2)) ≤ x5 then (v1) else ((K_X4_copyFrom_5_10 G w h0 h_0 n10) (stv v1 (rf G h0 1) (Int32.toNatClampNeg x5) (v1 (rf G h_0 1) (Int32.toNatClampNeg x5))) (x5 + (1 : Int32)))
def K_X4_copyFrom_5_e (G : Gm) (w : Mw) (v : Mv) (h0 : Nat) (h_0 : Nat) : Mv :=
  K_X4_copyFrom_5_10 G w h0 h_0 61 (stv v h0 2 (v h_0 2)) (0 : Int32)
def F_X4_copyFrom_5 (G : Gm) (w : Mw) (v : Mv) (h0 : Nat) (h_0 : Nat) : Mv := K_X4_copyFrom_5_e G w v h0 h_0
set_option maxRecDepth 100000 in
theorem kx_X4_copyFrom_5_1 {G : Gm} {w : Mw} {h0 : Nat} {h_0 : Nat} {n10 : Nat} {v1 : Mv} {x5 : Int32} {x7 : Int32} {x10 : Int32} (a0 : x7 = v1 h0 2) (a1 : x10 = (4 : Int32) * x7) (k0 : x10 ≤ x5) : K_X4_copyFrom_5_10 G w h0 h_0 (n10 + 1) v1 x5 = v1 := by
  subst a1; subst a0; first | rw [K_X4_copyFrom_5_10, if_pos k0] | simp only [K_X4_copyFrom_5_10, if_pos k0]
set_option maxRecDepth 100000 in
theorem kx_X4_copyFrom_5_2 {G : Gm} {w : Mw} {h0 : Nat} {h_0 : Nat} {n10 : Nat} {v1 : Mv} {x5 : Int32} {v18 : Mv} {x24 : Int32} {x7 : Int32} {x16 : Int32} {x10 : Int32} (a0 : x7 = v1 h0 2) (a1 : x10 = (4 : Int32) * x7) (a2 : x16 = v1 (rf G h_0 1) (Int32.toNatClampNeg x5)) (a3 : v18 = stv v1 (rf G h0 1) (Int32.toNatClampNeg x5) x16) (a4 : x24 = x5 + (1 : Int32)) (k0 : ¬ (x10 ≤ x5)) : K_X4_copyFrom_5_10 G w h0 h_0 (n10 + 1) v1 x5 = (K_X4_copyFrom_5_10 G w h0 h_0 n10) v18 x24 := by
  subst a4; subst a3; subst a2; subst a1; subst a0; first | rw [K_X4_copyFrom_5_10, if_neg k0] | simp only [K_X4_copyFrom_5_10, if_neg k0]
set_option maxRecDepth 100000 in
theorem kx_X4_copyFrom_5_3 {G : Gm} {w : Mw} {v : Mv} {h0 : Nat} {h_0 : Nat} {v30 : Mv} {x27 : Int32} (a0 : x27 = v h_0 2) (a1 : v30 = stv v h0 2 x27)  : K_X4_copyFrom_5_e G w v h0 h_0 = K_X4_copyFrom_5_10 G w h0 h_0 61 v30 (0 : Int32) := by
  subst a1; subst a0; first | rw [K_X4_copyFrom_5_e] | simp only [K_X4_copyFrom_5_e]
abbrev rm_X4_copyFrom_5 : Room := { frames := 0, cells := 0, slots := 0, locals := 0 }
set_option maxHeartbeats 4000000 in
set_option maxRecDepth 100000 in
theorem ct_X4_copyFrom_5 (l : Launch) (D : va_G) (dA : Nat → ClassId) (G : Gm) (v : Mv) (w : Mw) (hOk : Ok G v w) (h0 : Nat) (S0 : S_X4 G h0 5) (h_0 : Nat) (S_0 : S_X4 G h_0 5) : CtV l yX4_copyFrom cX4_copyFrom 3 none rm_X4_copyFrom_5 D dA G [.ref h0, .ref h_0] v w (fun v1 w1 => Ok G v1 w1 ∧ True ∧ (w1 = w ∧ v1 = F_X4_copyFrom_5 G w v h0 h_0) ∧ Fr G [4, 120, 124] v v1) := by
  refine CtV.of RX4 [(0, .ref h0), (1, .ref h_0)] (Nat.le_of_ble_eq_true rfl) rfl (by decide) rfl ?_
  intro p e s m args below meth c E hr
  have J10 : ∀ n10 : Nat, ∀ (v1 : Mv), Ok G v1 w → True → Fr G [4, 120, 124] v v1 → ∀ x5 : Int32, Bd x5 0 60 → Mu x5 60 n10 → K_X4_copyFrom_5_10 G w h0 h_0 n10 v1 x5 = F_X4_copyFrom_5 G w v h0 h_0 → J p l e rm_X4_copyFrom_5 s m args below meth c 0 0 (MQ below (QcV D dA G (fun v1 w1 => Ok G v1 w1 ∧ True ∧ (w1 = w ∧ v1 = F_X4_copyFrom_5 G w v h0 h_0) ∧ Fr G [4, 120, 124] v v1)) args s 0 0 (dm G)) D dA G (dm G) s.heap 3 v1 w [(0, .ref h0), (1, .ref h_0), (2, .int x5)] 10 [] := by
    intro n10
    induction n10 with
    | zero => intro v1 o2 k3 f4 x5 b6 hm hK; exact hm.zero b6 (by decide)
    | succ n10 ih10 =>
      intro v1 o2 k3 f4 x5 b6 hmu10 hK
      refine J_iload_n E dX4_copyFrom_10 2 rfl ?_
      refine J_iconst E 4 dX4_copyFrom_11 (by decide) ?_
      refine J_aload_n E dX4_copyFrom_12 0 rfl ?_
      refine J_getI E in_X4 rfl (S_X4.h S0) 2 (by decide) wd181 rfl dX4_copyFrom_13 (fun x7 e8 => ?_)
      have b9 : Bd x7 0 5 := Ok.fd o2 e8 (S_X4.h S0) rfl
      refine J_imul E dX4_copyFrom_16 (fun x10 e11 => ?_)
      have b12 : Bd x10 0 20 := Bd.mul e11 (Bd.lit 4 4 (by decide)) b9 (by decide)
      refine J_icmp_ge E 38 dX4_copyFrom_17 (by decide) (fun c13 => ?_) (fun c13 => ?_)
      · exact J_vret E hr dX4_copyFrom_38 ⟨o2, k3, ⟨⟨rfl, ((kx_X4_copyFrom_5_1 (e8) (e11) (c13)).symm.trans hK)⟩, f4⟩⟩
      · have b14 : Bd x5 0 19 := Bd.lt_l (nle c13) b6 b12 19 (by decide)
        have b15 : Bd x10 1 20 := Bd.lt_r (nle c13) b6 b12 1 (by decide)
        refine J_aload_n E dX4_copyFrom_20 0 rfl ?_
        refine J_getR E in_X4 rfl (S_X4.h S0) 1 (by decide) wd180 rfl dX4_copyFrom_21 ?_
        refine J_iload_n E dX4_copyFrom_24 2 rfl ?_
        refine J_aload_n E dX4_copyFrom_25 1 rfl ?_
        refine J_getR E in_X4 rfl (S_X4.h S_0) 1 (by decide) wd180 rfl dX4_copyFrom_26 ?_
        refine J_iload_n E dX4_copyFrom_29 2 rfl ?_
        refine J_iald1 E (S_X4.f1 S_0) (Bd.in b14 (by decide)) dX4_copyFrom_30 (fun x16 e17 => ?_)
        refine J_iast1 E (S_X4.f1 S0) (Bd.in b14 (by decide)) dX4_copyFrom_31 (fun v18 e19 => ?_)
        have o20 : Ok G v18 w := by rw [e19]; exact Ok.sw o2 (S_X4.f1 S0) b14 (Bd.any x16) 0 20 (by decide) (by decide +kernel)
        have k21 : True := trivial
        have f22 : Fr G [4, 120, 124] v v18 := Fr.st f4 e19 (S_X4.f1 S0) rfl
        have e23 : x7 = v18 h0 2 := by rw [e19, stv_a (tg_ne (S_X4.h S0) ((S_X4.f1 S0)) rfl)]; exact e8
        refine J_iinc E 2 1 (fun z => [(2, .int z), (0, .ref h0), (1, .ref h_0)]) dX4_copyFrom_32 rfl (by decide) (by decide) (fun _ => rfl) (fun x24 e25 => ?_)
        have b26 : Bd x24 1 20 := (Bd.add e25 b14 (Bd.lit 1 1 (by decide)) (by decide)).w _ _ (by decide)
        refine J_goto E 10 dX4_copyFrom_35 (by decide) ?_
        exact J.sub [1, 2, 0] rfl (ih10 v18 (o20) (k21) f22 x24 (b26.w 0 60 (by decide)) (Mu.step hmu10 e25 b14 (Bd.lit 1 1 (by decide)) (by decide)) ((kx_X4_copyFrom_5_2 (e8) (e11) (e17) (e19) (e25) (c13)).symm.trans hK))
  have hK : K_X4_copyFrom_5_e G w v h0 h_0 = F_X4_copyFrom_5 G w v h0 h_0 := rfl
  refine J_aload_n E dX4_copyFrom_0 0 rfl ?_
  refine J_aload_n E dX4_copyFrom_1 1 rfl ?_
  refine J_getI E in_X4 rfl (S_X4.h S_0) 2 (by decide) wd181 rfl dX4_copyFrom_2 (fun x27 e28 => ?_)
  have b29 : Bd x27 0 5 := Ok.fd hOk e28 (S_X4.h S_0) rfl
  refine J_pI E in_X4 rfl (S_X4.h S0) 2 (by decide) wd181 tyX4 tyX4_ok nmX4 rfl rfl .int (by decide +kernel) rfl rfl dX4_copyFrom_5 (fun v30 e31 => ?_)
  have o32 : Ok G v30 w := Ok.pf hOk e31 (S_X4.h S0) rfl b29
  have f34 : Fr G [4, 120, 124] v v30 := Fr.st Fr.rf e31 (S_X4.h S0) rfl
  have e35 : x27 = v30 h0 2 := by rw [e31, stv_s]
  refine J_iconst E 0 dX4_copyFrom_8 (by decide) ?_
  refine J_istore_n E [(2, .int 0), (0, .ref h0), (1, .ref h_0)] dX4_copyFrom_9 rfl (by decide) rfl ?_
  exact J.sub [1, 2, 0] rfl (J10 61 v30 (o32) (trivial) f34 0 ((Bd.lit 0 0 (by decide)).w 0 60 (by decide)) (Mu.start _ (Bd.lit 0 0 (by decide)) (by decide)) ((kx_X4_copyFrom_5_3 (e28) (e31)).symm.trans hK))

def K_X4_copyFrom_6_10 (G : Gm) (w : Mw) (h0 : Nat) (h_0 : Nat) : Nat → Mv → Int32 → Mv
  | 0, _, _ => (fun _ _ => 0 : Mv)
  | n10 + 1, v1, x5 =>
    if ((4 : Int32) * (v1 h0 2)) ≤ x5 then (v1) else ((K_X4_copyFrom_6_10 G w h0 h_0 n10) (stv v1 (rf G h0 1) (Int32.toNatClampNeg x5) (v1 (rf G h_0 1) (Int32.toNatClampNeg x5))) (x5 + (1 : Int32)))
def K_X4_copyFrom_6_e (G : Gm) (w : Mw) (v : Mv) (h0 : Nat) (h_0 : Nat) : Mv :=
  K_X4_copyFrom_6_10 G w h0 h_0 61 (stv v h0 2 (v h_0 2)) (0 : Int32)
def F_X4_copyFrom_6 (G : Gm) (w : Mw) (v : Mv) (h0 : Nat) (h_0 : Nat) : Mv := K_X4_copyFrom_6_e G w v h0 h_0
set_option maxRecDepth 100000 in
theorem kx_X4_copyFrom_6_1 {G : Gm} {w : Mw} {h0 : Nat} {h_0 : Nat} {n10 : Nat} {v1 : Mv} {x5 : Int32} {x7 : Int32} {x10 : Int32} (a0 : x7 = v1 h0 2) (a1 : x10 = (4 : Int32) * x7) (k0 : x10 ≤ x5) : K_X4_copyFrom_6_10 G w h0 h_0 (n10 + 1) v1 x5 = v1 := by
  subst a1; subst a0; first | rw [K_X4_copyFrom_6_10, if_pos k0] | simp only [K_X4_copyFrom_6_10, if_pos k0]
set_option maxRecDepth 100000 in
theorem kx_X4_copyFrom_6_2 {G : Gm} {w : Mw} {h0 : Nat} {h_0 : Nat} {n10 : Nat} {v1 : Mv} {x5 : Int32} {v18 : Mv} {x24 : Int32} {x7 : Int32} {x16 : Int32} {x10 : Int32} (a0 : x7 = v1 h0 2) (a1 : x10 = (4 : Int32) * x7) (a2 : x16 = v1 (rf G h_0 1) (Int32.toNatClampNeg x5)) (a3 : v18 = stv v1 (rf G h0 1) (Int32.toNatClampNeg x5) x16) (a4 : x24 = x5 + (1 : Int32)) (k0 : ¬ (x10 ≤ x5)) : K_X4_copyFrom_6_10 G w h0 h_0 (n10 + 1) v1 x5 = (K_X4_copyFrom_6_10 G w h0 h_0 n10) v18 x24 := by
  subst a4; subst a3; subst a2; subst a1; subst a0; first | rw [K_X4_copyFrom_6_10, if_neg k0] | simp only [K_X4_copyFrom_6_10, if_neg k0]
set_option maxRecDepth 100000 in
theorem kx_X4_copyFrom_6_3 {G : Gm} {w : Mw} {v : Mv} {h0 : Nat} {h_0 : Nat} {v30 : Mv} {x27 : Int32} (a0 : x27 = v h_0 2) (a1 : v30 = stv v h0 2 x27)  : K_X4_copyFrom_6_e G w v h0 h_0 = K_X4_copyFrom_6_10 G w h0 h_0 61 v30 (0 : Int32) := by
  subst a1; subst a0; first | rw [K_X4_copyFrom_6_e] | simp only [K_X4_copyFrom_6_e]
abbrev rm_X4_copyFrom_6 : Room := { frames := 0, cells := 0, slots := 0, locals := 0 }
set_option maxHeartbeats 4000000 in
set_option maxRecDepth 100000 in
theorem ct_X4_copyFrom_6 (l : Launch) (D : va_G) (dA : Nat → ClassId) (G : Gm) (v : Mv) (w : Mw) (hOk : Ok G v w) (h0 : Nat) (S0 : S_X4 G h0 6) (h_0 : Nat) (S_0 : S_X4 G h_0 6) : CtV l yX4_copyFrom cX4_copyFrom 3 none rm_X4_copyFrom_6 D dA G [.ref h0, .ref h_0] v w (fun v1 w1 => Ok G v1 w1 ∧ True ∧ (w1 = w ∧ v1 = F_X4_copyFrom_6 G w v h0 h_0) ∧ Fr G [4, 120, 124] v v1) := by
  refine CtV.of RX4 [(0, .ref h0), (1, .ref h_0)] (Nat.le_of_ble_eq_true rfl) rfl (by decide) rfl ?_
  intro p e s m args below meth c E hr
  have J10 : ∀ n10 : Nat, ∀ (v1 : Mv), Ok G v1 w → True → Fr G [4, 120, 124] v v1 → ∀ x5 : Int32, Bd x5 0 60 → Mu x5 60 n10 → K_X4_copyFrom_6_10 G w h0 h_0 n10 v1 x5 = F_X4_copyFrom_6 G w v h0 h_0 → J p l e rm_X4_copyFrom_6 s m args below meth c 0 0 (MQ below (QcV D dA G (fun v1 w1 => Ok G v1 w1 ∧ True ∧ (w1 = w ∧ v1 = F_X4_copyFrom_6 G w v h0 h_0) ∧ Fr G [4, 120, 124] v v1)) args s 0 0 (dm G)) D dA G (dm G) s.heap 3 v1 w [(0, .ref h0), (1, .ref h_0), (2, .int x5)] 10 [] := by
    intro n10
    induction n10 with
    | zero => intro v1 o2 k3 f4 x5 b6 hm hK; exact hm.zero b6 (by decide)
    | succ n10 ih10 =>
      intro v1 o2 k3 f4 x5 b6 hmu10 hK
      refine J_iload_n E dX4_copyFrom_10 2 rfl ?_
      refine J_iconst E 4 dX4_copyFrom_11 (by decide) ?_
      refine J_aload_n E dX4_copyFrom_12 0 rfl ?_
      refine J_getI E in_X4 rfl (S_X4.h S0) 2 (by decide) wd181 rfl dX4_copyFrom_13 (fun x7 e8 => ?_)
      have b9 : Bd x7 0 6 := Ok.fd o2 e8 (S_X4.h S0) rfl
      refine J_imul E dX4_copyFrom_16 (fun x10 e11 => ?_)
      have b12 : Bd x10 0 24 := Bd.mul e11 (Bd.lit 4 4 (by decide)) b9 (by decide)
      refine J_icmp_ge E 38 dX4_copyFrom_17 (by decide) (fun c13 => ?_) (fun c13 => ?_)
      · exact J_vret E hr dX4_copyFrom_38 ⟨o2, k3, ⟨⟨rfl, ((kx_X4_copyFrom_6_1 (e8) (e11) (c13)).symm.trans hK)⟩, f4⟩⟩
      · have b14 : Bd x5 0 23 := Bd.lt_l (nle c13) b6 b12 23 (by decide)
        have b15 : Bd x10 1 24 := Bd.lt_r (nle c13) b6 b12 1 (by decide)
        refine J_aload_n E dX4_copyFrom_20 0 rfl ?_
        refine J_getR E in_X4 rfl (S_X4.h S0) 1 (by decide) wd180 rfl dX4_copyFrom_21 ?_
        refine J_iload_n E dX4_copyFrom_24 2 rfl ?_
        refine J_aload_n E dX4_copyFrom_25 1 rfl ?_
        refine J_getR E in_X4 rfl (S_X4.h S_0) 1 (by decide) wd180 rfl dX4_copyFrom_26 ?_
        refine J_iload_n E dX4_copyFrom_29 2 rfl ?_
        refine J_iald1 E (S_X4.f1 S_0) (Bd.in b14 (by decide)) dX4_copyFrom_30 (fun x16 e17 => ?_)
        refine J_iast1 E (S_X4.f1 S0) (Bd.in b14 (by decide)) dX4_copyFrom_31 (fun v18 e19 => ?_)
        have o20 : Ok G v18 w := by rw [e19]; exact Ok.sw o2 (S_X4.f1 S0) b14 (Bd.any x16) 0 24 (by decide) (by decide +kernel)
        have k21 : True := trivial
        have f22 : Fr G [4, 120, 124] v v18 := Fr.st f4 e19 (S_X4.f1 S0) rfl
        have e23 : x7 = v18 h0 2 := by rw [e19, stv_a (tg_ne (S_X4.h S0) ((S_X4.f1 S0)) rfl)]; exact e8
        refine J_iinc E 2 1 (fun z => [(2, .int z), (0, .ref h0), (1, .ref h_0)]) dX4_copyFrom_32 rfl (by decide) (by decide) (fun _ => rfl) (fun x24 e25 => ?_)
        have b26 : Bd x24 1 24 := (Bd.add e25 b14 (Bd.lit 1 1 (by decide)) (by decide)).w _ _ (by decide)
        refine J_goto E 10 dX4_copyFrom_35 (by decide) ?_
        exact J.sub [1, 2, 0] rfl (ih10 v18 (o20) (k21) f22 x24 (b26.w 0 60 (by decide)) (Mu.step hmu10 e25 b14 (Bd.lit 1 1 (by decide)) (by decide)) ((kx_X4_copyFrom_6_2 (e8) (e11) (e17) (e19) (e25) (c13)).symm.trans hK))
  have hK : K_X4_copyFrom_6_e G w v h0 h_0 = F_X4_copyFrom_6 G w v h0 h_0 := rfl
  refine J_aload_n E dX4_copyFrom_0 0 rfl ?_
  refine J_aload_n E dX4_copyFrom_1 1 rfl ?_
  refine J_getI E in_X4 rfl (S_X4.h S_0) 2 (by decide) wd181 rfl dX4_copyFrom_2 (fun x27 e28 => ?_)
  have b29 : Bd x27 0 6 := Ok.fd hOk e28 (S_X4.h S_0) rfl
  refine J_pI E in_X4 rfl (S_X4.h S0) 2 (by decide) wd181 tyX4 tyX4_ok nmX4 rfl rfl .int (by decide +kernel) rfl rfl dX4_copyFrom_5 (fun v30 e31 => ?_)
  have o32 : Ok G v30 w := Ok.pf hOk e31 (S_X4.h S0) rfl b29
  have f34 : Fr G [4, 120, 124] v v30 := Fr.st Fr.rf e31 (S_X4.h S0) rfl
  have e35 : x27 = v30 h0 2 := by rw [e31, stv_s]
  refine J_iconst E 0 dX4_copyFrom_8 (by decide) ?_
  refine J_istore_n E [(2, .int 0), (0, .ref h0), (1, .ref h_0)] dX4_copyFrom_9 rfl (by decide) rfl ?_
  exact J.sub [1, 2, 0] rfl (J10 61 v30 (o32) (trivial) f34 0 ((Bd.lit 0 0 (by decide)).w 0 60 (by decide)) (Mu.start _ (Bd.lit 0 0 (by decide)) (by decide)) ((kx_X4_copyFrom_6_3 (e28) (e31)).symm.trans hK))

abbrev rm_X4_mixInto_5 : Room := { frames := 0, cells := 0, slots := 0, locals := 0 }
set_option maxHeartbeats 4000000 in
set_option maxRecDepth 100000 in
theorem ct_X4_mixInto_5 (l : Launch) (D : va_G) (dA : Nat → ClassId) (G : Gm) (v : Mv) (w : Mw) (hOk : Ok G v w) (h0 : Nat) (S0 : S_X4 G h0 5) (y_0 : Int64) : CtL l yX4_mixInto cX4_mixInto 6 (some .long) rm_X4_mixInto_5 D dA G [.ref h0, .long y_0] v w (fun r v1 w1 => v1 = v ∧ w1 = w ∧ True) := by
  refine CtL.of RX4 [(0, .ref h0), (1, .long y_0)] (Nat.le_of_ble_eq_true rfl) rfl (by decide) rfl ?_
  intro p e s m args below meth c E hr
  have J5 : ∀ n5 : Nat, ∀ y1 : Int64, ∀ x2 : Int32, Bd x2 0 60 → Mu x2 60 n5 → J p l e rm_X4_mixInto_5 s m args below meth c 0 0 (MQ below (QcL D dA G (fun r v1 w1 => v1 = v ∧ w1 = w ∧ True)) args s 0 0 (dm G)) D dA G (dm G) s.heap 6 v w [(0, .ref h0), (3, .long y1), (5, .int x2)] 5 [] := by
    intro n5
    induction n5 with
    | zero => intro y1 x2 b3 hm; exact hm.zero b3 (by decide)
    | succ n5 ih5 =>
      intro y1 x2 b3 hmu5
      refine J_iload E dX4_mixInto_5 2 rfl ?_
      refine J_iconst E 4 dX4_mixInto_7 (by decide) ?_
      refine J_aload_n E dX4_mixInto_8 0 rfl ?_
      refine J_getI E in_X4 rfl (S_X4.h S0) 2 (by decide) wd181 rfl dX4_mixInto_9 (fun x4 e5 => ?_)
      have b6 : Bd x4 0 5 := Ok.fd hOk e5 (S_X4.h S0) rfl
      refine J_imul E dX4_mixInto_12 (fun x7 e8 => ?_)
      have b9 : Bd x7 0 20 := Bd.mul e8 (Bd.lit 4 4 (by decide)) b6 (by decide)
      refine J_icmp_ge E 37 dX4_mixInto_13 (by decide) (fun c10 => ?_) (fun c10 => ?_)
      · refine J_lload_n E dX4_mixInto_37 1 rfl ?_
        exact J_lret E hr dX4_mixInto_38 ⟨rfl, rfl, trivial⟩
      · have b11 : Bd x2 0 19 := Bd.lt_l (nle c10) b3 b9 19 (by decide)
        have b12 : Bd x7 1 20 := Bd.lt_r (nle c10) b3 b9 1 (by decide)
        refine J_ldc2 E wd924 dX4_mixInto_16 ?_
        refine J_lload_n E dX4_mixInto_19 1 rfl ?_
        refine J_lmul E dX4_mixInto_20 (fun y13 e14 => ?_)
        refine J_aload_n E dX4_mixInto_21 0 rfl ?_
        refine J_getR E in_X4 rfl (S_X4.h S0) 1 (by decide) wd180 rfl dX4_mixInto_22 ?_
        refine J_iload E dX4_mixInto_25 2 rfl ?_
        refine J_iald1 E (S_X4.f1 S0) (Bd.in b11 (by decide)) dX4_mixInto_27 (fun x15 e16 => ?_)
        refine J_i2l E dX4_mixInto_28 (fun y17 e18 => ?_)
        refine J_ladd E dX4_mixInto_29 (fun y19 e20 => ?_)
        refine J_lstore_n E [(3, .long y19), (0, .ref h0), (5, .int x2)] dX4_mixInto_30 rfl (by decide) rfl ?_
        refine J_iinc E 2 1 (fun z => [(5, .int z), (3, .long y19), (0, .ref h0)]) dX4_mixInto_31 rfl (by decide) (by decide) (fun _ => rfl) (fun x21 e22 => ?_)
        have b23 : Bd x21 1 20 := (Bd.add e22 b11 (Bd.lit 1 1 (by decide)) (by decide)).w _ _ (by decide)
        refine J_goto E 5 dX4_mixInto_34 (by decide) ?_
        exact J.sub [2, 1, 0] rfl (ih5 y19 x21 (b23.w 0 60 (by decide)) (Mu.step hmu5 e22 b11 (Bd.lit 1 1 (by decide)) (by decide)))
  refine J_lload_n E dX4_mixInto_0 1 rfl ?_
  refine J_lstore_n E [(3, .long y_0), (0, .ref h0), (1, .long y_0)] dX4_mixInto_1 rfl (by decide) rfl ?_
  refine J_iconst E 0 dX4_mixInto_2 (by decide) ?_
  refine J_istore E [(5, .int 0), (3, .long y_0), (0, .ref h0), (1, .long y_0)] dX4_mixInto_3 (by decide) rfl ?_
  exact J.sub [2, 1, 0] rfl (J5 61 y_0 0 ((Bd.lit 0 0 (by decide)).w 0 60 (by decide)) (Mu.start _ (Bd.lit 0 0 (by decide)) (by decide)))
