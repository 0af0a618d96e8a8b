/-! EXACT ANSWERS of type, clear, image, from -/
theorem Bd.pt {x y : Int32} {a : Int} (h : Bd x a a) (hy : y.toInt = a) : x = y := Int32.toInt_inj.mp (by obtain ⟨h1, h2⟩ := h; omega)
theorem Bd.ltv {x y : Int32} {a b : Int} (h : Bd x a b) (hy : b < y.toInt) : x < y := Int32.lt_iff_toInt_lt.mpr (by obtain ⟨h1, h2⟩ := h; omega)
def TyP (c n r n1 : Int32) : Prop := ((0 ≤ c ∧ c ≤ 127) ∧ n < 150 ∧ r = n + 1 ∧ n1 = n + 1) ∨ ((0 ≤ c ∧ c ≤ 127) ∧ ¬ n < 150 ∧ r = -4 ∧ n1 = n) ∨ (¬ (0 ≤ c ∧ c ≤ 127) ∧ r = -2 ∧ n1 = n)
theorem TyP.det {c n r n1 r' n1' : Int32} (h : TyP c n r n1) (h' : TyP c n r' n1') : r = r' ∧ n1 = n1' := by
  rcases h with ⟨a1, a2, a3, a4⟩ | ⟨a1, a2, a3, a4⟩ | ⟨a1, a3, a4⟩ <;> rcases h' with ⟨b1, b2, b3, b4⟩ | ⟨b1, b2, b3, b4⟩ | ⟨b1, b3, b4⟩
  · exact ⟨a3.trans b3.symm, a4.trans b4.symm⟩
  · exact absurd a2 b2
  · exact absurd a1 b1
  · exact absurd b2 a2
  · exact ⟨a3.trans b3.symm, a4.trans b4.symm⟩
  · exact absurd a1 b1
  · exact absurd b1 a1
  · exact absurd b1 a1
  · exact ⟨a3.trans b3.symm, a4.trans b4.symm⟩
def FrP (x b r : Int32) : Prop := ((0 ≤ x ∧ x ≤ 1) ∧ ¬ b = 0 ∧ r = 1) ∨ ((0 ≤ x ∧ x ≤ 1) ∧ b = 0 ∧ r = -3) ∨ (¬ (0 ≤ x ∧ x ≤ 1) ∧ r = -2)
def bitof (k x : Int32) : Int32 := (k >>> (x &&& 31)) &&& 1
set_option maxHeartbeats 4000000 in
set_option maxRecDepth 100000 in
theorem ctx_X3_append (l : Launch) (D : va_G) (dA : Nat → ClassId) (G : Gm) (v : Mv) (w : Mw) (hOk : Ok G v w) (h0 : Nat) (S0 : S_X3 G h0) (x_0 : Int32) (bx_0 : Bd x_0 0 127) (z_0 : Int32) (ez_0 : z_0 = v h0 1) (pre0 : Bd z_0 0 149) : CtI l yX3_append cX3_append 2 (some .int) rm_X3_append D dA G [.ref h0, .int x_0] v w (fun r v1 w1 => Ok G v1 w1 ∧ Kx G (fun a k => a = h0 ∧ k = 1) v v1 ∧ (r = v h0 1 + 1 ∧ v1 h0 1 = v h0 1 + 1) ∧ Fr G [3, 250] v v1) := by
  refine CtI.of RX3 [(0, .ref h0), (1, .int x_0)] (Nat.le_of_ble_eq_true rfl) rfl (by decide) rfl ?_
  intro p e s m args below meth c E hr
  refine J_aload_n E dX3_append_0 0 rfl ?_
  refine J_getR E in_X3 rfl (S_X3.h S0) 0 (by decide) wd252 rfl dX3_append_1 ?_
  refine J_aload_n E dX3_append_4 0 rfl ?_
  refine J_getI E in_X3 rfl (S_X3.h S0) 1 (by decide) wd253 rfl dX3_append_5 (fun x1 e2 => ?_)
  rw [show x1 = z_0 from e2.trans (ez_0).symm]
  refine J_iload_n E dX3_append_8 1 rfl ?_
  refine J_iast1 E (S_X3.f0 S0) (Bd.in pre0 (by decide)) dX3_append_9 (fun v3 e4 => ?_)
  have o5 : Ok G v3 w := by rw [e4]; exact Ok.sv hOk (S_X3.f0 S0) pre0 bx_0 0 150 (by decide) (by decide +kernel)
  have k6 : Kx G (fun a k => a = h0 ∧ k = 1) v v3 := by rw [e4]; exact Kx.sv Kx.rf (S_X3.f0 S0) pre0 0 150 0 127 (by decide) (by decide +kernel)
  have f7 : Fr G [3, 250] v v3 := Fr.st Fr.rf e4 (S_X3.f0 S0) rfl
  have e8 : z_0 = v3 h0 1 := by rw [e4, stv_a (tg_ne (S_X3.h S0) ((S_X3.f0 S0)) rfl)]; exact ez_0
  refine J_aload_n E dX3_append_10 0 rfl ?_
  refine J_dup E dX3_append_11 rfl ?_
  refine J_getI E in_X3 rfl (S_X3.h S0) 1 (by decide) wd253 rfl dX3_append_12 (fun x9 e10 => ?_)
  rw [show x9 = z_0 from e10.trans (e8).symm]
  refine J_iconst E 1 dX3_append_15 (by decide) ?_
  refine J_iadd E dX3_append_16 (fun x11 e12 => ?_)
  have b13 : Bd x11 1 150 := (Bd.add e12 pre0 (Bd.lit 1 1 (by decide)) (by decide)).w _ _ (by decide)
  refine J_pI E in_X3 rfl (S_X3.h S0) 1 (by decide) wd253 tyX3 tyX3_ok nmX3 rfl rfl .int (by decide +kernel) rfl rfl dX3_append_17 (fun v14 e15 => ?_)
  have o16 : Ok G v14 w := Ok.pf o5 e15 (S_X3.h S0) rfl (b13.w 0 150 (by decide))
  have k17 : Kx G (fun a k => a = h0 ∧ k = 1) v v14 := Kx.here k6 e15 ⟨rfl, rfl⟩
  have f18 : Fr G [3, 250] v v14 := Fr.st f7 e15 (S_X3.h S0) rfl
  have e19 : x11 = v14 h0 1 := by rw [e15, stv_s]
  refine J_aload_n E dX3_append_20 0 rfl ?_
  refine J_getI E in_X3 rfl (S_X3.h S0) 1 (by decide) wd253 rfl dX3_append_21 (fun x20 e21 => ?_)
  rw [show x20 = x11 from e21.trans (e19).symm]
  exact J_iret E hr dX3_append_24 ⟨o16, k17, ⟨e12.trans (by rw [ez_0]), e19.symm.trans (e12.trans (by rw [ez_0]))⟩, f18⟩
set_option maxHeartbeats 4000000 in
set_option maxRecDepth 100000 in
theorem ctx_X7_type (l : Launch) (D : va_G) (dA : Nat → ClassId) (G : Gm) (v : Mv) (w : Mw) (hOk : Ok G v w) (h0 : Nat) (S0 : S_X7 G h0) (x_0 : Int32) : CtI l yX7_type cX7_type 2 (some .int) rm_X7_type D dA G [.ref h0, .int x_0] v w (fun r v1 w1 => Ok G v1 w1 ∧ Kx G (fun a k => a = rf G h0 1 ∧ k = 1) v v1 ∧ TyP x_0 (v (rf G h0 1) 1) r (v1 (rf G h0 1) 1) ∧ Fr G [3, 7, 250] v v1) := by
  refine CtI.of RX7 [(0, .ref h0), (1, .int x_0)] (Nat.le_of_ble_eq_true rfl) rfl (by decide) rfl ?_
  intro p e s m args below meth c E hr
  refine J_iload_n E dX7_type_0 1 rfl ?_
  refine J_iconst E 0 dX7_type_1 (by decide) ?_
  refine J_bipush E 127 dX7_type_2 (by decide) ?_
  refine J_callSI E cal_X7_isWithin wd361 [.int x_0, .int 0, .int 127] [] (ct_X7_isWithin l D dA G v w (hOk) x_0 0 127) rfl rfl (Nat.le_of_ble_eq_true rfl) ⟨rfl, rfl⟩ ⟨Nat.le_of_ble_eq_true rfl, Nat.le_of_ble_eq_true rfl⟩ dX7_type_4 (fun x4 v1 w2 p3 => ?_)
  rw [p3.1, p3.2.1]
  have b5 : Bd x4 0 1 := p3.2.2.1
  refine J_if_ne E 15 dX7_type_7 (by decide) (fun c6 => ?_) (fun c6 => ?_)
  · have b7 : Bd x4 1 1 := (Bd.ne_lo c6 b5 (Bd.lit 0 0 (by decide))).w _ _ (by decide)
    have g8 := (p3.2.2.2.1).resolve_left c6
    have b9 : Bd x_0 0 I1 := Bd.le_r g8.1 (Bd.lit 0 0 (by decide)) (Bd.any x_0) 0 (by decide)
    have b10 : Bd x_0 0 127 := Bd.le_l g8.2 b9 (Bd.lit 127 127 (by decide)) 127 (by decide)
    refine J_aload_n E dX7_type_15 0 rfl ?_
    refine J_getR E in_X7 rfl (S_X7.h S0) 1 (by decide) wd309 rfl dX7_type_16 ?_
    refine J_getIN E in_X3 rfl (S_X3.h (S_X7.f1 S0)) 1 (by decide) wd254 rfl dX7_type_19 (fun x11 e12 => ?_)
    have b13 : Bd x11 0 150 := Ok.fd hOk e12 (S_X3.h (S_X7.f1 S0)) rfl
    refine J_sipush E 150 dX7_type_22 (by decide) ?_
    refine J_icmp_lt E 33 dX7_type_25 (by decide) (fun c14 => ?_) (fun c14 => ?_)
    · have b15 : Bd x11 0 149 := Bd.lt_l c14 b13 (Bd.lit 150 150 (by decide)) 149 (by decide)
      refine J_aload_n E dX7_type_33 0 rfl ?_
      refine J_getR E in_X7 rfl (S_X7.h S0) 1 (by decide) wd309 rfl dX7_type_34 ?_
      refine J_iload_n E dX7_type_37 1 rfl ?_
      refine J_callVNI E cal_X3_append wd388 rfl (S_X3.h (S_X7.f1 S0)) [.int x_0] [] (ctx_X3_append l D dA G v w (hOk) (rf G h0 1) (S_X7.f1 S0) x_0 b10 x11 (e12) b15) rfl rfl (Nat.le_of_ble_eq_true rfl) ⟨rfl, rfl⟩ ⟨Nat.le_of_ble_eq_true rfl, Nat.le_of_ble_eq_true rfl⟩ dX7_type_38 (fun x19 v16 w17 p18 => ?_)
      have o20 := p18.1
      have k21 : Kx G (fun a k => a = rf G h0 1 ∧ k = 1) v v16 := (Kx.rf).tr p18.2.1
      have f22 : Fr G [3, 7, 250] v v16 := Fr.tr Fr.rf (p18.2.2.2) (by decide)
      exact J_iret E hr dX7_type_41 ⟨o20, k21, Or.inl ⟨g8, (by rw [← e12]; exact c14), p18.2.2.1.1, p18.2.2.1.2⟩, f22⟩
    · have b24 : Bd x11 150 150 := Bd.le_r (nlt c14) (Bd.lit 150 150 (by decide)) b13 150 (by decide)
      refine J_aload_n E dX7_type_28 0 rfl ?_
      refine J_callVI E cal_X7_full wd368 rfl (S_X7.h S0) [] [] (ct_X7_full l D dA G v w (hOk) h0 S0) rfl rfl (Nat.le_of_ble_eq_true rfl) ⟨rfl, rfl⟩ ⟨Nat.le_of_ble_eq_true rfl, Nat.le_of_ble_eq_true rfl⟩ dX7_type_29 (fun x28 v25 w26 p27 => ?_)
      have o29 := p27.1
      have k30 : Kx G (fun a k => a = rf G h0 1 ∧ k = 1) v v25 := (Kx.rf).trp p27.2.1
      have f31 : Fr G [3, 7, 250] v v25 := Fr.tr Fr.rf (p27.2.2.2) (by decide)
      have b32 : Bd x28 (-4) (-4) := p27.2.2.1
      exact J_iret E hr dX7_type_32 ⟨o29, k30, Or.inr (Or.inl ⟨g8, (by rw [← e12]; exact c14), Bd.pt b32 (by decide), p27.2.1 _ _ (S_X3.h (S_X7.f1 S0)) 1 0 150 rfl⟩), f31⟩
  · have b33 : Bd x4 0 0 := Bd.eq_l c6 b5 (Bd.lit 0 0 (by decide)) 0 0 (by decide)
    have g34 : ¬ (0 ≤ x_0 ∧ x_0 ≤ 127) := (p3.2.2.2.2).resolve_left (fun h9 => h9 c6)
    refine J_aload_n E dX7_type_10 0 rfl ?_
    refine J_callVI E cal_X7_bad wd364 rfl (S_X7.h S0) [] [] (ct_X7_bad l D dA G v w (hOk) h0 S0) rfl rfl (Nat.le_of_ble_eq_true rfl) ⟨rfl, rfl⟩ ⟨Nat.le_of_ble_eq_true rfl, Nat.le_of_ble_eq_true rfl⟩ dX7_type_11 (fun x38 v35 w36 p37 => ?_)
    have o39 := p37.1
    have k40 : Kx G (fun a k => a = rf G h0 1 ∧ k = 1) v v35 := (Kx.rf).trp p37.2.1
    have f41 : Fr G [3, 7, 250] v v35 := Fr.tr Fr.rf (p37.2.2.2) (by decide)
    have b42 : Bd x38 (-2) (-2) := p37.2.2.1
    exact J_iret E hr dX7_type_14 ⟨o39, k40, Or.inr (Or.inr ⟨g34, Bd.pt b42 (by decide), p37.2.1 _ _ (S_X3.h (S_X7.f1 S0)) 1 0 150 rfl⟩), f41⟩
set_option maxHeartbeats 4000000 in
set_option maxRecDepth 100000 in
theorem ctx_X7_clear (l : Launch) (D : va_G) (dA : Nat → ClassId) (G : Gm) (v : Mv) (w : Mw) (hOk : Ok G v w) (h0 : Nat) (S0 : S_X7 G h0) : CtI l yX7_clear cX7_clear 2 (some .int) rm_X7_clear D dA G [.ref h0] v w (fun r v1 w1 => Ok G v1 w1 ∧ Kx G (fun a k => a = rf G h0 1 ∧ k = 1) v v1 ∧ (r = v (rf G h0 1) 1 ∧ v1 (rf G h0 1) 1 = 0) ∧ Fr G [3] v v1) := by
  refine CtI.of RX7 [(0, .ref h0)] (Nat.le_of_ble_eq_true rfl) rfl (by decide) rfl ?_
  intro p e s m args below meth c E hr
  refine J_aload_n E dX7_clear_0 0 rfl ?_
  refine J_getR E in_X7 rfl (S_X7.h S0) 1 (by decide) wd309 rfl dX7_clear_1 ?_
  refine J_getIN E in_X3 rfl (S_X3.h (S_X7.f1 S0)) 1 (by decide) wd254 rfl dX7_clear_4 (fun x1 e2 => ?_)
  have b3 : Bd x1 0 150 := Ok.fd hOk e2 (S_X3.h (S_X7.f1 S0)) rfl
  refine J_istore_n E [(1, .int x1), (0, .ref h0)] dX7_clear_7 rfl (by decide) rfl ?_
  refine J_aload_n E dX7_clear_8 1 rfl ?_
  refine J_getR E in_X7 rfl (S_X7.h S0) 1 (by decide) wd309 rfl dX7_clear_9 ?_
  refine J_iconst E 0 dX7_clear_12 (by decide) ?_
  refine J_pIN E in_X3 rfl (S_X3.h (S_X7.f1 S0)) 1 (by decide) wd254 tyX3 tyX3_ok nmX3 rfl rfl .int (by decide +kernel) rfl rfl dX7_clear_13 (fun v4 e5 => ?_)
  have o6 : Ok G v4 w := Ok.pf hOk e5 (S_X3.h (S_X7.f1 S0)) rfl ((Bd.lit 0 0 (by decide)).w 0 150 (by decide))
  have k7 : Kx G (fun a k => a = rf G h0 1 ∧ k = 1) v v4 := Kx.here Kx.rf e5 ⟨rfl, rfl⟩
  have f8 : Fr G [3] v v4 := Fr.st Fr.rf e5 (S_X3.h (S_X7.f1 S0)) rfl
  have e9 : (0 : Int32) = v4 (rf G h0 1) 1 := by rw [e5, stv_s]
  refine J_iload_n E dX7_clear_16 0 rfl ?_
  exact J_iret E hr dX7_clear_17 ⟨o6, k7, ⟨e2, e9.symm⟩, f8⟩
set_option maxHeartbeats 4000000 in
set_option maxRecDepth 100000 in
theorem ctx_X8_clear (l : Launch) (D : va_G) (dA : Nat → ClassId) (G : Gm) (v : Mv) (w : Mw) (hOk : Ok G v w) (h0 : Nat) (S0 : S_X8 G h0) : CtI l yX8_clear cX8_clear 2 (some .int) rm_X8_clear D dA G [.ref h0] v w (fun r v1 w1 => Ok G v1 w1 ∧ Kx G (fun a k => a = h0 ∧ k = 5) v v1 ∧ (r = v h0 5 ∧ v1 h0 5 = 0) ∧ Fr G [8] v v1) := by
  refine CtI.of RX8 [(0, .ref h0)] (Nat.le_of_ble_eq_true rfl) rfl (by decide) rfl ?_
  intro p e s m args below meth c E hr
  refine J_aload_n E dX8_clear_0 0 rfl ?_
  refine J_getI E in_X8 rfl (S_X8.h S0) 5 (by decide) wd940 rfl dX8_clear_1 (fun x1 e2 => ?_)
  have b3 : Bd x1 0 150 := Ok.fd hOk e2 (S_X8.h S0) rfl
  refine J_istore_n E [(1, .int x1), (0, .ref h0)] dX8_clear_4 rfl (by decide) rfl ?_
  refine J_aload_n E dX8_clear_5 1 rfl ?_
  refine J_iconst E 0 dX8_clear_6 (by decide) ?_
  refine J_pI E in_X8 rfl (S_X8.h S0) 5 (by decide) wd940 tyX8 tyX8_ok nmX8 rfl rfl .int (by decide +kernel) rfl rfl dX8_clear_7 (fun v4 e5 => ?_)
  have o6 : Ok G v4 w := Ok.pf hOk e5 (S_X8.h S0) rfl ((Bd.lit 0 0 (by decide)).w 0 150 (by decide))
  have k7 : Kx G (fun a k => a = h0 ∧ k = 5) v v4 := Kx.here Kx.rf e5 ⟨rfl, rfl⟩
  have f8 : Fr G [8] v v4 := Fr.st Fr.rf e5 (S_X8.h S0) rfl
  have e9 : (0 : Int32) = v4 h0 5 := by rw [e5, stv_s]
  refine J_iload_n E dX8_clear_10 0 rfl ?_
  exact J_iret E hr dX8_clear_11 ⟨o6, k7, ⟨e2, e9.symm⟩, f8⟩
set_option maxHeartbeats 4000000 in
set_option maxRecDepth 100000 in
theorem ctx_X8_type (l : Launch) (D : va_G) (dA : Nat → ClassId) (G : Gm) (v : Mv) (w : Mw) (hOk : Ok G v w) (h0 : Nat) (S0 : S_X8 G h0) (x_0 : Int32) : CtI l yX8_type cX8_type 2 (some .int) rm_X8_type D dA G [.ref h0, .int x_0] v w (fun r v1 w1 => Ok G v1 w1 ∧ Kx G (fun a k => a = h0 ∧ k = 5) v v1 ∧ TyP x_0 (v h0 5) r (v1 h0 5) ∧ Fr G [8, 103, 10250] v v1) := by
  refine CtI.of RX8 [(0, .ref h0), (1, .int x_0)] (Nat.le_of_ble_eq_true rfl) rfl (by decide) rfl ?_
  intro p e s m args below meth c E hr
  refine J_iload_n E dX8_type_0 1 rfl ?_
  refine J_iconst E 0 dX8_type_1 (by decide) ?_
  refine J_bipush E 127 dX8_type_2 (by decide) ?_
  refine J_callSI E cal_X8_in wd996 [.int x_0, .int 0, .int 127] [] (ct_X8_in l D dA G v w (hOk) x_0 0 127) rfl rfl (Nat.le_of_ble_eq_true rfl) ⟨rfl, rfl⟩ ⟨Nat.le_of_ble_eq_true rfl, Nat.le_of_ble_eq_true rfl⟩ dX8_type_4 (fun x4 v1 w2 p3 => ?_)
  rw [p3.1, p3.2.1]
  have b5 : Bd x4 0 1 := p3.2.2.1
  refine J_if_ne E 15 dX8_type_7 (by decide) (fun c6 => ?_) (fun c6 => ?_)
  · have b7 : Bd x4 1 1 := (Bd.ne_lo c6 b5 (Bd.lit 0 0 (by decide))).w _ _ (by decide)
    have g8 := (p3.2.2.2.1).resolve_left c6
    have b9 : Bd x_0 0 I1 := Bd.le_r g8.1 (Bd.lit 0 0 (by decide)) (Bd.any x_0) 0 (by decide)
    have b10 : Bd x_0 0 127 := Bd.le_l g8.2 b9 (Bd.lit 127 127 (by decide)) 127 (by decide)
    refine J_aload_n E dX8_type_15 0 rfl ?_
    refine J_getI E in_X8 rfl (S_X8.h S0) 5 (by decide) wd940 rfl dX8_type_16 (fun x11 e12 => ?_)
    have b13 : Bd x11 0 150 := Ok.fd hOk e12 (S_X8.h S0) rfl
    refine J_sipush E 150 dX8_type_19 (by decide) ?_
    refine J_icmp_ne E 30 dX8_type_22 (by decide) (fun c14 => ?_) (fun c14 => ?_)
    · have b15 : Bd x11 0 149 := (Bd.ne_hi c14 b13 (Bd.lit 150 150 (by decide))).w _ _ (by decide)
      refine J_aload_n E dX8_type_30 0 rfl ?_
      refine J_getR E in_X8 rfl (S_X8.h S0) 4 (by decide) wd939 rfl dX8_type_31 ?_
      refine J_aload_n E dX8_type_34 0 rfl ?_
      refine J_getI E in_X8 rfl (S_X8.h S0) 5 (by decide) wd940 rfl dX8_type_35 (fun x16 e17 => ?_)
      rw [show x16 = x11 from e17.trans (e12).symm]
      refine J_iload_n E dX8_type_38 1 rfl ?_
      refine J_i2b E dX8_type_39 (fun x18 e19 => ?_)
      have b20 : Bd x18 (-128) 127 := Bd.byte e19
      refine J_bast1 E (S_X8.f4 S0) (Bd.in b15 (by decide)) dX8_type_40 (fun v21 e22 => ?_)
      have b25 : Bd (vp_nar .byte x18) (-128) 127 := Bd.narB _
      have o23 : Ok G v21 w := by rw [e22]; exact Ok.sv hOk (S_X8.f4 S0) b15 b25 0 150 (by decide) (by decide +kernel)
      have k24 : Kx G (fun a k => a = h0 ∧ k = 5) v v21 := by rw [e22]; exact Kx.sv Kx.rf (S_X8.f4 S0) b15 0 150 (-128) 127 (by decide) (by decide +kernel)
      have f26 : Fr G [8, 103, 10250] v v21 := Fr.st Fr.rf e22 (S_X8.f4 S0) rfl
      have e27 : x11 = v21 h0 5 := by rw [e22, stv_a (tg_ne (S_X8.h S0) ((S_X8.f4 S0)) rfl)]; exact e12
      refine J_aload_n E dX8_type_41 0 rfl ?_
      refine J_dup E dX8_type_42 rfl ?_
      refine J_getI E in_X8 rfl (S_X8.h S0) 5 (by decide) wd940 rfl dX8_type_43 (fun x28 e29 => ?_)
      rw [show x28 = x11 from e29.trans (e27).symm]
      refine J_iconst E 1 dX8_type_46 (by decide) ?_
      refine J_iadd E dX8_type_47 (fun x30 e31 => ?_)
      have b32 : Bd x30 1 150 := (Bd.add e31 b15 (Bd.lit 1 1 (by decide)) (by decide)).w _ _ (by decide)
      refine J_pI E in_X8 rfl (S_X8.h S0) 5 (by decide) wd940 tyX8 tyX8_ok nmX8 rfl rfl .int (by decide +kernel) rfl rfl dX8_type_48 (fun v33 e34 => ?_)
      have o35 : Ok G v33 w := Ok.pf o23 e34 (S_X8.h S0) rfl (b32.w 0 150 (by decide))
      have k36 : Kx G (fun a k => a = h0 ∧ k = 5) v v33 := Kx.here k24 e34 ⟨rfl, rfl⟩
      have f37 : Fr G [8, 103, 10250] v v33 := Fr.st f26 e34 (S_X8.h S0) rfl
      have e38 : x30 = v33 h0 5 := by rw [e34, stv_s]
      refine J_aload_n E dX8_type_51 0 rfl ?_
      refine J_getI E in_X8 rfl (S_X8.h S0) 5 (by decide) wd940 rfl dX8_type_52 (fun x39 e40 => ?_)
      rw [show x39 = x30 from e40.trans (e38).symm]
      exact J_iret E hr dX8_type_55 ⟨o35, k36, Or.inl ⟨g8, (by rw [← e12]; exact b15.ltv (by decide)), e31.trans (by rw [e12]), e38.symm.trans (e31.trans (by rw [e12]))⟩, f37⟩
    · have b41 : Bd x11 150 150 := Bd.eq_l c14 b13 (Bd.lit 150 150 (by decide)) 150 150 (by decide)
      refine J_aload_n E dX8_type_25 0 rfl ?_
      refine J_callVI E cal_X8_full wd1003 rfl (S_X8.h S0) [] [] (ct_X8_full l D dA G v w (hOk) h0 S0) rfl rfl (Nat.le_of_ble_eq_true rfl) ⟨rfl, rfl⟩ ⟨Nat.le_of_ble_eq_true rfl, Nat.le_of_ble_eq_true rfl⟩ dX8_type_26 (fun x45 v42 w43 p44 => ?_)
      have o46 := p44.1
      have k47 : Kx G (fun a k => a = h0 ∧ k = 5) v v42 := (Kx.rf).trp p44.2.1
      have f48 : Fr G [8, 103, 10250] v v42 := Fr.tr Fr.rf (p44.2.2.2) (by decide)
      have b49 : Bd x45 (-4) (-4) := p44.2.2.1
      exact J_iret E hr dX8_type_29 ⟨o46, k47, Or.inr (Or.inl ⟨g8, (by rw [← e12, c14]; decide), Bd.pt b49 (by decide), p44.2.1 _ _ (S_X8.h S0) 5 0 150 rfl⟩), f48⟩
  · have b50 : Bd x4 0 0 := Bd.eq_l c6 b5 (Bd.lit 0 0 (by decide)) 0 0 (by decide)
    have g51 : ¬ (0 ≤ x_0 ∧ x_0 ≤ 127) := (p3.2.2.2.2).resolve_left (fun h9 => h9 c6)
    refine J_aload_n E dX8_type_10 0 rfl ?_
    refine J_callVI E cal_X8_bad wd999 rfl (S_X8.h S0) [] [] (ct_X8_bad l D dA G v w (hOk) h0 S0) rfl rfl (Nat.le_of_ble_eq_true rfl) ⟨rfl, rfl⟩ ⟨Nat.le_of_ble_eq_true rfl, Nat.le_of_ble_eq_true rfl⟩ dX8_type_11 (fun x55 v52 w53 p54 => ?_)
    have o56 := p54.1
    have k57 : Kx G (fun a k => a = h0 ∧ k = 5) v v52 := (Kx.rf).trp p54.2.1
    have f58 : Fr G [8, 103, 10250] v v52 := Fr.tr Fr.rf (p54.2.2.2) (by decide)
    have b59 : Bd x55 (-2) (-2) := p54.2.2.1
    exact J_iret E hr dX8_type_14 ⟨o56, k57, Or.inr (Or.inr ⟨g51, Bd.pt b59 (by decide), p54.2.1 _ _ (S_X8.h S0) 5 0 150 rfl⟩), f58⟩
set_option maxHeartbeats 4000000 in
set_option maxRecDepth 100000 in
theorem ctx_X7_image (l : Launch) (D : va_G) (dA : Nat → ClassId) (G : Gm) (v : Mv) (w : Mw) (hOk : Ok G v w) (h0 : Nat) (S0 : S_X7 G h0) (x_0 : Int32) : CtI l yX7_image cX7_image 2 (some .int) rm_X7_image D dA G [.ref h0, .int x_0] v w (fun r v1 w1 => Ok G v1 w1 ∧ Kx G (fun a k => a = h0 ∧ k = 3) v v1 ∧ ((x_0 = 0 → v1 h0 3 = v h0 3 ||| 1) ∧ (x_0 = 1 → v1 h0 3 = v h0 3 ||| 2) ∧ (¬ (0 ≤ x_0 ∧ x_0 ≤ 1) → v1 h0 3 = v h0 3)) ∧ ((¬ (0 ≤ x_0 ∧ x_0 ≤ 1) ∨ r = 1) ∧ ((0 ≤ x_0 ∧ x_0 ≤ 1) ∨ r = -2)) ∧ Fr G [2, 4, 6, 7, 107, 120, 124] v v1) := by
  refine CtI.of RX7 [(0, .ref h0), (1, .int x_0)] (Nat.le_of_ble_eq_true rfl) rfl (by decide) rfl ?_
  intro p e s m args below meth c E hr
  refine J_iload_n E dX7_image_0 1 rfl ?_
  refine J_iconst E 0 dX7_image_1 (by decide) ?_
  refine J_iconst E 1 dX7_image_2 (by decide) ?_
  refine J_callSI E cal_X7_isWithin wd361 [.int x_0, .int 0, .int 1] [] (ct_X7_isWithin l D dA G v w (hOk) x_0 0 1) rfl rfl (Nat.le_of_ble_eq_true rfl) ⟨rfl, rfl⟩ ⟨Nat.le_of_ble_eq_true rfl, Nat.le_of_ble_eq_true rfl⟩ dX7_image_3 (fun x4 v1 w2 p3 => ?_)
  rw [p3.1, p3.2.1]
  have b5 : Bd x4 0 1 := p3.2.2.1
  refine J_if_ne E 14 dX7_image_6 (by decide) (fun c6 => ?_) (fun c6 => ?_)
  · have b7 : Bd x4 1 1 := (Bd.ne_lo c6 b5 (Bd.lit 0 0 (by decide))).w _ _ (by decide)
    have g8 := (p3.2.2.2.1).resolve_left c6
    have b9 : Bd x_0 0 I1 := Bd.le_r g8.1 (Bd.lit 0 0 (by decide)) (Bd.any x_0) 0 (by decide)
    have b10 : Bd x_0 0 1 := Bd.le_l g8.2 b9 (Bd.lit 1 1 (by decide)) 1 (by decide)
    refine J_aload_n E dX7_image_14 0 rfl ?_
    refine J_getR E in_X7 rfl (S_X7.h S0) 2 (by decide) wd310 rfl dX7_image_15 ?_
    refine J_iload_n E dX7_image_18 1 rfl ?_
    have hi14 := Bd.in (n := 2) b10 (by decide)
    obtain ⟨q11, hq12, hw13⟩ := Ok.el hOk (S_X7.f2 S0).1 hi14
    refine J_aald3 E (S_X7.f2 S0).1 hi14 hw13 dX7_image_19 ?_
    have S15 := (S_X7.f2 S0).2 q11 hq12
    refine J_aload_n E dX7_image_20 0 rfl ?_
    refine J_getR E in_X7 rfl (S_X7.h S0) 0 (by decide) wd308 rfl dX7_image_21 ?_
    refine J_callVNV E cal_X6_copyFrom wd567 rfl (S_X6.h S15) [.ref (rf G h0 0)] [] (ct_X6_copyFrom l D dA G v w (hOk) q11 S15 (rf G h0 0) (S_X7.f0 S0)) rfl rfl (Nat.le_of_ble_eq_true rfl) ⟨rfl, rfl⟩ ⟨Nat.le_of_ble_eq_true rfl, Nat.le_of_ble_eq_true rfl⟩ dX7_image_24 (fun v16 w17 p18 => ?_)
    have o20 := p18.1
    have k21 : Kx G (fun a k => a = h0 ∧ k = 3) v v16 := (Kx.rf).trp p18.2.1
    have f22 : Fr G [2, 4, 6, 7, 107, 120, 124] v v16 := Fr.tr Fr.rf (p18.2.2) (by decide)
    refine J_aload_n E dX7_image_27 0 rfl ?_
    refine J_dup E dX7_image_28 rfl ?_
    refine J_getI E in_X7 rfl (S_X7.h S0) 3 (by decide) wd311 rfl dX7_image_29 (fun x23 e24 => ?_)
    refine J_iconst E 1 dX7_image_32 (by decide) ?_
    refine J_iload_n E dX7_image_33 1 rfl ?_
    refine J_ishl E dX7_image_34 (fun x25 e26 => ?_)
    have b27 : Bd x25 1 2 := Bd.shl1 e26 b10 1 (by decide)
    refine J_ior E dX7_image_35 (fun x28 e29 => ?_)
    refine J_pI E in_X7 rfl (S_X7.h S0) 3 (by decide) wd311 tyX7 tyX7_ok nmX7 rfl rfl .int (by decide +kernel) rfl rfl dX7_image_36 (fun v30 e31 => ?_)
    have o32 : Ok G v30 w17 := Ok.pf o20 e31 (S_X7.h S0) rfl (Bd.any x28)
    have k33 : Kx G (fun a k => a = h0 ∧ k = 3) v v30 := Kx.here k21 e31 ⟨rfl, rfl⟩
    have f34 : Fr G [2, 4, 6, 7, 107, 120, 124] v v30 := Fr.st f22 e31 (S_X7.h S0) rfl
    have e35 : x28 = v30 h0 3 := by rw [e31, stv_s]
    refine J_iconst E 1 dX7_image_39 (by decide) ?_
    exact J_iret E hr dX7_image_40 ⟨o32, k33, ⟨(fun q => by rw [← e35, e29, e24, p18.2.1 _ _ (S_X7.h S0) 3 I0 I1 rfl, e26, q]; rfl), (fun q => by rw [← e35, e29, e24, p18.2.1 _ _ (S_X7.h S0) 3 I0 I1 rfl, e26, q]; rfl), fun q => absurd ⟨g8.1, g8.2⟩ q⟩, ⟨⟨Or.inr rfl, Or.inl ⟨g8.1, g8.2⟩⟩, f34⟩⟩
  · have b36 : Bd x4 0 0 := Bd.eq_l c6 b5 (Bd.lit 0 0 (by decide)) 0 0 (by decide)
    have g37 : ¬ (0 ≤ x_0 ∧ x_0 ≤ 1) := (p3.2.2.2.2).resolve_left (fun h9 => h9 c6)
    refine J_aload_n E dX7_image_9 0 rfl ?_
    refine J_callVI E cal_X7_bad wd364 rfl (S_X7.h S0) [] [] (ct_X7_bad l D dA G v w (hOk) h0 S0) rfl rfl (Nat.le_of_ble_eq_true rfl) ⟨rfl, rfl⟩ ⟨Nat.le_of_ble_eq_true rfl, Nat.le_of_ble_eq_true rfl⟩ dX7_image_10 (fun x41 v38 w39 p40 => ?_)
    have o42 := p40.1
    have k43 : Kx G (fun a k => a = h0 ∧ k = 3) v v38 := (Kx.rf).trp p40.2.1
    have f44 : Fr G [2, 4, 6, 7, 107, 120, 124] v v38 := Fr.tr Fr.rf (p40.2.2.2) (by decide)
    have b45 : Bd x41 (-2) (-2) := p40.2.2.1
    exact J_iret E hr dX7_image_13 ⟨o42, k43, ⟨(fun q => absurd (by rw [q]; decide) g37), (fun q => absurd (by rw [q]; decide) g37), fun _ => p40.2.1 _ _ (S_X7.h S0) 3 I0 I1 rfl⟩, ⟨⟨Or.inl g37, Or.inr (Bd.m2 b45)⟩, f44⟩⟩
set_option maxHeartbeats 4000000 in
set_option maxRecDepth 100000 in
theorem ctx_X8_image (l : Launch) (D : va_G) (dA : Nat → ClassId) (G : Gm) (v : Mv) (w : Mw) (hOk : Ok G v w) (h0 : Nat) (S0 : S_X8 G h0) (x_0 : Int32) : CtI l yX8_image cX8_image 2 (some .int) rm_X8_image D dA G [.ref h0, .int x_0] v w (fun r v1 w1 => Ok G v1 w1 ∧ Kx G (fun a k => a = rf G h0 2) v v1 ∧ ((x_0 = 0 → v1 (rf G h0 2) 0 = 1 ∧ v1 (rf G h0 2) 1 = v (rf G h0 2) 1) ∧ (x_0 = 1 → v1 (rf G h0 2) 1 = 1 ∧ v1 (rf G h0 2) 0 = v (rf G h0 2) 0) ∧ (¬ (0 ≤ x_0 ∧ x_0 ≤ 1) → v1 (rf G h0 2) 0 = v (rf G h0 2) 0 ∧ v1 (rf G h0 2) 1 = v (rf G h0 2) 1)) ∧ ((¬ (0 ≤ x_0 ∧ x_0 ≤ 1) ∨ r = 1) ∧ ((0 ≤ x_0 ∧ x_0 ≤ 1) ∨ r = -2)) ∧ Fr G [103, 1084, 20102] v v1) := by
  refine CtI.of RX8 [(0, .ref h0), (1, .int x_0)] (Nat.le_of_ble_eq_true rfl) rfl (by decide) rfl ?_
  intro p e s m args below meth c E hr
  refine J_iload_n E dX8_image_0 1 rfl ?_
  refine J_iconst E 0 dX8_image_1 (by decide) ?_
  refine J_iconst E 1 dX8_image_2 (by decide) ?_
  refine J_callSI E cal_X8_in wd996 [.int x_0, .int 0, .int 1] [] (ct_X8_in l D dA G v w (hOk) x_0 0 1) rfl rfl (Nat.le_of_ble_eq_true rfl) ⟨rfl, rfl⟩ ⟨Nat.le_of_ble_eq_true rfl, Nat.le_of_ble_eq_true rfl⟩ dX8_image_3 (fun x4 v1 w2 p3 => ?_)
  rw [p3.1, p3.2.1]
  have b5 : Bd x4 0 1 := p3.2.2.1
  refine J_if_ne E 14 dX8_image_6 (by decide) (fun c6 => ?_) (fun c6 => ?_)
  · have b7 : Bd x4 1 1 := (Bd.ne_lo c6 b5 (Bd.lit 0 0 (by decide))).w _ _ (by decide)
    have g8 := (p3.2.2.2.1).resolve_left c6
    have b9 : Bd x_0 0 I1 := Bd.le_r g8.1 (Bd.lit 0 0 (by decide)) (Bd.any x_0) 0 (by decide)
    have b10 : Bd x_0 0 1 := Bd.le_l g8.2 b9 (Bd.lit 1 1 (by decide)) 1 (by decide)
    refine J_aload_n E dX8_image_14 0 rfl ?_
    refine J_iconst E 0 dX8_image_15 (by decide) ?_
    refine J_sipush E 246 dX8_image_16 (by decide) ?_
    refine J_iconst E 1 dX8_image_19 (by decide) ?_
    refine J_iload_n E dX8_image_20 1 rfl ?_
    refine J_iadd E dX8_image_21 (fun x11 e12 => ?_)
    have b13 : Bd x11 1 2 := (Bd.add e12 (Bd.lit 1 1 (by decide)) b10 (by decide)).w _ _ (by decide)
    refine J_imul E dX8_image_22 (fun x14 e15 => ?_)
    have b16 : Bd x14 246 492 := Bd.mul e15 (Bd.lit 246 246 (by decide)) b13 (by decide)
    refine J_callVV E cal_X8_copyRow wd1112 rfl (S_X8.h S0) [.int 0, .int x14] [] (ct_X8_copyRow l D dA G v w (hOk) h0 S0 0 ((Bd.lit 0 0 (by decide)).w 0 738 (by decide)) x14 (b16.w 0 738 (by decide)) Row.lit0 (Row.of e15 e12 b10)) rfl rfl (Nat.le_of_ble_eq_true rfl) ⟨rfl, rfl⟩ ⟨Nat.le_of_ble_eq_true rfl, Nat.le_of_ble_eq_true rfl⟩ dX8_image_23 (fun v17 w18 p19 => ?_)
    have o21 := p19.1
    have k22 : Kx G (fun a k => a = rf G h0 2) v v17 := (Kx.rf).trp p19.2.1
    have f23 : Fr G [103, 1084, 20102] v v17 := Fr.tr Fr.rf (p19.2.2) (by decide)
    refine J_aload_n E dX8_image_26 0 rfl ?_
    refine J_getR E in_X8 rfl (S_X8.h S0) 2 (by decide) wd937 rfl dX8_image_27 ?_
    refine J_iload_n E dX8_image_30 1 rfl ?_
    refine J_iconst E 1 dX8_image_31 (by decide) ?_
    refine J_zast1 E (S_X8.f2 S0) (Bd.in b10 (by decide)) dX8_image_32 (fun v24 e25 => ?_)
    have b28 : Bd (vp_nar .boolean 1) 0 1 := Bd.narZ _
    have o26 : Ok G v24 w18 := by rw [e25]; exact Ok.svk o21 (S_X8.f2 S0) b28 (fun _ => ⟨Int.le_refl 0, Int.le_refl 1⟩)
    have k27 : Kx G (fun a k => a = rf G h0 2) v v24 := Kx.here k22 e25 rfl
    have f29 : Fr G [103, 1084, 20102] v v24 := Fr.st f23 e25 (S_X8.f2 S0) rfl
    refine J_iconst E 1 dX8_image_33 (by decide) ?_
    exact J_iret E hr dX8_image_34 ⟨o26, k27, ⟨(fun q => by rw [e25, q]; exact ⟨(stv_s (v := v17) (k := 0)).trans (by decide), (stv_k (by decide)).trans (p19.2.1 _ _ (S_X8.f2 S0) 1 0 1 rfl)⟩), (fun q => by rw [e25, q]; exact ⟨(stv_s (v := v17) (k := 1)).trans (by decide), (stv_k (by decide)).trans (p19.2.1 _ _ (S_X8.f2 S0) 0 0 1 rfl)⟩), fun q => absurd ⟨g8.1, g8.2⟩ q⟩, ⟨⟨Or.inr rfl, Or.inl ⟨g8.1, g8.2⟩⟩, f29⟩⟩
  · have b30 : Bd x4 0 0 := Bd.eq_l c6 b5 (Bd.lit 0 0 (by decide)) 0 0 (by decide)
    have g31 : ¬ (0 ≤ x_0 ∧ x_0 ≤ 1) := (p3.2.2.2.2).resolve_left (fun h9 => h9 c6)
    refine J_aload_n E dX8_image_9 0 rfl ?_
    refine J_callVI E cal_X8_bad wd999 rfl (S_X8.h S0) [] [] (ct_X8_bad l D dA G v w (hOk) h0 S0) rfl rfl (Nat.le_of_ble_eq_true rfl) ⟨rfl, rfl⟩ ⟨Nat.le_of_ble_eq_true rfl, Nat.le_of_ble_eq_true rfl⟩ dX8_image_10 (fun x35 v32 w33 p34 => ?_)
    have o36 := p34.1
    have k37 : Kx G (fun a k => a = rf G h0 2) v v32 := (Kx.rf).trp p34.2.1
    have f38 : Fr G [103, 1084, 20102] v v32 := Fr.tr Fr.rf (p34.2.2.2) (by decide)
    have b39 : Bd x35 (-2) (-2) := p34.2.2.1
    exact J_iret E hr dX8_image_13 ⟨o36, k37, ⟨(fun q => absurd (by rw [q]; decide) g31), (fun q => absurd (by rw [q]; decide) g31), fun _ => ⟨p34.2.1 _ _ (S_X8.f2 S0) 0 0 1 rfl, p34.2.1 _ _ (S_X8.f2 S0) 1 0 1 rfl⟩⟩, ⟨⟨Or.inl g31, Or.inr (Bd.m2 b39)⟩, f38⟩⟩
set_option maxHeartbeats 4000000 in
set_option maxRecDepth 100000 in
theorem ctx_X7_from (l : Launch) (D : va_G) (dA : Nat → ClassId) (G : Gm) (v : Mv) (w : Mw) (hOk : Ok G v w) (h0 : Nat) (S0 : S_X7 G h0) (x_0 : Int32) : CtI l yX7_from cX7_from 2 (some .int) rm_X7_from D dA G [.ref h0, .int x_0] v w (fun r v1 w1 => Ok G v1 w1 ∧ Kp G v v1 ∧ FrP x_0 (bitof (v h0 3) x_0) r ∧ Fr G [2, 4, 6, 7, 107, 120, 124] v v1) := by
  refine CtI.of RX7 [(0, .ref h0), (1, .int x_0)] (Nat.le_of_ble_eq_true rfl) rfl (by decide) rfl ?_
  intro p e s m args below meth c E hr
  refine J_iload_n E dX7_from_0 1 rfl ?_
  refine J_iconst E 0 dX7_from_1 (by decide) ?_
  refine J_iconst E 1 dX7_from_2 (by decide) ?_
  refine J_callSI E cal_X7_isWithin wd361 [.int x_0, .int 0, .int 1] [] (ct_X7_isWithin l D dA G v w (hOk) x_0 0 1) rfl rfl (Nat.le_of_ble_eq_true rfl) ⟨rfl, rfl⟩ ⟨Nat.le_of_ble_eq_true rfl, Nat.le_of_ble_eq_true rfl⟩ dX7_from_3 (fun x4 v1 w2 p3 => ?_)
  rw [p3.1, p3.2.1]
  have b5 : Bd x4 0 1 := p3.2.2.1
  refine J_if_ne E 14 dX7_from_6 (by decide) (fun c6 => ?_) (fun c6 => ?_)
  · have b7 : Bd x4 1 1 := (Bd.ne_lo c6 b5 (Bd.lit 0 0 (by decide))).w _ _ (by decide)
    have g8 := (p3.2.2.2.1).resolve_left c6
    have b9 : Bd x_0 0 I1 := Bd.le_r g8.1 (Bd.lit 0 0 (by decide)) (Bd.any x_0) 0 (by decide)
    have b10 : Bd x_0 0 1 := Bd.le_l g8.2 b9 (Bd.lit 1 1 (by decide)) 1 (by decide)
    refine J_aload_n E dX7_from_14 0 rfl ?_
    refine J_getI E in_X7 rfl (S_X7.h S0) 3 (by decide) wd311 rfl dX7_from_15 (fun x11 e12 => ?_)
    refine J_iload_n E dX7_from_18 1 rfl ?_
    refine J_ishr E dX7_from_19 (fun x13 e14 => ?_)
    refine J_iconst E 1 dX7_from_20 (by decide) ?_
    refine J_iand E dX7_from_21 (fun x15 e16 => ?_)
    have b17 : Bd x15 0 1 := Bd.and_r e16 (Bd.lit 1 1 (by decide)) (by decide)
    refine J_if_ne E 30 dX7_from_22 (by decide) (fun c18 => ?_) (fun c18 => ?_)
    · have b19 : Bd x15 1 1 := (Bd.ne_lo c18 b17 (Bd.lit 0 0 (by decide))).w _ _ (by decide)
      refine J_aload_n E dX7_from_30 0 rfl ?_
      refine J_getR E in_X7 rfl (S_X7.h S0) 0 (by decide) wd308 rfl dX7_from_31 ?_
      refine J_aload_n E dX7_from_34 0 rfl ?_
      refine J_getR E in_X7 rfl (S_X7.h S0) 2 (by decide) wd310 rfl dX7_from_35 ?_
      refine J_iload_n E dX7_from_38 1 rfl ?_
      have hi23 := Bd.in (n := 2) b10 (by decide)
      obtain ⟨q20, hq21, hw22⟩ := Ok.el hOk (S_X7.f2 S0).1 hi23
      refine J_aald3 E (S_X7.f2 S0).1 hi23 hw22 dX7_from_39 ?_
      have S24 := (S_X7.f2 S0).2 q20 hq21
      refine J_callVNV E cal_X6_copyFrom wd567 rfl (S_X6.h (S_X7.f0 S0)) [.ref q20] [] (ct_X6_copyFrom l D dA G v w (hOk) (rf G h0 0) (S_X7.f0 S0) q20 S24) rfl rfl (Nat.le_of_ble_eq_true rfl) ⟨rfl, rfl⟩ ⟨Nat.le_of_ble_eq_true rfl, Nat.le_of_ble_eq_true rfl⟩ dX7_from_40 (fun v25 w26 p27 => ?_)
      have o29 := p27.1
      have k30 : Kp G v v25 := (Kp.rf).tr p27.2.1
      have f31 : Fr G [2, 4, 6, 7, 107, 120, 124] v v25 := Fr.tr Fr.rf (p27.2.2) (by decide)
      refine J_iconst E 1 dX7_from_43 (by decide) ?_
      exact J_iret E hr dX7_from_44 ⟨o29, k30, Or.inl ⟨g8, (by unfold bitof; rw [← e12, ← e14, ← e16]; exact c18), rfl⟩, f31⟩
    · have b32 : Bd x15 0 0 := Bd.eq_l c18 b17 (Bd.lit 0 0 (by decide)) 0 0 (by decide)
      refine J_aload_n E dX7_from_25 0 rfl ?_
      refine J_callVI E cal_X7_no wd591 rfl (S_X7.h S0) [] [] (ct_X7_no l D dA G v w (hOk) h0 S0) rfl rfl (Nat.le_of_ble_eq_true rfl) ⟨rfl, rfl⟩ ⟨Nat.le_of_ble_eq_true rfl, Nat.le_of_ble_eq_true rfl⟩ dX7_from_26 (fun x36 v33 w34 p35 => ?_)
      have o37 := p35.1
      have k38 : Kp G v v33 := (Kp.rf).tr p35.2.1
      have f39 : Fr G [2, 4, 6, 7, 107, 120, 124] v v33 := Fr.tr Fr.rf (p35.2.2.2) (by decide)
      have b40 : Bd x36 (-3) (-3) := p35.2.2.1
      exact J_iret E hr dX7_from_29 ⟨o37, k38, Or.inr (Or.inl ⟨g8, (by unfold bitof; rw [← e12, ← e14, ← e16]; exact c18), Bd.pt b40 (by decide)⟩), f39⟩
  · have b41 : Bd x4 0 0 := Bd.eq_l c6 b5 (Bd.lit 0 0 (by decide)) 0 0 (by decide)
    have g42 : ¬ (0 ≤ x_0 ∧ x_0 ≤ 1) := (p3.2.2.2.2).resolve_left (fun h9 => h9 c6)
    refine J_aload_n E dX7_from_9 0 rfl ?_
    refine J_callVI E cal_X7_bad wd364 rfl (S_X7.h S0) [] [] (ct_X7_bad l D dA G v w (hOk) h0 S0) rfl rfl (Nat.le_of_ble_eq_true rfl) ⟨rfl, rfl⟩ ⟨Nat.le_of_ble_eq_true rfl, Nat.le_of_ble_eq_true rfl⟩ dX7_from_10 (fun x46 v43 w44 p45 => ?_)
    have o47 := p45.1
    have k48 : Kp G v v43 := (Kp.rf).tr p45.2.1
    have f49 : Fr G [2, 4, 6, 7, 107, 120, 124] v v43 := Fr.tr Fr.rf (p45.2.2.2) (by decide)
    have b50 : Bd x46 (-2) (-2) := p45.2.2.1
    exact J_iret E hr dX7_from_13 ⟨o47, k48, Or.inr (Or.inr ⟨g42, Bd.pt b50 (by decide)⟩), f49⟩
set_option maxHeartbeats 4000000 in
set_option maxRecDepth 100000 in
theorem ctx_X8_from (l : Launch) (D : va_G) (dA : Nat → ClassId) (G : Gm) (v : Mv) (w : Mw) (hOk : Ok G v w) (h0 : Nat) (S0 : S_X8 G h0) (x_0 : Int32) : CtI l yX8_from cX8_from 2 (some .int) rm_X8_from D dA G [.ref h0, .int x_0] v w (fun r v1 w1 => Ok G v1 w1 ∧ Kp G v v1 ∧ FrP x_0 (v (rf G h0 2) x_0.toNatClampNeg) r ∧ Fr G [103, 1084] v v1) := by
  refine CtI.of RX8 [(0, .ref h0), (1, .int x_0)] (Nat.le_of_ble_eq_true rfl) rfl (by decide) rfl ?_
  intro p e s m args below meth c E hr
  refine J_iload_n E dX8_from_0 1 rfl ?_
  refine J_iconst E 0 dX8_from_1 (by decide) ?_
  refine J_iconst E 1 dX8_from_2 (by decide) ?_
  refine J_callSI E cal_X8_in wd996 [.int x_0, .int 0, .int 1] [] (ct_X8_in l D dA G v w (hOk) x_0 0 1) rfl rfl (Nat.le_of_ble_eq_true rfl) ⟨rfl, rfl⟩ ⟨Nat.le_of_ble_eq_true rfl, Nat.le_of_ble_eq_true rfl⟩ dX8_from_3 (fun x4 v1 w2 p3 => ?_)
  rw [p3.1, p3.2.1]
  have b5 : Bd x4 0 1 := p3.2.2.1
  refine J_if_ne E 14 dX8_from_6 (by decide) (fun c6 => ?_) (fun c6 => ?_)
  · have b7 : Bd x4 1 1 := (Bd.ne_lo c6 b5 (Bd.lit 0 0 (by decide))).w _ _ (by decide)
    have g8 := (p3.2.2.2.1).resolve_left c6
    have b9 : Bd x_0 0 I1 := Bd.le_r g8.1 (Bd.lit 0 0 (by decide)) (Bd.any x_0) 0 (by decide)
    have b10 : Bd x_0 0 1 := Bd.le_l g8.2 b9 (Bd.lit 1 1 (by decide)) 1 (by decide)
    refine J_aload_n E dX8_from_14 0 rfl ?_
    refine J_getR E in_X8 rfl (S_X8.h S0) 2 (by decide) wd937 rfl dX8_from_15 ?_
    refine J_iload_n E dX8_from_18 1 rfl ?_
    refine J_zald1 E (S_X8.f2 S0) (Bd.in b10 (by decide)) dX8_from_19 (fun x11 e12 => ?_)
    have b13 : Bd x11 0 1 := Bd.e (Ok.ld hOk (S_X8.f2 S0) b10 0 2 0 1 (by decide) (by decide +kernel)) e12
    refine J_if_ne E 28 dX8_from_20 (by decide) (fun c14 => ?_) (fun c14 => ?_)
    · have b15 : Bd x11 1 1 := (Bd.ne_lo c14 b13 (Bd.lit 0 0 (by decide))).w _ _ (by decide)
      refine J_aload_n E dX8_from_28 0 rfl ?_
      refine J_sipush E 246 dX8_from_29 (by decide) ?_
      refine J_iconst E 1 dX8_from_32 (by decide) ?_
      refine J_iload_n E dX8_from_33 1 rfl ?_
      refine J_iadd E dX8_from_34 (fun x16 e17 => ?_)
      have b18 : Bd x16 1 2 := (Bd.add e17 (Bd.lit 1 1 (by decide)) b10 (by decide)).w _ _ (by decide)
      refine J_imul E dX8_from_35 (fun x19 e20 => ?_)
      have b21 : Bd x19 246 492 := Bd.mul e20 (Bd.lit 246 246 (by decide)) b18 (by decide)
      refine J_iconst E 0 dX8_from_36 (by decide) ?_
      refine J_callVV E cal_X8_copyRow wd1112 rfl (S_X8.h S0) [.int x19, .int 0] [] (ct_X8_copyRow l D dA G v w (hOk) h0 S0 x19 (b21.w 0 738 (by decide)) 0 ((Bd.lit 0 0 (by decide)).w 0 738 (by decide)) (Row.of e20 e17 b10) Row.lit0) rfl rfl (Nat.le_of_ble_eq_true rfl) ⟨rfl, rfl⟩ ⟨Nat.le_of_ble_eq_true rfl, Nat.le_of_ble_eq_true rfl⟩ dX8_from_37 (fun v22 w23 p24 => ?_)
      have o26 := p24.1
      have k27 : Kp G v v22 := (Kp.rf).tr p24.2.1
      have f28 : Fr G [103, 1084] v v22 := Fr.tr Fr.rf (p24.2.2) (by decide)
      refine J_iconst E 1 dX8_from_40 (by decide) ?_
      exact J_iret E hr dX8_from_41 ⟨o26, k27, Or.inl ⟨g8, (by rw [← e12]; exact c14), rfl⟩, f28⟩
    · have b29 : Bd x11 0 0 := Bd.eq_l c14 b13 (Bd.lit 0 0 (by decide)) 0 0 (by decide)
      refine J_aload_n E dX8_from_23 0 rfl ?_
      refine J_callVI E cal_X8_no wd1132 rfl (S_X8.h S0) [] [] (ct_X8_no l D dA G v w (hOk) h0 S0) rfl rfl (Nat.le_of_ble_eq_true rfl) ⟨rfl, rfl⟩ ⟨Nat.le_of_ble_eq_true rfl, Nat.le_of_ble_eq_true rfl⟩ dX8_from_24 (fun x33 v30 w31 p32 => ?_)
      have o34 := p32.1
      have k35 : Kp G v v30 := (Kp.rf).tr p32.2.1
      have f36 : Fr G [103, 1084] v v30 := Fr.tr Fr.rf (p32.2.2.2) (by decide)
      have b37 : Bd x33 (-3) (-3) := p32.2.2.1
      exact J_iret E hr dX8_from_27 ⟨o34, k35, Or.inr (Or.inl ⟨g8, (by rw [← e12]; exact c14), Bd.pt b37 (by decide)⟩), f36⟩
  · have b38 : Bd x4 0 0 := Bd.eq_l c6 b5 (Bd.lit 0 0 (by decide)) 0 0 (by decide)
    have g39 : ¬ (0 ≤ x_0 ∧ x_0 ≤ 1) := (p3.2.2.2.2).resolve_left (fun h9 => h9 c6)
    refine J_aload_n E dX8_from_9 0 rfl ?_
    refine J_callVI E cal_X8_bad wd999 rfl (S_X8.h S0) [] [] (ct_X8_bad l D dA G v w (hOk) h0 S0) rfl rfl (Nat.le_of_ble_eq_true rfl) ⟨rfl, rfl⟩ ⟨Nat.le_of_ble_eq_true rfl, Nat.le_of_ble_eq_true rfl⟩ dX8_from_10 (fun x43 v40 w41 p42 => ?_)
    have o44 := p42.1
    have k45 : Kp G v v40 := (Kp.rf).tr p42.2.1
    have f46 : Fr G [103, 1084] v v40 := Fr.tr Fr.rf (p42.2.2.2) (by decide)
    have b47 : Bd x43 (-2) (-2) := p42.2.2.1
    exact J_iret E hr dX8_from_13 ⟨o44, k45, Or.inr (Or.inr ⟨g39, Bd.pt b47 (by decide)⟩), f46⟩
/-- what the class's text and images share with the reference's -/
def RI (k p q : Int32) : Prop := (k = 0 ∧ p = 0 ∧ q = 0) ∨ (k = 1 ∧ p = 1 ∧ q = 0) ∨ (k = 2 ∧ p = 0 ∧ q = 1) ∨ (k = 3 ∧ p = 1 ∧ q = 1)
def Rel (G : Gm) (a7 a8 : Nat) (v : Mv) : Prop := v (rf G a7 1) 1 = v a8 5 ∧ RI (v a7 3) (v (rf G a8 2) 0) (v (rf G a8 2) 1)
section RL
variable {G : Gm} {a7 a8 : Nat} {v v1 v2 : Mv} {x r1 r2 : Int32}
theorem Rel.same (h : Rel G a7 a8 v) (e : v1 = v) : Rel G a7 a8 v1 := by rw [e]; exact h
theorem Rel.kp (S7 : S_X7 G a7) (S8 : S_X8 G a8) (k : Kp G v v1) (h : Rel G a7 a8 v) : Rel G a7 a8 v1 := by
  unfold Rel
  rw [k _ _ (S_X3.h (S_X7.f1 S7)) 1 0 150 rfl, k _ _ (S_X8.h S8) 5 0 150 rfl, k _ _ (S_X7.h S7) 3 I0 I1 rfl, k _ _ (S_X8.f2 S8) 0 0 1 rfl, k _ _ (S_X8.f2 S8) 1 0 1 rfl]
  exact h
theorem Rel.zero {w : Mw} (S7 : S_X7 G a7) (S8 : S_X8 G a8) (h : Oz G v w []) : Rel G a7 a8 v := by
  unfold Rel
  rw [h.2.1 _ _ (S_X3.h (S_X7.f1 S7)) 1 0 150 rfl, h.2.1 _ _ (S_X8.h S8) 5 0 150 rfl, h.2.1 _ _ (S_X7.h S7) 3 I0 I1 rfl, h.2.1 _ _ (S_X8.f2 S8) 0 0 1 rfl, h.2.1 _ _ (S_X8.f2 S8) 1 0 1 rfl]
  exact ⟨rfl, Or.inl ⟨rfl, rfl, rfl⟩⟩
theorem ne37 (S7 : S_X7 G a7) : a7 ≠ rf G a7 1 := tg_ne (S_X7.h S7) (S_X3.h (S_X7.f1 S7)) rfl
theorem Rel.type (S7 : S_X7 G a7) (S8 : S_X8 G a8) (h : Rel G a7 a8 v) (k1 : Kx G (fun a k => a = rf G a7 1 ∧ k = 1) v v1) (t1 : TyP x (v (rf G a7 1) 1) r1 (v1 (rf G a7 1) 1)) (k2 : Kx G (fun a k => a = a8 ∧ k = 5) v1 v2) (t2 : TyP x (v1 a8 5) r2 (v2 a8 5)) : r1 = r2 ∧ Rel G a7 a8 v2 := by
  have e1 : v1 a8 5 = v a8 5 := k1 _ _ (S_X8.h S8) 5 0 150 rfl (fun q => absurd q.2 (by decide))
  have e2 : v2 (rf G a7 1) 1 = v1 (rf G a7 1) 1 := k2 _ _ (S_X3.h (S_X7.f1 S7)) 1 0 150 rfl (fun q => absurd q.2 (by decide))
  rw [e1, ← h.1] at t2
  obtain ⟨d1, d2⟩ := t1.det t2
  refine ⟨d1, e2.trans d2, ?_⟩
  rw [k2 _ _ (S_X7.h S7) 3 I0 I1 rfl (fun q => absurd q.2 (by decide)), k2 _ _ (S_X8.f2 S8) 0 0 1 rfl (fun q => absurd q.2 (by decide)), k2 _ _ (S_X8.f2 S8) 1 0 1 rfl (fun q => absurd q.2 (by decide))]
  rw [k1 _ _ (S_X7.h S7) 3 I0 I1 rfl (fun q => absurd q.2 (by decide)), k1 _ _ (S_X8.f2 S8) 0 0 1 rfl (fun q => absurd q.2 (by decide)), k1 _ _ (S_X8.f2 S8) 1 0 1 rfl (fun q => tg_ne (S_X8.f2 S8) (S_X3.h (S_X7.f1 S7)) rfl q.1)]
  exact h.2
theorem Rel.clear (S7 : S_X7 G a7) (S8 : S_X8 G a8) (h : Rel G a7 a8 v) (k1 : Kx G (fun a k => a = rf G a7 1 ∧ k = 1) v v1) (t1 : r1 = v (rf G a7 1) 1 ∧ v1 (rf G a7 1) 1 = 0) (k2 : Kx G (fun a k => a = a8 ∧ k = 5) v1 v2) (t2 : r2 = v1 a8 5 ∧ v2 a8 5 = 0) : r1 = r2 ∧ Rel G a7 a8 v2 := by
  have e1 : v1 a8 5 = v a8 5 := k1 _ _ (S_X8.h S8) 5 0 150 rfl (fun q => absurd q.2 (by decide))
  have e2 : v2 (rf G a7 1) 1 = v1 (rf G a7 1) 1 := k2 _ _ (S_X3.h (S_X7.f1 S7)) 1 0 150 rfl (fun q => absurd q.2 (by decide))
  refine ⟨t1.1.trans (h.1.trans (e1.symm.trans t2.1.symm)), e2.trans (t1.2.trans t2.2.symm), ?_⟩
  rw [k2 _ _ (S_X7.h S7) 3 I0 I1 rfl (fun q => absurd q.2 (by decide)), k2 _ _ (S_X8.f2 S8) 0 0 1 rfl (fun q => absurd q.2 (by decide)), k2 _ _ (S_X8.f2 S8) 1 0 1 rfl (fun q => absurd q.2 (by decide))]
  rw [k1 _ _ (S_X7.h S7) 3 I0 I1 rfl (fun q => absurd q.2 (by decide)), k1 _ _ (S_X8.f2 S8) 0 0 1 rfl (fun q => absurd q.2 (by decide)), k1 _ _ (S_X8.f2 S8) 1 0 1 rfl (fun q => tg_ne (S_X8.f2 S8) (S_X3.h (S_X7.f1 S7)) rfl q.1)]
  exact h.2
theorem in01 (h : 0 ≤ x ∧ x ≤ 1) : x = 0 ∨ x = 1 := by
  have h1 := Int32.le_iff_toInt_le.mp h.1
  have h2 := Int32.le_iff_toInt_le.mp h.2
  have z0 : (0 : Int32).toInt = 0 := by decide
  have z1 : (1 : Int32).toInt = 1 := by decide
  rcases (show x.toInt = 0 ∨ x.toInt = 1 by omega) with q | q
  · exact Or.inl (Int32.toInt_inj.mp (q.trans z0.symm))
  · exact Or.inr (Int32.toInt_inj.mp (q.trans z1.symm))
theorem Rel.image (S7 : S_X7 G a7) (S8 : S_X8 G a8) (h : Rel G a7 a8 v) (k1 : Kx G (fun a k => a = a7 ∧ k = 3) v v1) (t1 : (x = 0 → v1 a7 3 = v a7 3 ||| 1) ∧ (x = 1 → v1 a7 3 = v a7 3 ||| 2) ∧ (¬ (0 ≤ x ∧ x ≤ 1) → v1 a7 3 = v a7 3)) (k2 : Kx G (fun a _ => a = rf G a8 2) v1 v2) (t2 : (x = 0 → v2 (rf G a8 2) 0 = 1 ∧ v2 (rf G a8 2) 1 = v1 (rf G a8 2) 1) ∧ (x = 1 → v2 (rf G a8 2) 1 = 1 ∧ v2 (rf G a8 2) 0 = v1 (rf G a8 2) 0) ∧ (¬ (0 ≤ x ∧ x ≤ 1) → v2 (rf G a8 2) 0 = v1 (rf G a8 2) 0 ∧ v2 (rf G a8 2) 1 = v1 (rf G a8 2) 1)) : Rel G a7 a8 v2 := by
  have n0 : a8 ≠ rf G a8 2 := tg_ne (S_X8.h S8) (S_X8.f2 S8) rfl
  have n1 : rf G a7 1 ≠ rf G a8 2 := tg_ne (S_X3.h (S_X7.f1 S7)) (S_X8.f2 S8) rfl
  have n2 : a7 ≠ rf G a8 2 := tg_ne (S_X7.h S7) (S_X8.f2 S8) rfl
  have e1 : v2 (rf G a7 1) 1 = v1 (rf G a7 1) 1 := k2 _ _ (S_X3.h (S_X7.f1 S7)) 1 0 150 rfl n1
  have e2 : v2 a8 5 = v1 a8 5 := k2 _ _ (S_X8.h S8) 5 0 150 rfl n0
  have e3 : v2 a7 3 = v1 a7 3 := k2 _ _ (S_X7.h S7) 3 I0 I1 rfl n2
  have e4 : v1 (rf G a7 1) 1 = v (rf G a7 1) 1 := k1 _ _ (S_X3.h (S_X7.f1 S7)) 1 0 150 rfl (fun q => absurd q.2 (by decide))
  have e5 : v1 a8 5 = v a8 5 := k1 _ _ (S_X8.h S8) 5 0 150 rfl (fun q => absurd q.2 (by decide))
  have e6 : v1 (rf G a8 2) 0 = v (rf G a8 2) 0 := k1 _ _ (S_X8.f2 S8) 0 0 1 rfl (fun q => absurd q.2 (by decide))
  have e7 : v1 (rf G a8 2) 1 = v (rf G a8 2) 1 := k1 _ _ (S_X8.f2 S8) 1 0 1 rfl (fun q => absurd q.2 (by decide))
  refine ⟨by rw [e1, e2, e4, e5]; exact h.1, ?_⟩
  have h2 := h.2
  rw [e3]
  by_cases hx : 0 ≤ x ∧ x ≤ 1
  · rcases in01 hx with q | q
    · rw [t1.1 q, (t2.1 q).1, (t2.1 q).2, e7]
      rcases h2 with ⟨p1, p2, p3⟩ | ⟨p1, p2, p3⟩ | ⟨p1, p2, p3⟩ | ⟨p1, p2, p3⟩ <;> rw [p1, p3]
      · exact Or.inr (Or.inl ⟨by decide, rfl, rfl⟩)
      · exact Or.inr (Or.inl ⟨by decide, rfl, rfl⟩)
      · exact Or.inr (Or.inr (Or.inr ⟨by decide, rfl, rfl⟩))
      · exact Or.inr (Or.inr (Or.inr ⟨by decide, rfl, rfl⟩))
    · rw [t1.2.1 q, (t2.2.1 q).1, (t2.2.1 q).2, e6]
      rcases h2 with ⟨p1, p2, p3⟩ | ⟨p1, p2, p3⟩ | ⟨p1, p2, p3⟩ | ⟨p1, p2, p3⟩ <;> rw [p1, p2]
      · exact Or.inr (Or.inr (Or.inl ⟨by decide, rfl, rfl⟩))
      · exact Or.inr (Or.inr (Or.inr ⟨by decide, rfl, rfl⟩))
      · exact Or.inr (Or.inr (Or.inl ⟨by decide, rfl, rfl⟩))
      · exact Or.inr (Or.inr (Or.inr ⟨by decide, rfl, rfl⟩))
  · rw [t1.2.2 hx, (t2.2.2 hx).1, (t2.2.2 hx).2, e6, e7]
    exact h2
theorem FrP.det {b b' : Int32} (h : FrP x b r1) (h' : FrP x b' r2) (hb : (0 ≤ x ∧ x ≤ 1) → (b = 0 ↔ b' = 0)) : r1 = r2 := by
  rcases h with ⟨a1, a2, a3⟩ | ⟨a1, a2, a3⟩ | ⟨a1, a3⟩ <;> rcases h' with ⟨b1, b2, b3⟩ | ⟨b1, b2, b3⟩ | ⟨b1, b3⟩
  · exact a3.trans b3.symm
  · exact absurd ((hb a1).mpr b2) a2
  · exact absurd a1 b1
  · exact absurd ((hb a1).mp a2) b2
  · exact a3.trans b3.symm
  · exact absurd a1 b1
  · exact absurd b1 a1
  · exact absurd b1 a1
  · exact a3.trans b3.symm
theorem Rel.from (S7 : S_X7 G a7) (S8 : S_X8 G a8) (h : Rel G a7 a8 v) (k1 : Kp G v v1) (t1 : FrP x (bitof (v a7 3) x) r1) (t2 : FrP x (v1 (rf G a8 2) x.toNatClampNeg) r2) : r1 = r2 := by
  refine t1.det t2 (fun hx => ?_)
  have h2 := (h.kp S7 S8 k1).2
  rw [k1 _ _ (S_X7.h S7) 3 I0 I1 rfl] at h2
  rcases in01 hx with q | q
  · subst q
    rw [show Int32.toNatClampNeg 0 = 0 from by decide]
    rcases h2 with ⟨p1, p2, p3⟩ | ⟨p1, p2, p3⟩ | ⟨p1, p2, p3⟩ | ⟨p1, p2, p3⟩ <;> rw [p1, p2] <;> decide
  · subst q
    rw [show Int32.toNatClampNeg 1 = 1 from by decide]
    rcases h2 with ⟨p1, p2, p3⟩ | ⟨p1, p2, p3⟩ | ⟨p1, p2, p3⟩ | ⟨p1, p2, p3⟩ <;> rw [p1, p3] <;> decide
end RL
