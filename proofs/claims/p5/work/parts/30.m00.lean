abbrev rm_X8_in : Room := { frames := 0, cells := 0, slots := 0, locals := 0 }
set_option maxHeartbeats 4000000 in
set_option maxRecDepth 100000 in
theorem ct_X8_in (l : Launch) (D : va_G) (dA : Nat → ClassId) (G : Gm) (v : Mv) (w : Mw) (hOk : Ok G v w) (x_0 : Int32) (x_1 : Int32) (x_2 : Int32) : CtI l yX8_in cX8_in 3 (some .boolean) rm_X8_in D dA G [.int x_0, .int x_1, .int x_2] v w (fun r v1 w1 => v1 = v ∧ w1 = w ∧ Bd r 0 1 ∧ (r = 0 ∨ (x_1 ≤ x_0 ∧ x_0 ≤ x_2)) ∧ (¬ r = 0 ∨ ¬ (x_1 ≤ x_0 ∧ x_0 ≤ x_2))) := by
  refine CtI.of RX8 [(0, .int x_0), (1, .int x_1), (2, .int x_2)] (Nat.le_of_ble_eq_true rfl) rfl (by decide) rfl ?_
  intro p e s m args below meth c E hr
  refine J_iload_n E dX8_in_0 0 rfl ?_
  refine J_iload_n E dX8_in_1 1 rfl ?_
  refine J_icmp_lt E 14 dX8_in_2 (by decide) (fun c1 => ?_) (fun c1 => ?_)
  · refine J_iconst E 0 dX8_in_14 (by decide) ?_
    exact J_zret E hr (Bd.z (Bd.lit 0 0 (by decide)) (by decide)) dX8_in_15 ⟨rfl, rfl, ((Bd.lit 0 0 (by decide)).w 0 1 (by decide)), ⟨(Or.inl rfl), (Or.inr (fun h9 => absurd h9.1 (nle_of_lt c1)))⟩⟩
  · refine J_iload_n E dX8_in_5 0 rfl ?_
    refine J_iload_n E dX8_in_6 2 rfl ?_
    refine J_icmp_gt E 14 dX8_in_7 (by decide) (fun c2 => ?_) (fun c2 => ?_)
    · refine J_iconst E 0 dX8_in_14 (by decide) ?_
      exact J_zret E hr (Bd.z (Bd.lit 0 0 (by decide)) (by decide)) dX8_in_15 ⟨rfl, rfl, ((Bd.lit 0 0 (by decide)).w 0 1 (by decide)), ⟨(Or.inl rfl), (Or.inr (fun h9 => absurd h9.2 (nle_of_lt c2)))⟩⟩
    · refine J_iconst E 1 dX8_in_10 (by decide) ?_
      refine J_goto E 15 dX8_in_11 (by decide) ?_
      exact J_zret E hr (Bd.z (Bd.lit 1 1 (by decide)) (by decide)) dX8_in_15 ⟨rfl, rfl, ((Bd.lit 1 1 (by decide)).w 0 1 (by decide)), ⟨(Or.inr ⟨(nlt c1), (nlt c2)⟩), (Or.inl (by decide))⟩⟩

abbrev rm_X8_has : Room := { frames := 0, cells := 0, slots := 0, locals := 0 }
set_option maxHeartbeats 4000000 in
set_option maxRecDepth 100000 in
theorem ct_X8_has (l : Launch) (D : va_G) (dA : Nat → ClassId) (G : Gm) (v : Mv) (w : Mw) (hOk : Ok G v w) (x_0 : Int32) (x_1 : Int32) (bx_1 : Bd x_1 0 9) : CtI l yX8_has cX8_has 2 (some .boolean) rm_X8_has D dA G [.int x_0, .int x_1] v w (fun r v1 w1 => v1 = v ∧ w1 = w ∧ Bd r 0 1 ∧ True) := by
  refine CtI.of RX8 [(0, .int x_0), (1, .int x_1)] (Nat.le_of_ble_eq_true rfl) rfl (by decide) rfl ?_
  intro p e s m args below meth c E hr
  refine J_iload_n E dX8_has_0 0 rfl ?_
  refine J_iload_n E dX8_has_1 1 rfl ?_
  refine J_ishr E dX8_has_2 (fun x1 e2 => ?_)
  refine J_iconst E 1 dX8_has_3 (by decide) ?_
  refine J_iand E dX8_has_4 (fun x3 e4 => ?_)
  have b5 : Bd x3 0 1 := Bd.and_r e4 (Bd.lit 1 1 (by decide)) (by decide)
  refine J_iconst E 1 dX8_has_5 (by decide) ?_
  refine J_icmp_ne E 13 dX8_has_6 (by decide) (fun c6 => ?_) (fun c6 => ?_)
  · have b7 : Bd x3 0 0 := (Bd.ne_hi c6 b5 (Bd.lit 1 1 (by decide))).w _ _ (by decide)
    refine J_iconst E 0 dX8_has_13 (by decide) ?_
    exact J_zret E hr (Bd.z (Bd.lit 0 0 (by decide)) (by decide)) dX8_has_14 ⟨rfl, rfl, ((Bd.lit 0 0 (by decide)).w 0 1 (by decide)), trivial⟩
  · have b8 : Bd x3 1 1 := Bd.eq_l c6 b5 (Bd.lit 1 1 (by decide)) 1 1 (by decide)
    refine J_iconst E 1 dX8_has_9 (by decide) ?_
    refine J_goto E 14 dX8_has_10 (by decide) ?_
    exact J_zret E hr (Bd.z (Bd.lit 1 1 (by decide)) (by decide)) dX8_has_14 ⟨rfl, rfl, ((Bd.lit 1 1 (by decide)).w 0 1 (by decide)), trivial⟩

abbrev rm_X8_bitsOf : Room := { frames := 0, cells := 0, slots := 0, locals := 0 }
set_option maxHeartbeats 4000000 in
set_option maxRecDepth 100000 in
theorem ct_X8_bitsOf (l : Launch) (D : va_G) (dA : Nat → ClassId) (G : Gm) (v : Mv) (w : Mw) (hOk : Ok G v w) (x_0 : Int32) : CtI l yX8_bitsOf cX8_bitsOf 3 (some .int) rm_X8_bitsOf D dA G [.int x_0] v w (fun r v1 w1 => v1 = v ∧ w1 = w ∧ True ∧ True) := by
  refine CtI.of RX8 [(0, .int x_0)] (Nat.le_of_ble_eq_true rfl) rfl (by decide) rfl ?_
  intro p e s m args below meth c E hr
  have J4 : ∀ n : Nat, ∀ x1 : Int32, ∀ x2 : Int32, Bd x2 0 10 → Mu x2 10 n → J p l e rm_X8_bitsOf s m args below meth c 0 0 (MQ below (QcI D dA G (fun r v1 w1 => v1 = v ∧ w1 = w ∧ True ∧ True)) args s 0 0 (dm G)) D dA G (dm G) s.heap 3 v w [(0, .int x_0), (1, .int x1), (2, .int x2)] 4 [] := by
    intro n
    induction n with
    | zero => intro x1 x2 b3 hm; exact hm.zero b3 (by decide)
    | succ n ih4 =>
      intro x1 x2 b3 hmu4
      refine J_iload_n E dX8_bitsOf_4 2 rfl ?_
      refine J_bipush E 10 dX8_bitsOf_5 (by decide) ?_
      refine J_icmp_ge E 24 dX8_bitsOf_7 (by decide) (fun c4 => ?_) (fun c4 => ?_)
      · have b5 : Bd x2 10 10 := Bd.le_r c4 (Bd.lit 10 10 (by decide)) b3 10 (by decide)
        refine J_iload_n E dX8_bitsOf_24 1 rfl ?_
        exact J_iret E hr dX8_bitsOf_25 ⟨rfl, rfl, trivial, trivial⟩
      · have b6 : Bd x2 0 9 := Bd.lt_l (nle c4) b3 (Bd.lit 10 10 (by decide)) 9 (by decide)
        refine J_iload_n E dX8_bitsOf_10 1 rfl ?_
        refine J_iload_n E dX8_bitsOf_11 0 rfl ?_
        refine J_iload_n E dX8_bitsOf_12 2 rfl ?_
        refine J_ishr E dX8_bitsOf_13 (fun x7 e8 => ?_)
        refine J_iconst E 1 dX8_bitsOf_14 (by decide) ?_
        refine J_iand E dX8_bitsOf_15 (fun x9 e10 => ?_)
        have b11 : Bd x9 0 1 := Bd.and_r e10 (Bd.lit 1 1 (by decide)) (by decide)
        refine J_iadd E dX8_bitsOf_16 (fun x12 e13 => ?_)
        refine J_istore_n E [(1, .int x12), (0, .int x_0), (2, .int x2)] dX8_bitsOf_17 rfl (by decide) rfl ?_
        refine J_iinc E 2 1 (fun z => [(2, .int z), (1, .int x12), (0, .int x_0)]) dX8_bitsOf_18 rfl (by decide) (by decide) (fun _ => rfl) (fun x14 e15 => ?_)
        have b16 : Bd x14 1 10 := (Bd.add e15 b6 (Bd.lit 1 1 (by decide)) (by decide)).w _ _ (by decide)
        refine J_goto E 4 dX8_bitsOf_21 (by decide) ?_
        exact J.sub [2, 1, 0] rfl (ih4 x12 x14 (b16.w 0 10 (by decide)) (Mu.step hmu4 e15 b6 (Bd.lit 1 1 (by decide)) (by decide)))
  refine J_iconst E 0 dX8_bitsOf_0 (by decide) ?_
  refine J_istore_n E [(1, .int 0), (0, .int x_0)] dX8_bitsOf_1 rfl (by decide) rfl ?_
  refine J_iconst E 0 dX8_bitsOf_2 (by decide) ?_
  refine J_istore_n E [(2, .int 0), (1, .int 0), (0, .int x_0)] dX8_bitsOf_3 rfl (by decide) rfl ?_
  exact J.sub [2, 1, 0] rfl (J4 11 0 0 ((Bd.lit 0 0 (by decide)).w 0 10 (by decide)) (Mu.start _ (Bd.lit 0 0 (by decide)) (by decide)))

abbrev rm_X8_bad : Room := { frames := 0, cells := 0, slots := 0, locals := 0 }
set_option maxHeartbeats 4000000 in
set_option maxRecDepth 100000 in
theorem ct_X8_bad (l : Launch) (D : va_G) (dA : Nat → ClassId) (G : Gm) (v : Mv) (w : Mw) (hOk : Ok G v w) (h0 : Nat) (S0 : S_X8 G h0) : CtI l yX8_bad cX8_bad 1 (some .int) rm_X8_bad D dA G [.ref h0] v w (fun r v1 w1 => Ok G v1 w1 ∧ Kp G v v1 ∧ Bd r (-2) (-2) ∧ Fr G [103] v v1) := by
  refine CtI.of RX8 [(0, .ref h0)] (Nat.le_of_ble_eq_true rfl) rfl (by decide) rfl ?_
  intro p e s m args below meth c E hr
  refine J_aload_n E dX8_bad_0 0 rfl ?_
  refine J_getR E in_X8 rfl (S_X8.h S0) 0 (by decide) wd935 rfl dX8_bad_1 ?_
  refine J_iconst E 0 dX8_bad_4 (by decide) ?_
  refine J_dup2 E dX8_bad_5 rfl rfl ?_
  refine J_iald1 E (S_X8.f0 S0) (Bd.in (Bd.lit 0 0 (by decide)) (by decide)) dX8_bad_6 (fun x1 e2 => ?_)
  have e3 : x1 = v (rf G h0 0) 0 := by rw [e2, Bd.ix (Bd.lit 0 0 (by decide)) 0 rfl]
  refine J_iconst E 1 dX8_bad_7 (by decide) ?_
  refine J_iadd E dX8_bad_8 (fun x4 e5 => ?_)
  refine J_iast1 E (S_X8.f0 S0) (Bd.in (Bd.lit 0 0 (by decide)) (by decide)) dX8_bad_9 (fun v6 e7 => ?_)
  have o8 : Ok G v6 w := by rw [e7]; exact Ok.sv hOk (S_X8.f0 S0) (Bd.lit 0 0 (by decide)) (Bd.any x4) 0 1 (by decide) (by decide +kernel)
  have k9 : Kp G v v6 := by rw [e7]; exact Kp.sv Kp.rf (S_X8.f0 S0) (Bd.lit 0 0 (by decide)) 0 1 I0 I1 (by decide) (by decide +kernel)
  have f10 : Fr G [103] v v6 := Fr.st Fr.rf e7 (S_X8.f0 S0) rfl
  have e11 : (x4 : Int32) = v6 (rf G h0 0) 0 := by rw [e7, Bd.ix (Bd.lit 0 0 (by decide)) 0 rfl, stv_s]
  refine J_bipush E (-2) dX8_bad_10 (by decide) ?_
  exact J_iret E hr dX8_bad_12 ⟨o8, k9, (Bd.lit (-2) (-2) (by decide)), f10⟩

abbrev rm_X8_no : Room := { frames := 0, cells := 0, slots := 0, locals := 0 }
set_option maxHeartbeats 4000000 in
set_option maxRecDepth 100000 in
theorem ct_X8_no (l : Launch) (D : va_G) (dA : Nat → ClassId) (G : Gm) (v : Mv) (w : Mw) (hOk : Ok G v w) (h0 : Nat) (S0 : S_X8 G h0) : CtI l yX8_no cX8_no 1 (some .int) rm_X8_no D dA G [.ref h0] v w (fun r v1 w1 => Ok G v1 w1 ∧ Kp G v v1 ∧ Bd r (-3) (-3) ∧ Fr G [103] v v1) := by
  refine CtI.of RX8 [(0, .ref h0)] (Nat.le_of_ble_eq_true rfl) rfl (by decide) rfl ?_
  intro p e s m args below meth c E hr
  refine J_aload_n E dX8_no_0 0 rfl ?_
  refine J_getR E in_X8 rfl (S_X8.h S0) 0 (by decide) wd935 rfl dX8_no_1 ?_
  refine J_iconst E 1 dX8_no_4 (by decide) ?_
  refine J_dup2 E dX8_no_5 rfl rfl ?_
  refine J_iald1 E (S_X8.f0 S0) (Bd.in (Bd.lit 1 1 (by decide)) (by decide)) dX8_no_6 (fun x1 e2 => ?_)
  have e3 : x1 = v (rf G h0 0) 1 := by rw [e2, Bd.ix (Bd.lit 1 1 (by decide)) 1 rfl]
  refine J_iconst E 1 dX8_no_7 (by decide) ?_
  refine J_iadd E dX8_no_8 (fun x4 e5 => ?_)
  refine J_iast1 E (S_X8.f0 S0) (Bd.in (Bd.lit 1 1 (by decide)) (by decide)) dX8_no_9 (fun v6 e7 => ?_)
  have o8 : Ok G v6 w := by rw [e7]; exact Ok.sv hOk (S_X8.f0 S0) (Bd.lit 1 1 (by decide)) (Bd.any x4) 1 1 (by decide) (by decide +kernel)
  have k9 : Kp G v v6 := by rw [e7]; exact Kp.sv Kp.rf (S_X8.f0 S0) (Bd.lit 1 1 (by decide)) 1 1 I0 I1 (by decide) (by decide +kernel)
  have f10 : Fr G [103] v v6 := Fr.st Fr.rf e7 (S_X8.f0 S0) rfl
  have e11 : (x4 : Int32) = v6 (rf G h0 0) 1 := by rw [e7, Bd.ix (Bd.lit 1 1 (by decide)) 1 rfl, stv_s]
  refine J_bipush E (-3) dX8_no_10 (by decide) ?_
  exact J_iret E hr dX8_no_12 ⟨o8, k9, (Bd.lit (-3) (-3) (by decide)), f10⟩

abbrev rm_X8_full : Room := { frames := 0, cells := 0, slots := 0, locals := 0 }
set_option maxHeartbeats 4000000 in
set_option maxRecDepth 100000 in
theorem ct_X8_full (l : Launch) (D : va_G) (dA : Nat → ClassId) (G : Gm) (v : Mv) (w : Mw) (hOk : Ok G v w) (h0 : Nat) (S0 : S_X8 G h0) : CtI l yX8_full cX8_full 1 (some .int) rm_X8_full D dA G [.ref h0] v w (fun r v1 w1 => Ok G v1 w1 ∧ Kp G v v1 ∧ Bd r (-4) (-4) ∧ Fr G [103] v v1) := by
  refine CtI.of RX8 [(0, .ref h0)] (Nat.le_of_ble_eq_true rfl) rfl (by decide) rfl ?_
  intro p e s m args below meth c E hr
  refine J_aload_n E dX8_full_0 0 rfl ?_
  refine J_getR E in_X8 rfl (S_X8.h S0) 0 (by decide) wd935 rfl dX8_full_1 ?_
  refine J_iconst E 2 dX8_full_4 (by decide) ?_
  refine J_dup2 E dX8_full_5 rfl rfl ?_
  refine J_iald1 E (S_X8.f0 S0) (Bd.in (Bd.lit 2 2 (by decide)) (by decide)) dX8_full_6 (fun x1 e2 => ?_)
  have e3 : x1 = v (rf G h0 0) 2 := by rw [e2, Bd.ix (Bd.lit 2 2 (by decide)) 2 rfl]
  refine J_iconst E 1 dX8_full_7 (by decide) ?_
  refine J_iadd E dX8_full_8 (fun x4 e5 => ?_)
  refine J_iast1 E (S_X8.f0 S0) (Bd.in (Bd.lit 2 2 (by decide)) (by decide)) dX8_full_9 (fun v6 e7 => ?_)
  have o8 : Ok G v6 w := by rw [e7]; exact Ok.sv hOk (S_X8.f0 S0) (Bd.lit 2 2 (by decide)) (Bd.any x4) 2 1 (by decide) (by decide +kernel)
  have k9 : Kp G v v6 := by rw [e7]; exact Kp.sv Kp.rf (S_X8.f0 S0) (Bd.lit 2 2 (by decide)) 2 1 I0 I1 (by decide) (by decide +kernel)
  have f10 : Fr G [103] v v6 := Fr.st Fr.rf e7 (S_X8.f0 S0) rfl
  have e11 : (x4 : Int32) = v6 (rf G h0 0) 2 := by rw [e7, Bd.ix (Bd.lit 2 2 (by decide)) 2 rfl, stv_s]
  refine J_bipush E (-4) dX8_full_10 (by decide) ?_
  exact J_iret E hr dX8_full_12 ⟨o8, k9, (Bd.lit (-4) (-4) (by decide)), f10⟩

abbrev rm_X8_begin_0 : Room := { frames := 0, cells := 0, slots := 0, locals := 0 }
set_option maxHeartbeats 4000000 in
set_option maxRecDepth 100000 in
theorem ct_X8_begin_0 (l : Launch) (D : va_G) (dA : Nat → ClassId) (G : Gm) (v : Mv) (w : Mw) (hOk : Ok G v w) (h0 : Nat) (S0 : S_X8 G h0) : CtV l yX8_begin cX8_begin 3 none rm_X8_begin_0 D dA G [.ref h0, .int 0] v w (fun v1 w1 => Ok G v1 w1 ∧ Kp G v v1 ∧ Fr G [1084] v v1) := by
  refine CtV.of RX8 [(0, .ref h0), (1, .int 0)] (Nat.le_of_ble_eq_true rfl) rfl (by decide) rfl ?_
  intro p e s m args below meth c E hr
  have J26 : ∀ n : Nat, ∀ (v1 : Mv) (w2 : Mw), Ok G v1 w2 → Kp G v v1 → Fr G [1084] v v1 → Bd 0 0 0 → ∀ x7 : Int32, Bd x7 0 7 → Mu x7 7 n → J p l e rm_X8_begin_0 s m args below meth c 0 0 (MQ below (QcV D dA G (fun v1 w1 => Ok G v1 w1 ∧ Kp G v v1 ∧ Fr G [1084] v v1)) args s 0 0 (dm G)) D dA G (dm G) s.heap 3 v1 w2 [(0, .ref h0), (1, .int 0), (2, .int x7)] 26 [] := by
    intro n
    induction n with
    | zero => intro v1 w2 o3 k4 f5 b6 x7 b8 hm; exact hm.zero b8 (by decide)
    | succ n ih26 =>
      intro v1 w2 o3 k4 f5 b6 x7 b8 hmu26
      refine J_iload_n E dX8_begin_26 2 rfl ?_
      refine J_bipush E 7 dX8_begin_27 (by decide) ?_
      refine J_icmp_ge E 53 dX8_begin_29 (by decide) (fun c9 => ?_) (fun c9 => ?_)
      · have b10 : Bd x7 7 7 := Bd.le_r c9 (Bd.lit 7 7 (by decide)) b8 7 (by decide)
        exact J_vret E hr dX8_begin_53 ⟨o3, k4, f5⟩
      · have b11 : Bd x7 0 6 := Bd.lt_l (nle c9) b8 (Bd.lit 7 7 (by decide)) 6 (by decide)
        refine J_aload_n E dX8_begin_32 0 rfl ?_
        refine J_getR E in_X8 rfl (S_X8.h S0) 1 (by decide) wd936 rfl dX8_begin_33 ?_
        refine J_iload_n E dX8_begin_36 1 rfl ?_
        refine J_bipush E 34 dX8_begin_37 (by decide) ?_
        refine J_iadd E dX8_begin_39 (fun x12 e13 => ?_)
        have b14 : Bd x12 34 34 := (Bd.add e13 (Bd.lit 0 0 (by decide)) (Bd.lit 34 34 (by decide)) (by decide)).w _ _ (by decide)
        refine J_bipush E 9 dX8_begin_40 (by decide) ?_
        refine J_iadd E dX8_begin_42 (fun x15 e16 => ?_)
        have b17 : Bd x15 43 43 := (Bd.add e16 b14 (Bd.lit 9 9 (by decide)) (by decide)).w _ _ (by decide)
        refine J_iload_n E dX8_begin_43 2 rfl ?_
        refine J_iadd E dX8_begin_44 (fun x18 e19 => ?_)
        have b20 : Bd x18 43 49 := (Bd.add e19 b17 b11 (by decide)).w _ _ (by decide)
        refine J_iconst E (-1) dX8_begin_45 (by decide) ?_
        refine J_iast1 E (S_X8.f1 S0) (Bd.in b20 (by decide)) dX8_begin_46 (fun v21 e22 => ?_)
        have o23 : Ok G v21 w2 := by rw [e22]; exact Ok.sv o3 (S_X8.f1 S0) b20 (Bd.lit (-1) (-1) (by decide)) 43 7 (by decide) (by decide +kernel)
        have k24 : Kp G v v21 := by rw [e22]; exact Kp.sv k4 (S_X8.f1 S0) b20 43 7 (-1) (-1) (by decide) (by decide +kernel)
        have f25 : Fr G [1084] v v21 := Fr.st f5 e22 (S_X8.f1 S0) rfl
        refine J_iinc E 2 1 (fun z => [(2, .int z), (0, .ref h0), (1, .int 0)]) dX8_begin_47 rfl (by decide) (by decide) (fun _ => rfl) (fun x26 e27 => ?_)
        have b28 : Bd x26 1 7 := (Bd.add e27 b11 (Bd.lit 1 1 (by decide)) (by decide)).w _ _ (by decide)
        refine J_goto E 26 dX8_begin_50 (by decide) ?_
        exact J.sub [1, 2, 0] rfl (ih26 v21 w2 (o23) (k24) f25 (Bd.lit 0 0 (by decide)) x26 (b28.w 0 7 (by decide)) (Mu.step hmu26 e27 b11 (Bd.lit 1 1 (by decide)) (by decide)))
  have J2 : ∀ n : Nat, ∀ (v29 : Mv) (w30 : Mw), Ok G v29 w30 → Kp G v v29 → Fr G [1084] v v29 → Bd 0 0 0 → ∀ x35 : Int32, Bd x35 0 246 → Mu x35 246 n → J p l e rm_X8_begin_0 s m args below meth c 0 0 (MQ below (QcV D dA G (fun v1 w1 => Ok G v1 w1 ∧ Kp G v v1 ∧ Fr G [1084] v v1)) args s 0 0 (dm G)) D dA G (dm G) s.heap 3 v29 w30 [(0, .ref h0), (1, .int 0), (2, .int x35)] 2 [] := by
    intro n
    induction n with
    | zero => intro v29 w30 o31 k32 f33 b34 x35 b36 hm; exact hm.zero b36 (by decide)
    | succ n ih2 =>
      intro v29 w30 o31 k32 f33 b34 x35 b36 hmu2
      refine J_iload_n E dX8_begin_2 2 rfl ?_
      refine J_sipush E 246 dX8_begin_3 (by decide) ?_
      refine J_icmp_ge E 24 dX8_begin_6 (by decide) (fun c37 => ?_) (fun c37 => ?_)
      · have b38 : Bd x35 246 246 := Bd.le_r c37 (Bd.lit 246 246 (by decide)) b36 246 (by decide)
        refine J_iconst E 0 dX8_begin_24 (by decide) ?_
        refine J_istore_n E [(2, .int 0), (0, .ref h0), (1, .int 0)] dX8_begin_25 rfl (by decide) rfl ?_
        exact J.sub [1, 2, 0] rfl (J26 8 v29 w30 (o31) (k32) f33 (Bd.lit 0 0 (by decide)) 0 ((Bd.lit 0 0 (by decide)).w 0 7 (by decide)) (Mu.start _ (Bd.lit 0 0 (by decide)) (by decide)))
      · have b39 : Bd x35 0 245 := Bd.lt_l (nle c37) b36 (Bd.lit 246 246 (by decide)) 245 (by decide)
        refine J_aload_n E dX8_begin_9 0 rfl ?_
        refine J_getR E in_X8 rfl (S_X8.h S0) 1 (by decide) wd936 rfl dX8_begin_10 ?_
        refine J_iload_n E dX8_begin_13 1 rfl ?_
        refine J_iload_n E dX8_begin_14 2 rfl ?_
        refine J_iadd E dX8_begin_15 (fun x40 e41 => ?_)
        have b42 : Bd x40 0 245 := (Bd.add e41 (Bd.lit 0 0 (by decide)) b39 (by decide)).w _ _ (by decide)
        refine J_iconst E 0 dX8_begin_16 (by decide) ?_
        refine J_iast1 E (S_X8.f1 S0) (Bd.in b42 (by decide)) dX8_begin_17 (fun v43 e44 => ?_)
        have o45 : Ok G v43 w30 := by rw [e44]; exact Ok.sv o31 (S_X8.f1 S0) b42 (Bd.lit 0 0 (by decide)) 0 246 (by decide) (by decide +kernel)
        have k46 : Kp G v v43 := by rw [e44]; exact Kp.sv k32 (S_X8.f1 S0) b42 0 246 0 0 (by decide) (by decide +kernel)
        have f47 : Fr G [1084] v v43 := Fr.st f33 e44 (S_X8.f1 S0) rfl
        refine J_iinc E 2 1 (fun z => [(2, .int z), (0, .ref h0), (1, .int 0)]) dX8_begin_18 rfl (by decide) (by decide) (fun _ => rfl) (fun x48 e49 => ?_)
        have b50 : Bd x48 1 246 := (Bd.add e49 b39 (Bd.lit 1 1 (by decide)) (by decide)).w _ _ (by decide)
        refine J_goto E 2 dX8_begin_21 (by decide) ?_
        exact J.sub [1, 2, 0] rfl (ih2 v43 w30 (o45) (k46) f47 (Bd.lit 0 0 (by decide)) x48 (b50.w 0 246 (by decide)) (Mu.step hmu2 e49 b39 (Bd.lit 1 1 (by decide)) (by decide)))
  refine J_iconst E 0 dX8_begin_0 (by decide) ?_
  refine J_istore_n E [(2, .int 0), (0, .ref h0), (1, .int 0)] dX8_begin_1 rfl (by decide) rfl ?_
  exact J.sub [1, 2, 0] rfl (J2 247 v w (hOk) (Kp.rf) Fr.rf (Bd.lit 0 0 (by decide)) 0 ((Bd.lit 0 0 (by decide)).w 0 246 (by decide)) (Mu.start _ (Bd.lit 0 0 (by decide)) (by decide)))

abbrev rm_X8_begin_738 : Room := { frames := 0, cells := 0, slots := 0, locals := 0 }
set_option maxHeartbeats 4000000 in
set_option maxRecDepth 100000 in
theorem ct_X8_begin_738 (l : Launch) (D : va_G) (dA : Nat → ClassId) (G : Gm) (v : Mv) (w : Mw) (hOk : Ok G v w) (h0 : Nat) (S0 : S_X8 G h0) : CtV l yX8_begin cX8_begin 3 none rm_X8_begin_738 D dA G [.ref h0, .int 738] v w (fun v1 w1 => Ok G v1 w1 ∧ Kp G v v1 ∧ Fr G [1084] v v1) := by
  refine CtV.of RX8 [(0, .ref h0), (1, .int 738)] (Nat.le_of_ble_eq_true rfl) rfl (by decide) rfl ?_
  intro p e s m args below meth c E hr
  have J26 : ∀ n : Nat, ∀ (v1 : Mv) (w2 : Mw), Ok G v1 w2 → Kp G v v1 → Fr G [1084] v v1 → Bd 738 738 738 → ∀ x7 : Int32, Bd x7 0 7 → Mu x7 7 n → J p l e rm_X8_begin_738 s m args below meth c 0 0 (MQ below (QcV D dA G (fun v1 w1 => Ok G v1 w1 ∧ Kp G v v1 ∧ Fr G [1084] v v1)) args s 0 0 (dm G)) D dA G (dm G) s.heap 3 v1 w2 [(0, .ref h0), (1, .int 738), (2, .int x7)] 26 [] := by
    intro n
    induction n with
    | zero => intro v1 w2 o3 k4 f5 b6 x7 b8 hm; exact hm.zero b8 (by decide)
    | succ n ih26 =>
      intro v1 w2 o3 k4 f5 b6 x7 b8 hmu26
      refine J_iload_n E dX8_begin_26 2 rfl ?_
      refine J_bipush E 7 dX8_begin_27 (by decide) ?_
      refine J_icmp_ge E 53 dX8_begin_29 (by decide) (fun c9 => ?_) (fun c9 => ?_)
      · have b10 : Bd x7 7 7 := Bd.le_r c9 (Bd.lit 7 7 (by decide)) b8 7 (by decide)
        exact J_vret E hr dX8_begin_53 ⟨o3, k4, f5⟩
      · have b11 : Bd x7 0 6 := Bd.lt_l (nle c9) b8 (Bd.lit 7 7 (by decide)) 6 (by decide)
        refine J_aload_n E dX8_begin_32 0 rfl ?_
        refine J_getR E in_X8 rfl (S_X8.h S0) 1 (by decide) wd936 rfl dX8_begin_33 ?_
        refine J_iload_n E dX8_begin_36 1 rfl ?_
        refine J_bipush E 34 dX8_begin_37 (by decide) ?_
        refine J_iadd E dX8_begin_39 (fun x12 e13 => ?_)
        have b14 : Bd x12 772 772 := (Bd.add e13 (Bd.lit 738 738 (by decide)) (Bd.lit 34 34 (by decide)) (by decide)).w _ _ (by decide)
        refine J_bipush E 9 dX8_begin_40 (by decide) ?_
        refine J_iadd E dX8_begin_42 (fun x15 e16 => ?_)
        have b17 : Bd x15 781 781 := (Bd.add e16 b14 (Bd.lit 9 9 (by decide)) (by decide)).w _ _ (by decide)
        refine J_iload_n E dX8_begin_43 2 rfl ?_
        refine J_iadd E dX8_begin_44 (fun x18 e19 => ?_)
        have b20 : Bd x18 781 787 := (Bd.add e19 b17 b11 (by decide)).w _ _ (by decide)
        refine J_iconst E (-1) dX8_begin_45 (by decide) ?_
        refine J_iast1 E (S_X8.f1 S0) (Bd.in b20 (by decide)) dX8_begin_46 (fun v21 e22 => ?_)
        have o23 : Ok G v21 w2 := by rw [e22]; exact Ok.sv o3 (S_X8.f1 S0) b20 (Bd.lit (-1) (-1) (by decide)) 781 7 (by decide) (by decide +kernel)
        have k24 : Kp G v v21 := by rw [e22]; exact Kp.sv k4 (S_X8.f1 S0) b20 781 7 (-1) (-1) (by decide) (by decide +kernel)
        have f25 : Fr G [1084] v v21 := Fr.st f5 e22 (S_X8.f1 S0) rfl
        refine J_iinc E 2 1 (fun z => [(2, .int z), (0, .ref h0), (1, .int 738)]) dX8_begin_47 rfl (by decide) (by decide) (fun _ => rfl) (fun x26 e27 => ?_)
        have b28 : Bd x26 1 7 := (Bd.add e27 b11 (Bd.lit 1 1 (by decide)) (by decide)).w _ _ (by decide)
        refine J_goto E 26 dX8_begin_50 (by decide) ?_
        exact J.sub [1, 2, 0] rfl (ih26 v21 w2 (o23) (k24) f25 (Bd.lit 738 738 (by decide)) x26 (b28.w 0 7 (by decide)) (Mu.step hmu26 e27 b11 (Bd.lit 1 1 (by decide)) (by decide)))
  have J2 : ∀ n : Nat, ∀ (v29 : Mv) (w30 : Mw), Ok G v29 w30 → Kp G v v29 → Fr G [1084] v v29 → Bd 738 738 738 → ∀ x35 : Int32, Bd x35 0 246 → Mu x35 246 n → J p l e rm_X8_begin_738 s m args below meth c 0 0 (MQ below (QcV D dA G (fun v1 w1 => Ok G v1 w1 ∧ Kp G v v1 ∧ Fr G [1084] v v1)) args s 0 0 (dm G)) D dA G (dm G) s.heap 3 v29 w30 [(0, .ref h0), (1, .int 738), (2, .int x35)] 2 [] := by
    intro n
    induction n with
    | zero => intro v29 w30 o31 k32 f33 b34 x35 b36 hm; exact hm.zero b36 (by decide)
    | succ n ih2 =>
      intro v29 w30 o31 k32 f33 b34 x35 b36 hmu2
      refine J_iload_n E dX8_begin_2 2 rfl ?_
      refine J_sipush E 246 dX8_begin_3 (by decide) ?_
      refine J_icmp_ge E 24 dX8_begin_6 (by decide) (fun c37 => ?_) (fun c37 => ?_)
      · have b38 : Bd x35 246 246 := Bd.le_r c37 (Bd.lit 246 246 (by decide)) b36 246 (by decide)
        refine J_iconst E 0 dX8_begin_24 (by decide) ?_
        refine J_istore_n E [(2, .int 0), (0, .ref h0), (1, .int 738)] dX8_begin_25 rfl (by decide) rfl ?_
        exact J.sub [1, 2, 0] rfl (J26 8 v29 w30 (o31) (k32) f33 (Bd.lit 738 738 (by decide)) 0 ((Bd.lit 0 0 (by decide)).w 0 7 (by decide)) (Mu.start _ (Bd.lit 0 0 (by decide)) (by decide)))
      · have b39 : Bd x35 0 245 := Bd.lt_l (nle c37) b36 (Bd.lit 246 246 (by decide)) 245 (by decide)
        refine J_aload_n E dX8_begin_9 0 rfl ?_
        refine J_getR E in_X8 rfl (S_X8.h S0) 1 (by decide) wd936 rfl dX8_begin_10 ?_
        refine J_iload_n E dX8_begin_13 1 rfl ?_
        refine J_iload_n E dX8_begin_14 2 rfl ?_
        refine J_iadd E dX8_begin_15 (fun x40 e41 => ?_)
        have b42 : Bd x40 738 983 := (Bd.add e41 (Bd.lit 738 738 (by decide)) b39 (by decide)).w _ _ (by decide)
        refine J_iconst E 0 dX8_begin_16 (by decide) ?_
        refine J_iast1 E (S_X8.f1 S0) (Bd.in b42 (by decide)) dX8_begin_17 (fun v43 e44 => ?_)
        have o45 : Ok G v43 w30 := by rw [e44]; exact Ok.sv o31 (S_X8.f1 S0) b42 (Bd.lit 0 0 (by decide)) 738 246 (by decide) (by decide +kernel)
        have k46 : Kp G v v43 := by rw [e44]; exact Kp.sv k32 (S_X8.f1 S0) b42 738 246 0 0 (by decide) (by decide +kernel)
        have f47 : Fr G [1084] v v43 := Fr.st f33 e44 (S_X8.f1 S0) rfl
        refine J_iinc E 2 1 (fun z => [(2, .int z), (0, .ref h0), (1, .int 738)]) dX8_begin_18 rfl (by decide) (by decide) (fun _ => rfl) (fun x48 e49 => ?_)
        have b50 : Bd x48 1 246 := (Bd.add e49 b39 (Bd.lit 1 1 (by decide)) (by decide)).w _ _ (by decide)
        refine J_goto E 2 dX8_begin_21 (by decide) ?_
        exact J.sub [1, 2, 0] rfl (ih2 v43 w30 (o45) (k46) f47 (Bd.lit 738 738 (by decide)) x48 (b50.w 0 246 (by decide)) (Mu.step hmu2 e49 b39 (Bd.lit 1 1 (by decide)) (by decide)))
  refine J_iconst E 0 dX8_begin_0 (by decide) ?_
  refine J_istore_n E [(2, .int 0), (0, .ref h0), (1, .int 738)] dX8_begin_1 rfl (by decide) rfl ?_
  exact J.sub [1, 2, 0] rfl (J2 247 v w (hOk) (Kp.rf) Fr.rf (Bd.lit 738 738 (by decide)) 0 ((Bd.lit 0 0 (by decide)).w 0 246 (by decide)) (Mu.start _ (Bd.lit 0 0 (by decide)) (by decide)))

abbrev rm_X8_copyRow : Room := { frames := 0, cells := 0, slots := 0, locals := 0 }
set_option maxHeartbeats 4000000 in
set_option maxRecDepth 100000 in
theorem ct_X8_copyRow (l : Launch) (D : va_G) (dA : Nat → ClassId) (G : Gm) (v : Mv) (w : Mw) (hOk : Ok G v w) (h0 : Nat) (S0 : S_X8 G h0) (x_0 : Int32) (bx_0 : Bd x_0 0 738) (x_1 : Int32) (bx_1 : Bd x_1 0 738) (hfr : Row x_0) (hto : Row x_1) : CtV l yX8_copyRow cX8_copyRow 4 none rm_X8_copyRow D dA G [.ref h0, .int x_0, .int x_1] v w (fun v1 w1 => Ok G v1 w1 ∧ Kp G v v1 ∧ Fr G [1084] v v1) := by
  refine CtV.of RX8 [(0, .ref h0), (1, .int x_0), (2, .int x_1)] (Nat.le_of_ble_eq_true rfl) rfl (by decide) rfl ?_
  intro p e s m args below meth c E hr
  have J2 : ∀ n : Nat, ∀ (v1 : Mv) (w2 : Mw), Ok G v1 w2 → Kp G v v1 → Fr G [1084] v v1 → Bd x_0 0 738 → Bd x_1 0 738 → ∀ x8 : Int32, Bd x8 0 246 → Mu x8 246 n → J p l e rm_X8_copyRow s m args below meth c 0 0 (MQ below (QcV D dA G (fun v1 w1 => Ok G v1 w1 ∧ Kp G v v1 ∧ Fr G [1084] v v1)) args s 0 0 (dm G)) D dA G (dm G) s.heap 4 v1 w2 [(0, .ref h0), (1, .int x_0), (2, .int x_1), (3, .int x8)] 2 [] := by
    intro n
    induction n with
    | zero => intro v1 w2 o3 k4 f5 b6 b7 x8 b9 hm; exact hm.zero b9 (by decide)
    | succ n ih2 =>
      intro v1 w2 o3 k4 f5 b6 b7 x8 b9 hmu2
      refine J_iload_n E dX8_copyRow_2 3 rfl ?_
      refine J_sipush E 246 dX8_copyRow_3 (by decide) ?_
      refine J_icmp_ge E 31 dX8_copyRow_6 (by decide) (fun c10 => ?_) (fun c10 => ?_)
      · have b11 : Bd x8 246 246 := Bd.le_r c10 (Bd.lit 246 246 (by decide)) b9 246 (by decide)
        exact J_vret E hr dX8_copyRow_31 ⟨o3, k4, f5⟩
      · have b12 : Bd x8 0 245 := Bd.lt_l (nle c10) b9 (Bd.lit 246 246 (by decide)) 245 (by decide)
        refine J_aload_n E dX8_copyRow_9 0 rfl ?_
        refine J_getR E in_X8 rfl (S_X8.h S0) 1 (by decide) wd936 rfl dX8_copyRow_10 ?_
        refine J_iload_n E dX8_copyRow_13 2 rfl ?_
        refine J_iload_n E dX8_copyRow_14 3 rfl ?_
        refine J_iadd E dX8_copyRow_15 (fun x13 e14 => ?_)
        have b15 : Bd x13 0 983 := (Bd.add e14 b7 b12 (by decide)).w _ _ (by decide)
        refine J_aload_n E dX8_copyRow_16 0 rfl ?_
        refine J_getR E in_X8 rfl (S_X8.h S0) 1 (by decide) wd936 rfl dX8_copyRow_17 ?_
        refine J_iload_n E dX8_copyRow_20 1 rfl ?_
        refine J_iload_n E dX8_copyRow_21 3 rfl ?_
        refine J_iadd E dX8_copyRow_22 (fun x16 e17 => ?_)
        have b18 : Bd x16 0 983 := (Bd.add e17 b6 b12 (by decide)).w _ _ (by decide)
        refine J_iald1 E (S_X8.f1 S0) (Bd.in b18 (by decide)) dX8_copyRow_23 (fun x19 e20 => ?_)
        refine J_iast1 E (S_X8.f1 S0) (Bd.in b15 (by decide)) dX8_copyRow_24 (fun v21 e22 => ?_)
        have o23 : Ok G v21 w2 := by rw [e22]; exact Ok.cp o3 (S_X8.f1 S0) (S_X8.f1 S0) e20 (Bd.in b18 (by decide)) (Row.same hto hfr e14 e17 b12)
        have k24 : Kp G v v21 := by rw [e22]; exact Kp.cp k4 (S_X8.f1 S0) gall_nk
        have f25 : Fr G [1084] v v21 := Fr.st f5 e22 (S_X8.f1 S0) rfl
        refine J_iinc E 3 1 (fun z => [(3, .int z), (0, .ref h0), (1, .int x_0), (2, .int x_1)]) dX8_copyRow_25 rfl (by decide) (by decide) (fun _ => rfl) (fun x26 e27 => ?_)
        have b28 : Bd x26 1 246 := (Bd.add e27 b12 (Bd.lit 1 1 (by decide)) (by decide)).w _ _ (by decide)
        refine J_goto E 2 dX8_copyRow_28 (by decide) ?_
        exact J.sub [1, 2, 3, 0] rfl (ih2 v21 w2 (o23) (k24) f25 b6 b7 x26 (b28.w 0 246 (by decide)) (Mu.step hmu2 e27 b12 (Bd.lit 1 1 (by decide)) (by decide)))
  refine J_iconst E 0 dX8_copyRow_0 (by decide) ?_
  refine J_istore_n E [(3, .int 0), (0, .ref h0), (1, .int x_0), (2, .int x_1)] dX8_copyRow_1 rfl (by decide) rfl ?_
  exact J.sub [1, 2, 3, 0] rfl (J2 247 v w (hOk) (Kp.rf) Fr.rf bx_0 bx_1 0 ((Bd.lit 0 0 (by decide)).w 0 246 (by decide)) (Mu.start _ (Bd.lit 0 0 (by decide)) (by decide)))

abbrev rm_X8_take : Room := { frames := 0, cells := 0, slots := 0, locals := 0 }
set_option maxHeartbeats 4000000 in
set_option maxRecDepth 100000 in
theorem ct_X8_take (l : Launch) (D : va_G) (dA : Nat → ClassId) (G : Gm) (v : Mv) (w : Mw) (hOk : Ok G v w) (h0 : Nat) (S0 : S_X8 G h0) : CtV l yX8_take cX8_take 2 none rm_X8_take D dA G [.ref h0] v w (fun v1 w1 => Ok G v1 w1 ∧ Kp G v v1 ∧ Fr G [116] v v1) := by
  refine CtV.of RX8 [(0, .ref h0)] (Nat.le_of_ble_eq_true rfl) rfl (by decide) rfl ?_
  intro p e s m args below meth c E hr
  have J2 : ∀ n : Nat, ∀ (v1 : Mv) (w2 : Mw), Ok G v1 w2 → Kp G v v1 → Fr G [116] v v1 → ∀ x6 : Int32, Bd x6 0 16 → Mu x6 16 n → J p l e rm_X8_take s m args below meth c 0 0 (MQ below (QcV D dA G (fun v1 w1 => Ok G v1 w1 ∧ Kp G v v1 ∧ Fr G [116] v v1)) args s 0 0 (dm G)) D dA G (dm G) s.heap 2 v1 w2 [(0, .ref h0), (1, .int x6)] 2 [] := by
    intro n
    induction n with
    | zero => intro v1 w2 o3 k4 f5 x6 b7 hm; exact hm.zero b7 (by decide)
    | succ n ih2 =>
      intro v1 w2 o3 k4 f5 x6 b7 hmu2
      refine J_iload_n E dX8_take_2 1 rfl ?_
      refine J_bipush E 16 dX8_take_3 (by decide) ?_
      refine J_icmp_ge E 29 dX8_take_5 (by decide) (fun c8 => ?_) (fun c8 => ?_)
      · have b9 : Bd x6 16 16 := Bd.le_r c8 (Bd.lit 16 16 (by decide)) b7 16 (by decide)
        exact J_vret E hr dX8_take_29 ⟨o3, k4, f5⟩
      · have b10 : Bd x6 0 15 := Bd.lt_l (nle c8) b7 (Bd.lit 16 16 (by decide)) 15 (by decide)
        refine J_aload_n E dX8_take_8 0 rfl ?_
        refine J_getR E in_X8 rfl (S_X8.h S0) 3 (by decide) wd938 rfl dX8_take_9 ?_
        refine J_iload_n E dX8_take_12 1 rfl ?_
        refine J_aload_n E dX8_take_13 0 rfl ?_
        refine J_getR E in_X8 rfl (S_X8.h S0) 1 (by decide) wd936 rfl dX8_take_14 ?_
        refine J_bipush E 34 dX8_take_17 (by decide) ?_
        refine J_iload_n E dX8_take_19 1 rfl ?_
        refine J_iadd E dX8_take_20 (fun x11 e12 => ?_)
        have b13 : Bd x11 34 49 := (Bd.add e12 (Bd.lit 34 34 (by decide)) b10 (by decide)).w _ _ (by decide)
        refine J_iald1 E (S_X8.f1 S0) (Bd.in b13 (by decide)) dX8_take_21 (fun x14 e15 => ?_)
        refine J_iast1 E (S_X8.f3 S0) (Bd.in b10 (by decide)) dX8_take_22 (fun v16 e17 => ?_)
        have o18 : Ok G v16 w2 := by rw [e17]; exact Ok.cp o3 (S_X8.f3 S0) (S_X8.f1 S0) e15 (Bd.in b13 (by decide)) (by rw [ix_add e12 (Bd.lit 34 34 (by decide)) b10 (by decide)]; exact tb_take _ (ix_le b10 16 (by decide)))
        have k19 : Kp G v v16 := by rw [e17]; exact Kp.cp k4 (S_X8.f3 S0) gst_nk
        have f20 : Fr G [116] v v16 := Fr.st f5 e17 (S_X8.f3 S0) rfl
        refine J_iinc E 1 1 (fun z => [(1, .int z), (0, .ref h0)]) dX8_take_23 rfl (by decide) (by decide) (fun _ => rfl) (fun x21 e22 => ?_)
        have b23 : Bd x21 1 16 := (Bd.add e22 b10 (Bd.lit 1 1 (by decide)) (by decide)).w _ _ (by decide)
        refine J_goto E 2 dX8_take_26 (by decide) ?_
        exact J.sub [1, 0] rfl (ih2 v16 w2 (o18) (k19) f20 x21 (b23.w 0 16 (by decide)) (Mu.step hmu2 e22 b10 (Bd.lit 1 1 (by decide)) (by decide)))
  refine J_iconst E 0 dX8_take_0 (by decide) ?_
  refine J_istore_n E [(1, .int 0), (0, .ref h0)] dX8_take_1 rfl (by decide) rfl ?_
  exact J.sub [1, 0] rfl (J2 17 v w (hOk) (Kp.rf) Fr.rf 0 ((Bd.lit 0 0 (by decide)).w 0 16 (by decide)) (Mu.start _ (Bd.lit 0 0 (by decide)) (by decide)))

abbrev rm_X8_isThing : Room := { frames := 1, cells := 0, slots := 0, locals := 22 }
set_option maxHeartbeats 4000000 in
set_option maxRecDepth 100000 in
theorem ct_X8_isThing (l : Launch) (D : va_G) (dA : Nat → ClassId) (G : Gm) (v : Mv) (w : Mw) (hOk : Ok G v w) (h0 : Nat) (S0 : S_X8 G h0) (x_0 : Int32) : CtI l yX8_isThing cX8_isThing 2 (some .boolean) rm_X8_isThing D dA G [.ref h0, .int x_0] v w (fun r v1 w1 => v1 = v ∧ w1 = w ∧ Bd r 0 1 ∧ (r = 0 ∨ Bd x_0 0 6)) := by
  refine CtI.of RX8 [(0, .ref h0), (1, .int x_0)] (Nat.le_of_ble_eq_true rfl) rfl (by decide) rfl ?_
  intro p e s m args below meth c E hr
  refine J_iload_n E dX8_isThing_0 1 rfl ?_
  refine J_iconst E 0 dX8_isThing_1 (by decide) ?_
  refine J_aload_n E dX8_isThing_2 0 rfl ?_
  refine J_getR E in_X8 rfl (S_X8.h S0) 1 (by decide) wd936 rfl dX8_isThing_3 ?_
  refine J_iconst E 0 dX8_isThing_6 (by decide) ?_
  refine J_iald1 E (S_X8.f1 S0) (Bd.in (Bd.lit 0 0 (by decide)) (by decide)) dX8_isThing_7 (fun x1 e2 => ?_)
  have b3 : Bd x1 0 7 := Bd.e (Ok.ld hOk (S_X8.f1 S0) (Bd.lit 0 0 (by decide)) 0 1 0 7 (by decide) (by decide +kernel)) e2
  have e4 : x1 = v (rf G h0 1) 0 := by rw [e2, Bd.ix (Bd.lit 0 0 (by decide)) 0 rfl]
  refine J_iconst E 1 dX8_isThing_8 (by decide) ?_
  refine J_isub E dX8_isThing_9 (fun x5 e6 => ?_)
  have b7 : Bd x5 (-1) 6 := (Bd.sub e6 b3 (Bd.lit 1 1 (by decide)) (by decide)).w _ _ (by decide)
  refine J_callSI E cal_X8_in wd996 [.int x_0, .int 0, .int x5] [] (ct_X8_in l D dA G v w (hOk) x_0 0 x5) rfl rfl (Nat.le_of_ble_eq_true rfl) ⟨rfl, rfl⟩ ⟨Nat.le_of_ble_eq_true rfl, Nat.le_of_ble_eq_true rfl⟩ dX8_isThing_10 (fun x11 v8 w9 p10 => ?_)
  rw [p10.1, p10.2.1]
  have b12 : Bd x11 0 1 := p10.2.2.1
  exact J_zret E hr (Bd.z b12 (by decide)) dX8_isThing_13 ⟨rfl, rfl, b12, ((p10.2.2.2.1).imp_right (fun g9 => Bd.le_l g9.2 (Bd.le_r g9.1 (Bd.lit 0 0 (by decide)) (Bd.any x_0) 0 (by decide)) b7 6 (by decide)))⟩

abbrev rm_X8_isOne : Room := { frames := 1, cells := 0, slots := 0, locals := 22 }
set_option maxHeartbeats 4000000 in
set_option maxRecDepth 100000 in
theorem ct_X8_isOne (l : Launch) (D : va_G) (dA : Nat → ClassId) (G : Gm) (v : Mv) (w : Mw) (hOk : Ok G v w) (h0 : Nat) (S0 : S_X8 G h0) (x_0 : Int32) : CtI l yX8_isOne cX8_isOne 2 (some .boolean) rm_X8_isOne D dA G [.ref h0, .int x_0] v w (fun r v1 w1 => v1 = v ∧ w1 = w ∧ Bd r 0 1 ∧ (r = 0 ∨ Bd x_0 0 6)) := by
  refine CtI.of RX8 [(0, .ref h0), (1, .int x_0)] (Nat.le_of_ble_eq_true rfl) rfl (by decide) rfl ?_
  intro p e s m args below meth c E hr
  refine J_iload_n E dX8_isOne_0 1 rfl ?_
  refine J_iconst E 0 dX8_isOne_1 (by decide) ?_
  refine J_aload_n E dX8_isOne_2 0 rfl ?_
  refine J_getR E in_X8 rfl (S_X8.h S0) 1 (by decide) wd936 rfl dX8_isOne_3 ?_
  refine J_iconst E 1 dX8_isOne_6 (by decide) ?_
  refine J_iald1 E (S_X8.f1 S0) (Bd.in (Bd.lit 1 1 (by decide)) (by decide)) dX8_isOne_7 (fun x1 e2 => ?_)
  have b3 : Bd x1 0 7 := Bd.e (Ok.ld hOk (S_X8.f1 S0) (Bd.lit 1 1 (by decide)) 1 1 0 7 (by decide) (by decide +kernel)) e2
  have e4 : x1 = v (rf G h0 1) 1 := by rw [e2, Bd.ix (Bd.lit 1 1 (by decide)) 1 rfl]
  refine J_iconst E 1 dX8_isOne_8 (by decide) ?_
  refine J_isub E dX8_isOne_9 (fun x5 e6 => ?_)
  have b7 : Bd x5 (-1) 6 := (Bd.sub e6 b3 (Bd.lit 1 1 (by decide)) (by decide)).w _ _ (by decide)
  refine J_callSI E cal_X8_in wd996 [.int x_0, .int 0, .int x5] [] (ct_X8_in l D dA G v w (hOk) x_0 0 x5) rfl rfl (Nat.le_of_ble_eq_true rfl) ⟨rfl, rfl⟩ ⟨Nat.le_of_ble_eq_true rfl, Nat.le_of_ble_eq_true rfl⟩ dX8_isOne_10 (fun x11 v8 w9 p10 => ?_)
  rw [p10.1, p10.2.1]
  have b12 : Bd x11 0 1 := p10.2.2.1
  exact J_zret E hr (Bd.z b12 (by decide)) dX8_isOne_13 ⟨rfl, rfl, b12, ((p10.2.2.2.1).imp_right (fun g9 => Bd.le_l g9.2 (Bd.le_r g9.1 (Bd.lit 0 0 (by decide)) (Bd.any x_0) 0 (by decide)) b7 6 (by decide)))⟩

abbrev rm_X8_weighsBy : Room := { frames := 0, cells := 0, slots := 0, locals := 0 }
set_option maxHeartbeats 4000000 in
set_option maxRecDepth 100000 in
theorem ct_X8_weighsBy (l : Launch) (D : va_G) (dA : Nat → ClassId) (G : Gm) (v : Mv) (w : Mw) (hOk : Ok G v w) (x_0 : Int32) (x_1 : Int32) (x_2 : Int32) : CtI l yX8_weighsBy cX8_weighsBy 4 (some .int) rm_X8_weighsBy D dA G [.int x_0, .int x_1, .int x_2] v w (fun r v1 w1 => v1 = v ∧ w1 = w ∧ True ∧ True) := by
  refine CtI.of RX8 [(0, .int x_0), (1, .int x_1), (2, .int x_2)] (Nat.le_of_ble_eq_true rfl) rfl (by decide) rfl ?_
  intro p e s m args below meth c E hr
  refine J_iload_n E dX8_weighsBy_0 1 rfl ?_
  refine J_iconst E 1 dX8_weighsBy_1 (by decide) ?_
  refine J_iadd E dX8_weighsBy_2 (fun x1 e2 => ?_)
  refine J_iconst E 2 dX8_weighsBy_3 (by decide) ?_
  refine J_idiv E dX8_weighsBy_4 (Bd.nz (Bd.lit 2 2 (by decide)) (by decide)) (fun x3 e4 => ?_)
  refine J_istore_n E [(3, .int x3), (0, .int x_0), (1, .int x_1), (2, .int x_2)] dX8_weighsBy_5 rfl (by decide) rfl ?_
  refine J_iload_n E dX8_weighsBy_6 1 rfl ?_
  by_cases h5 : x_0.toInt = 0
  · refine J_tabIn E 0 40 dX8_weighsBy_7 h5 (by decide) (by decide) rfl (by decide) ?_
    have b6 : Bd x_0 0 0 := ⟨by omega, by omega⟩
    refine J_iload_n E dX8_weighsBy_40 2 rfl ?_
    exact J_iret E hr dX8_weighsBy_41 ⟨rfl, rfl, trivial, trivial⟩
  by_cases h7 : x_0.toInt = 1
  · refine J_tabIn E 1 42 dX8_weighsBy_7 h7 (by decide) (by decide) rfl (by decide) ?_
    have b8 : Bd x_0 1 1 := ⟨by omega, by omega⟩
    refine J_iload_n E dX8_weighsBy_42 2 rfl ?_
    refine J_bipush E 6 dX8_weighsBy_43 (by decide) ?_
    refine J_iadd E dX8_weighsBy_45 (fun x9 e10 => ?_)
    exact J_iret E hr dX8_weighsBy_46 ⟨rfl, rfl, trivial, trivial⟩
  by_cases h11 : x_0.toInt = 2
  · refine J_tabIn E 2 47 dX8_weighsBy_7 h11 (by decide) (by decide) rfl (by decide) ?_
    have b12 : Bd x_0 2 2 := ⟨by omega, by omega⟩
    refine J_iload_n E dX8_weighsBy_47 0 rfl ?_
    exact J_iret E hr dX8_weighsBy_48 ⟨rfl, rfl, trivial, trivial⟩
  by_cases h13 : x_0.toInt = 3
  · refine J_tabIn E 3 49 dX8_weighsBy_7 h13 (by decide) (by decide) rfl (by decide) ?_
    have b14 : Bd x_0 3 3 := ⟨by omega, by omega⟩
    refine J_iload_n E dX8_weighsBy_49 2 rfl ?_
    refine J_bipush E 6 dX8_weighsBy_50 (by decide) ?_
    refine J_iadd E dX8_weighsBy_52 (fun x15 e16 => ?_)
    refine J_iload_n E dX8_weighsBy_53 3 rfl ?_
    refine J_bipush E 10 dX8_weighsBy_54 (by decide) ?_
    refine J_idiv E dX8_weighsBy_56 (Bd.nz (Bd.lit 10 10 (by decide)) (by decide)) (fun x17 e18 => ?_)
    refine J_bipush E 20 dX8_weighsBy_57 (by decide) ?_
    refine J_icmp_le E 67 dX8_weighsBy_59 (by decide) (fun c19 => ?_) (fun c19 => ?_)
    · have b20 : Bd x17 I0 20 := Bd.le_l c19 (Bd.any x17) (Bd.lit 20 20 (by decide)) 20 (by decide)
      refine J_iload_n E dX8_weighsBy_67 3 rfl ?_
      refine J_bipush E 10 dX8_weighsBy_68 (by decide) ?_
      refine J_idiv E dX8_weighsBy_70 (Bd.nz (Bd.lit 10 10 (by decide)) (by decide)) (fun x21 e22 => ?_)
      refine J_iadd E dX8_weighsBy_71 (fun x23 e24 => ?_)
      exact J_iret E hr dX8_weighsBy_72 ⟨rfl, rfl, trivial, trivial⟩
    · have b25 : Bd x17 21 I1 := Bd.lt_r (nle c19) (Bd.lit 20 20 (by decide)) (Bd.any x17) 21 (by decide)
      refine J_bipush E 20 dX8_weighsBy_62 (by decide) ?_
      refine J_goto E 71 dX8_weighsBy_64 (by decide) ?_
      refine J_iadd E dX8_weighsBy_71 (fun x26 e27 => ?_)
      exact J_iret E hr dX8_weighsBy_72 ⟨rfl, rfl, trivial, trivial⟩
  by_cases h28 : x_0.toInt = 4
  · refine J_tabIn E 4 73 dX8_weighsBy_7 h28 (by decide) (by decide) rfl (by decide) ?_
    have b29 : Bd x_0 4 4 := ⟨by omega, by omega⟩
    refine J_iload_n E dX8_weighsBy_73 0 rfl ?_
    refine J_iload_n E dX8_weighsBy_74 3 rfl ?_
    refine J_iconst E 2 dX8_weighsBy_75 (by decide) ?_
    refine J_irem E dX8_weighsBy_76 (Bd.nz (Bd.lit 2 2 (by decide)) (by decide)) (fun x30 e31 => ?_)
    have b32 : Bd x30 (-1) 1 := (Bd.rem e31 (Bd.lit 2 2 (by decide)) (by decide)).w _ _ (by decide)
    refine J_iconst E 1 dX8_weighsBy_77 (by decide) ?_
    refine J_icmp_ne E 86 dX8_weighsBy_78 (by decide) (fun c33 => ?_) (fun c33 => ?_)
    · have b34 : Bd x30 (-1) 0 := (Bd.ne_hi c33 b32 (Bd.lit 1 1 (by decide))).w _ _ (by decide)
      refine J_iconst E 0 dX8_weighsBy_86 (by decide) ?_
      refine J_iadd E dX8_weighsBy_87 (fun x35 e36 => ?_)
      exact J_iret E hr dX8_weighsBy_88 ⟨rfl, rfl, trivial, trivial⟩
    · have b37 : Bd x30 1 1 := Bd.eq_l c33 b32 (Bd.lit 1 1 (by decide)) 1 1 (by decide)
      refine J_bipush E 9 dX8_weighsBy_81 (by decide) ?_
      refine J_goto E 87 dX8_weighsBy_83 (by decide) ?_
      refine J_iadd E dX8_weighsBy_87 (fun x38 e39 => ?_)
      exact J_iret E hr dX8_weighsBy_88 ⟨rfl, rfl, trivial, trivial⟩
  refine J_tabOut (x := x_0) E 89 dX8_weighsBy_7 (by have := (Bd.any x_0); simp only [Bd, I0, I1] at this; omega) (by decide) ?_
  refine J_iconst E 2 dX8_weighsBy_89 (by decide) ?_
  refine J_iload_n E dX8_weighsBy_90 0 rfl ?_
  refine J_imul E dX8_weighsBy_91 (fun x40 e41 => ?_)
  refine J_iconst E 1 dX8_weighsBy_92 (by decide) ?_
  refine J_isub E dX8_weighsBy_93 (fun x42 e43 => ?_)
  exact J_iret E hr dX8_weighsBy_94 ⟨rfl, rfl, trivial, trivial⟩

abbrev rm_X8_liftsBy : Room := { frames := 0, cells := 0, slots := 0, locals := 0 }
set_option maxHeartbeats 4000000 in
set_option maxRecDepth 100000 in
theorem ct_X8_liftsBy (l : Launch) (D : va_G) (dA : Nat → ClassId) (G : Gm) (v : Mv) (w : Mw) (hOk : Ok G v w) (x_0 : Int32) (x_1 : Int32) (x_2 : Int32) : CtI l yX8_liftsBy cX8_liftsBy 5 (some .int) rm_X8_liftsBy D dA G [.int x_0, .int x_1, .int x_2] v w (fun r v1 w1 => v1 = v ∧ w1 = w ∧ True ∧ True) := by
  refine CtI.of RX8 [(0, .int x_0), (1, .int x_1), (2, .int x_2)] (Nat.le_of_ble_eq_true rfl) rfl (by decide) rfl ?_
  intro p e s m args below meth c E hr
  have J136 : ∀ x1 : Int32, Bd x1 0 2147483587 → ∀ x3 : Int32, J p l e rm_X8_liftsBy s m args below meth c 0 0 (MQ below (QcI D dA G (fun r v1 w1 => v1 = v ∧ w1 = w ∧ True ∧ True)) args s 0 0 (dm G)) D dA G (dm G) s.heap 5 v w [] 136 [.int x1, .int x3] := by
    intro x1 b2 x3
    refine J_isub E dX8_liftsBy_136 (fun x4 e5 => ?_)
    refine J_istore E [(4, .int x4)] dX8_liftsBy_137 (by decide) rfl ?_
    refine J_iload E dX8_liftsBy_139 0 rfl ?_
    refine J_if_ge E 148 dX8_liftsBy_141 (by decide) (fun c6 => ?_) (fun c6 => ?_)
    · have b7 : Bd x4 0 I1 := Bd.le_r c6 (Bd.lit 0 0 (by decide)) (Bd.any x4) 0 (by decide)
      refine J_iload E dX8_liftsBy_148 0 rfl ?_
      exact J_iret E hr dX8_liftsBy_150 ⟨rfl, rfl, trivial, trivial⟩
    · have b8 : Bd x4 I0 (-1) := Bd.lt_l (nle c6) (Bd.any x4) (Bd.lit 0 0 (by decide)) (-1) (by decide)
      refine J_iconst E 0 dX8_liftsBy_144 (by decide) ?_
      refine J_goto E 150 dX8_liftsBy_145 (by decide) ?_
      exact J_iret E hr dX8_liftsBy_150 ⟨rfl, rfl, trivial, trivial⟩
  have J81 : ∀ x9 : Int32, J p l e rm_X8_liftsBy s m args below meth c 0 0 (MQ below (QcI D dA G (fun r v1 w1 => v1 = v ∧ w1 = w ∧ True ∧ True)) args s 0 0 (dm G)) D dA G (dm G) s.heap 5 v w [] 81 [.int x9] := by
    intro x9
    refine J_istore E [(4, .int x9)] dX8_liftsBy_81 (by decide) rfl ?_
    refine J_iload E dX8_liftsBy_83 0 rfl ?_
    refine J_if_ge E 92 dX8_liftsBy_85 (by decide) (fun c10 => ?_) (fun c10 => ?_)
    · have b11 : Bd x9 0 I1 := Bd.le_r c10 (Bd.lit 0 0 (by decide)) (Bd.any x9) 0 (by decide)
      refine J_iload E dX8_liftsBy_92 0 rfl ?_
      exact J_iret E hr dX8_liftsBy_94 ⟨rfl, rfl, trivial, trivial⟩
    · have b12 : Bd x9 I0 (-1) := Bd.lt_l (nle c10) (Bd.any x9) (Bd.lit 0 0 (by decide)) (-1) (by decide)
      refine J_iconst E 0 dX8_liftsBy_88 (by decide) ?_
      refine J_goto E 94 dX8_liftsBy_89 (by decide) ?_
      exact J_iret E hr dX8_liftsBy_94 ⟨rfl, rfl, trivial, trivial⟩
  have J15 : ∀ x13 : Int32, Bd x13 I0 30 → ∀ x15 : Int32, J p l e rm_X8_liftsBy s m args below meth c 0 0 (MQ below (QcI D dA G (fun r v1 w1 => v1 = v ∧ w1 = w ∧ True ∧ True)) args s 0 0 (dm G)) D dA G (dm G) s.heap 5 v w [(0, .int x_0), (2, .int x_2)] 15 [.int x13, .int x15] := by
    intro x13 b14 x15
    refine J_iconst E 3 dX8_liftsBy_15 (by decide) ?_
    refine J_idiv E dX8_liftsBy_16 (Bd.nz (Bd.lit 3 3 (by decide)) (by decide)) (fun x16 e17 => ?_)
    refine J_iadd E dX8_liftsBy_17 (fun x18 e19 => ?_)
    refine J_istore_n E [(3, .int x18), (0, .int x_0), (2, .int x_2)] dX8_liftsBy_18 rfl (by decide) rfl ?_
    refine J_iload_n E dX8_liftsBy_19 0 rfl ?_
    refine J_istore E [(4, .int x18), (3, .int x18), (0, .int x_0), (2, .int x_2)] dX8_liftsBy_20 (by decide) rfl ?_
    refine J_iload_n E dX8_liftsBy_22 2 rfl ?_
    by_cases h20 : x_0.toInt = 0
    · refine J_tabIn E 0 56 dX8_liftsBy_23 h20 (by decide) (by decide) rfl (by decide) ?_
      have b21 : Bd x_0 0 0 := ⟨by omega, by omega⟩
      refine J_iload_n E dX8_liftsBy_56 1 rfl ?_
      exact J_iret E hr dX8_liftsBy_57 ⟨rfl, rfl, trivial, trivial⟩
    by_cases h22 : x_0.toInt = 1
    · refine J_tabIn E 1 58 dX8_liftsBy_23 h22 (by decide) (by decide) rfl (by decide) ?_
      have b23 : Bd x_0 1 1 := ⟨by omega, by omega⟩
      refine J_iload_n E dX8_liftsBy_58 1 rfl ?_
      refine J_bipush E 8 dX8_liftsBy_59 (by decide) ?_
      refine J_iadd E dX8_liftsBy_61 (fun x24 e25 => ?_)
      exact J_iret E hr dX8_liftsBy_62 ⟨rfl, rfl, trivial, trivial⟩
    by_cases h26 : x_0.toInt = 2
    · refine J_tabIn E 2 63 dX8_liftsBy_23 h26 (by decide) (by decide) rfl (by decide) ?_
      have b27 : Bd x_0 2 2 := ⟨by omega, by omega⟩
      refine J_iload_n E dX8_liftsBy_63 1 rfl ?_
      refine J_iconst E 2 dX8_liftsBy_64 (by decide) ?_
      refine J_idiv E dX8_liftsBy_65 (Bd.nz (Bd.lit 2 2 (by decide)) (by decide)) (fun x28 e29 => ?_)
      exact J_iret E hr dX8_liftsBy_66 ⟨rfl, rfl, trivial, trivial⟩
    by_cases h30 : x_0.toInt = 3
    · refine J_tabIn E 3 67 dX8_liftsBy_23 h30 (by decide) (by decide) rfl (by decide) ?_
      have b31 : Bd x_0 3 3 := ⟨by omega, by omega⟩
      refine J_iload_n E dX8_liftsBy_67 3 rfl ?_
      refine J_bipush E 18 dX8_liftsBy_68 (by decide) ?_
      refine J_icmp_ge E 80 dX8_liftsBy_70 (by decide) (fun c32 => ?_) (fun c32 => ?_)
      · have b33 : Bd x_2 18 I1 := Bd.le_r c32 (Bd.lit 18 18 (by decide)) (Bd.any x_2) 18 (by decide)
        refine J_iload_n E dX8_liftsBy_80 1 rfl ?_
        exact J.sub [] rfl (J81 x18)
      · have b34 : Bd x_2 I0 17 := Bd.lt_l (nle c32) (Bd.any x_2) (Bd.lit 18 18 (by decide)) 17 (by decide)
        refine J_iload_n E dX8_liftsBy_73 1 rfl ?_
        refine J_bipush E 6 dX8_liftsBy_74 (by decide) ?_
        refine J_isub E dX8_liftsBy_76 (fun x35 e36 => ?_)
        refine J_goto E 81 dX8_liftsBy_77 (by decide) ?_
        exact J.sub [] rfl (J81 x35)
    by_cases h37 : x_0.toInt = 4
    · refine J_tabIn E 4 95 dX8_liftsBy_23 h37 (by decide) (by decide) rfl (by decide) ?_
      have b38 : Bd x_0 4 4 := ⟨by omega, by omega⟩
      refine J_iload_n E dX8_liftsBy_95 3 rfl ?_
      refine J_bipush E 10 dX8_liftsBy_96 (by decide) ?_
      refine J_irem E dX8_liftsBy_98 (Bd.nz (Bd.lit 10 10 (by decide)) (by decide)) (fun x39 e40 => ?_)
      have b41 : Bd x39 (-9) 9 := (Bd.rem e40 (Bd.lit 10 10 (by decide)) (by decide)).w _ _ (by decide)
      refine J_iconst E 5 dX8_liftsBy_99 (by decide) ?_
      refine J_icmp_ne E 112 dX8_liftsBy_100 (by decide) (fun c42 => ?_) (fun c42 => ?_)
      · refine J_iload_n E dX8_liftsBy_112 1 rfl ?_
        refine J_bipush E 8 dX8_liftsBy_113 (by decide) ?_
        refine J_iadd E dX8_liftsBy_115 (fun x43 e44 => ?_)
        exact J_iret E hr dX8_liftsBy_116 ⟨rfl, rfl, trivial, trivial⟩
      · have b45 : Bd x39 5 5 := Bd.eq_l c42 b41 (Bd.lit 5 5 (by decide)) 5 5 (by decide)
        refine J_iconst E 2 dX8_liftsBy_103 (by decide) ?_
        refine J_iload_n E dX8_liftsBy_104 1 rfl ?_
        refine J_bipush E 8 dX8_liftsBy_105 (by decide) ?_
        refine J_iadd E dX8_liftsBy_107 (fun x46 e47 => ?_)
        refine J_imul E dX8_liftsBy_108 (fun x48 e49 => ?_)
        refine J_goto E 116 dX8_liftsBy_109 (by decide) ?_
        exact J_iret E hr dX8_liftsBy_116 ⟨rfl, rfl, trivial, trivial⟩
    refine J_tabOut (x := x_0) E 117 dX8_liftsBy_23 (by have := (Bd.any x_0); simp only [Bd, I0, I1] at this; omega) (by decide) ?_
    refine J_iload_n E dX8_liftsBy_117 1 rfl ?_
    refine J_iconst E 2 dX8_liftsBy_118 (by decide) ?_
    refine J_idiv E dX8_liftsBy_119 (Bd.nz (Bd.lit 2 2 (by decide)) (by decide)) (fun x50 e51 => ?_)
    refine J_iload_n E dX8_liftsBy_120 3 rfl ?_
    refine J_bipush E 60 dX8_liftsBy_121 (by decide) ?_
    refine J_icmp_le E 135 dX8_liftsBy_123 (by decide) (fun c52 => ?_) (fun c52 => ?_)
    · have b53 : Bd x_2 I0 60 := Bd.le_l c52 (Bd.any x_2) (Bd.lit 60 60 (by decide)) 60 (by decide)
      refine J_iconst E 0 dX8_liftsBy_135 (by decide) ?_
      exact J.sub [] rfl (J136 0 ((Bd.lit 0 0 (by decide)).w 0 2147483587 (by decide)) x50)
    · have b54 : Bd x_2 61 I1 := Bd.lt_r (nle c52) (Bd.lit 60 60 (by decide)) (Bd.any x_2) 61 (by decide)
      refine J_iload_n E dX8_liftsBy_126 3 rfl ?_
      refine J_bipush E 60 dX8_liftsBy_127 (by decide) ?_
      refine J_isub E dX8_liftsBy_129 (fun x55 e56 => ?_)
      have b57 : Bd x55 1 2147483587 := (Bd.sub e56 b54 (Bd.lit 60 60 (by decide)) (by decide)).w _ _ (by decide)
      refine J_iconst E 5 dX8_liftsBy_130 (by decide) ?_
      refine J_idiv E dX8_liftsBy_131 (Bd.nz (Bd.lit 5 5 (by decide)) (by decide)) (fun x58 e59 => ?_)
      have b60 : Bd x58 0 2147483587 := Bd.div e59 b57 (Bd.lit 5 5 (by decide)) (by decide)
      refine J_goto E 136 dX8_liftsBy_132 (by decide) ?_
      exact J.sub [] rfl (J136 x58 b60 x50)
  refine J_iconst E 2 dX8_liftsBy_0 (by decide) ?_
  refine J_iload_n E dX8_liftsBy_1 1 rfl ?_
  refine J_imul E dX8_liftsBy_2 (fun x61 e62 => ?_)
  refine J_iload_n E dX8_liftsBy_3 2 rfl ?_
  refine J_bipush E 30 dX8_liftsBy_4 (by decide) ?_
  refine J_icmp_le E 14 dX8_liftsBy_6 (by decide) (fun c63 => ?_) (fun c63 => ?_)
  · have b64 : Bd x_2 I0 30 := Bd.le_l c63 (Bd.any x_2) (Bd.lit 30 30 (by decide)) 30 (by decide)
    refine J_iload_n E dX8_liftsBy_14 2 rfl ?_
    exact J.sub [0, 2] rfl (J15 x_2 b64 x61)
  · have b65 : Bd x_2 31 I1 := Bd.lt_r (nle c63) (Bd.lit 30 30 (by decide)) (Bd.any x_2) 31 (by decide)
    refine J_bipush E 30 dX8_liftsBy_9 (by decide) ?_
    refine J_goto E 15 dX8_liftsBy_11 (by decide) ?_
    exact J.sub [0, 2] rfl (J15 30 ((Bd.lit 30 30 (by decide)).w I0 30 (by decide)) x61)

abbrev rm_X8_weighsOf : Room := { frames := 1, cells := 0, slots := 0, locals := 23 }
set_option maxHeartbeats 4000000 in
set_option maxRecDepth 100000 in
theorem ct_X8_weighsOf (l : Launch) (D : va_G) (dA : Nat → ClassId) (G : Gm) (v : Mv) (w : Mw) (hOk : Ok G v w) (h0 : Nat) (S0 : S_X8 G h0) (x_0 : Int32) (bx_0 : Bd x_0 0 738) (x_1 : Int32) (bx_1 : Bd x_1 0 6) (x_2 : Int32) : CtI l yX8_weighsOf cX8_weighsOf 4 (some .int) rm_X8_weighsOf D dA G [.ref h0, .int x_0, .int x_1, .int x_2] v w (fun r v1 w1 => v1 = v ∧ w1 = w ∧ True ∧ True) := by
  refine CtI.of RX8 [(0, .ref h0), (1, .int x_0), (2, .int x_1), (3, .int x_2)] (Nat.le_of_ble_eq_true rfl) rfl (by decide) rfl ?_
  intro p e s m args below meth c E hr
  refine J_aload_n E dX8_weighsOf_0 0 rfl ?_
  refine J_getR E in_X8 rfl (S_X8.h S0) 1 (by decide) wd936 rfl dX8_weighsOf_1 ?_
  refine J_iload_n E dX8_weighsOf_4 1 rfl ?_
  refine J_bipush E 6 dX8_weighsOf_5 (by decide) ?_
  refine J_iadd E dX8_weighsOf_7 (fun x1 e2 => ?_)
  have b3 : Bd x1 6 744 := (Bd.add e2 bx_0 (Bd.lit 6 6 (by decide)) (by decide)).w _ _ (by decide)
  refine J_iload_n E dX8_weighsOf_8 2 rfl ?_
  refine J_iadd E dX8_weighsOf_9 (fun x4 e5 => ?_)
  have b6 : Bd x4 6 750 := (Bd.add e5 b3 bx_1 (by decide)).w _ _ (by decide)
  refine J_iald1 E (S_X8.f1 S0) (Bd.in b6 (by decide)) dX8_weighsOf_10 (fun x7 e8 => ?_)
  refine J_aload_n E dX8_weighsOf_11 0 rfl ?_
  refine J_getR E in_X8 rfl (S_X8.h S0) 1 (by decide) wd936 rfl dX8_weighsOf_12 ?_
  refine J_iload_n E dX8_weighsOf_15 1 rfl ?_
  refine J_bipush E 13 dX8_weighsOf_16 (by decide) ?_
  refine J_iadd E dX8_weighsOf_18 (fun x9 e10 => ?_)
  have b11 : Bd x9 13 751 := (Bd.add e10 bx_0 (Bd.lit 13 13 (by decide)) (by decide)).w _ _ (by decide)
  refine J_iload_n E dX8_weighsOf_19 2 rfl ?_
  refine J_iadd E dX8_weighsOf_20 (fun x12 e13 => ?_)
  have b14 : Bd x12 13 757 := (Bd.add e13 b11 bx_1 (by decide)).w _ _ (by decide)
  refine J_iald1 E (S_X8.f1 S0) (Bd.in b14 (by decide)) dX8_weighsOf_21 (fun x15 e16 => ?_)
  refine J_iload_n E dX8_weighsOf_22 3 rfl ?_
  refine J_callSI E cal_X8_weighsBy wd1102 [.int x7, .int x15, .int x_2] [] (ct_X8_weighsBy l D dA G v w (hOk) x7 x15 x_2) rfl rfl (Nat.le_of_ble_eq_true rfl) ⟨rfl, rfl⟩ ⟨Nat.le_of_ble_eq_true rfl, Nat.le_of_ble_eq_true rfl⟩ dX8_weighsOf_23 (fun x20 v17 w18 p19 => ?_)
  rw [p19.1, p19.2.1]
  exact J_iret E hr dX8_weighsOf_26 ⟨rfl, rfl, trivial, trivial⟩

abbrev rm_X8_liftsOf : Room := { frames := 1, cells := 0, slots := 0, locals := 24 }
set_option maxHeartbeats 4000000 in
set_option maxRecDepth 100000 in
theorem ct_X8_liftsOf (l : Launch) (D : va_G) (dA : Nat → ClassId) (G : Gm) (v : Mv) (w : Mw) (hOk : Ok G v w) (h0 : Nat) (S0 : S_X8 G h0) (x_0 : Int32) (bx_0 : Bd x_0 0 738) (x_1 : Int32) (bx_1 : Bd x_1 0 6) (x_2 : Int32) : CtI l yX8_liftsOf cX8_liftsOf 4 (some .int) rm_X8_liftsOf D dA G [.ref h0, .int x_0, .int x_1, .int x_2] v w (fun r v1 w1 => v1 = v ∧ w1 = w ∧ True ∧ True) := by
  refine CtI.of RX8 [(0, .ref h0), (1, .int x_0), (2, .int x_1), (3, .int x_2)] (Nat.le_of_ble_eq_true rfl) rfl (by decide) rfl ?_
  intro p e s m args below meth c E hr
  refine J_aload_n E dX8_liftsOf_0 0 rfl ?_
  refine J_getR E in_X8 rfl (S_X8.h S0) 1 (by decide) wd936 rfl dX8_liftsOf_1 ?_
  refine J_iload_n E dX8_liftsOf_4 1 rfl ?_
  refine J_bipush E 20 dX8_liftsOf_5 (by decide) ?_
  refine J_iadd E dX8_liftsOf_7 (fun x1 e2 => ?_)
  have b3 : Bd x1 20 758 := (Bd.add e2 bx_0 (Bd.lit 20 20 (by decide)) (by decide)).w _ _ (by decide)
  refine J_iload_n E dX8_liftsOf_8 2 rfl ?_
  refine J_iadd E dX8_liftsOf_9 (fun x4 e5 => ?_)
  have b6 : Bd x4 20 764 := (Bd.add e5 b3 bx_1 (by decide)).w _ _ (by decide)
  refine J_iald1 E (S_X8.f1 S0) (Bd.in b6 (by decide)) dX8_liftsOf_10 (fun x7 e8 => ?_)
  refine J_aload_n E dX8_liftsOf_11 0 rfl ?_
  refine J_getR E in_X8 rfl (S_X8.h S0) 1 (by decide) wd936 rfl dX8_liftsOf_12 ?_
  refine J_iload_n E dX8_liftsOf_15 1 rfl ?_
  refine J_bipush E 27 dX8_liftsOf_16 (by decide) ?_
  refine J_iadd E dX8_liftsOf_18 (fun x9 e10 => ?_)
  have b11 : Bd x9 27 765 := (Bd.add e10 bx_0 (Bd.lit 27 27 (by decide)) (by decide)).w _ _ (by decide)
  refine J_iload_n E dX8_liftsOf_19 2 rfl ?_
  refine J_iadd E dX8_liftsOf_20 (fun x12 e13 => ?_)
  have b14 : Bd x12 27 771 := (Bd.add e13 b11 bx_1 (by decide)).w _ _ (by decide)
  refine J_iald1 E (S_X8.f1 S0) (Bd.in b14 (by decide)) dX8_liftsOf_21 (fun x15 e16 => ?_)
  refine J_iload_n E dX8_liftsOf_22 3 rfl ?_
  refine J_callSI E cal_X8_liftsBy wd1109 [.int x7, .int x15, .int x_2] [] (ct_X8_liftsBy l D dA G v w (hOk) x7 x15 x_2) rfl rfl (Nat.le_of_ble_eq_true rfl) ⟨rfl, rfl⟩ ⟨Nat.le_of_ble_eq_true rfl, Nat.le_of_ble_eq_true rfl⟩ dX8_liftsOf_23 (fun x20 v17 w18 p19 => ?_)
  rw [p19.1, p19.2.1]
  exact J_iret E hr dX8_liftsOf_26 ⟨rfl, rfl, trivial, trivial⟩

abbrev rm_X8_isHeld_0_A_34 : Room := { frames := 2, cells := 0, slots := 0, locals := 47 }
set_option maxHeartbeats 4000000 in
set_option maxRecDepth 100000 in
theorem ct_X8_isHeld_0_A_34 (l : Launch) (D : va_G) (dA : Nat → ClassId) (G : Gm) (v : Mv) (w : Mw) (hOk : Ok G v w) (h0 : Nat) (S0 : S_X8 G h0) (x_3 : Int32) (bx_3 : Bd x_3 0 6) : CtI l yX8_isHeld cX8_isHeld 6 (some .boolean) rm_X8_isHeld_0_A_34 D dA G [.ref h0, .int 0, .ref (rf G h0 1), .int 34, .int x_3] v w (fun r v1 w1 => v1 = v ∧ w1 = w ∧ Bd r 0 1 ∧ True) := by
  refine CtI.of RX8 [(0, .ref h0), (1, .int 0), (2, .ref (rf G h0 1)), (3, .int 34), (4, .int x_3)] (Nat.le_of_ble_eq_true rfl) rfl (by decide) rfl ?_
  intro p e s m args below meth c E hr
  refine J_aload_n E dX8_isHeld_0 2 rfl ?_
  refine J_iload_n E dX8_isHeld_1 3 rfl ?_
  refine J_bipush E 9 dX8_isHeld_2 (by decide) ?_
  refine J_iadd E dX8_isHeld_4 (fun x1 e2 => ?_)
  have b3 : Bd x1 43 43 := (Bd.add e2 (Bd.lit 34 34 (by decide)) (Bd.lit 9 9 (by decide)) (by decide)).w _ _ (by decide)
  refine J_iload E dX8_isHeld_5 4 rfl ?_
  refine J_iadd E dX8_isHeld_7 (fun x4 e5 => ?_)
  have b6 : Bd x4 43 49 := (Bd.add e5 b3 bx_3 (by decide)).w _ _ (by decide)
  refine J_iald1 E (S_X8.f1 S0) (Bd.in b6 (by decide)) dX8_isHeld_8 (fun x7 e8 => ?_)
  have b9 : Bd x7 (-1) 6 := Bd.e (Ok.ld hOk (S_X8.f1 S0) b6 43 7 (-1) 6 (by decide) (by decide +kernel)) e8
  refine J_istore E [(5, .int x7), (0, .ref h0), (1, .int 0), (2, .ref (rf G h0 1)), (3, .int 34), (4, .int x_3)] dX8_isHeld_9 (by decide) rfl ?_
  refine J_iload E dX8_isHeld_11 0 rfl ?_
  refine J_iconst E (-1) dX8_isHeld_13 (by decide) ?_
  refine J_icmp_eq E 51 dX8_isHeld_14 (by decide) (fun c10 => ?_) (fun c10 => ?_)
  · have b11 : Bd x7 (-1) (-1) := Bd.eq_l c10 b9 (Bd.lit (-1) (-1) (by decide)) (-1) (-1) (by decide)
    refine J_iconst E 0 dX8_isHeld_51 (by decide) ?_
    exact J_zret E hr (Bd.z (Bd.lit 0 0 (by decide)) (by decide)) dX8_isHeld_52 ⟨rfl, rfl, ((Bd.lit 0 0 (by decide)).w 0 1 (by decide)), trivial⟩
  · have b12 : Bd x7 0 6 := (Bd.ne_lo c10 b9 (Bd.lit (-1) (-1) (by decide))).w _ _ (by decide)
    refine J_aload_n E dX8_isHeld_17 1 rfl ?_
    refine J_iload_n E dX8_isHeld_18 2 rfl ?_
    refine J_iload E dX8_isHeld_19 0 rfl ?_
    refine J_aload_n E dX8_isHeld_21 3 rfl ?_
    refine J_iload_n E dX8_isHeld_22 4 rfl ?_
    refine J_iconst E 0 dX8_isHeld_23 (by decide) ?_
    refine J_iadd E dX8_isHeld_24 (fun x13 e14 => ?_)
    have b15 : Bd x13 34 34 := (Bd.add e14 (Bd.lit 34 34 (by decide)) (Bd.lit 0 0 (by decide)) (by decide)).w _ _ (by decide)
    refine J_iald1 E (S_X8.f1 S0) (Bd.in b15 (by decide)) dX8_isHeld_25 (fun x16 e17 => ?_)
    have e18 : x16 = v (rf G h0 1) 34 := by rw [e17, Bd.ix b15 34 rfl]
    refine J_callVI E cal_X8_weighsOf wd1098 rfl (S_X8.h S0) [.int 0, .int x7, .int x16] [] (ct_X8_weighsOf l D dA G v w (hOk) h0 S0 0 ((Bd.lit 0 0 (by decide)).w 0 738 (by decide)) x7 b12 x16) rfl rfl (Nat.le_of_ble_eq_true rfl) ⟨rfl, rfl⟩ ⟨Nat.le_of_ble_eq_true rfl, Nat.le_of_ble_eq_true rfl⟩ dX8_isHeld_26 (fun x22 v19 w20 p21 => ?_)
    rw [p21.1, p21.2.1]
    refine J_aload_n E dX8_isHeld_29 1 rfl ?_
    refine J_iload_n E dX8_isHeld_30 2 rfl ?_
    refine J_iload E dX8_isHeld_31 5 rfl ?_
    refine J_aload_n E dX8_isHeld_33 3 rfl ?_
    refine J_iload_n E dX8_isHeld_34 4 rfl ?_
    refine J_iconst E 2 dX8_isHeld_35 (by decide) ?_
    refine J_iadd E dX8_isHeld_36 (fun x23 e24 => ?_)
    have b25 : Bd x23 36 36 := (Bd.add e24 (Bd.lit 34 34 (by decide)) (Bd.lit 2 2 (by decide)) (by decide)).w _ _ (by decide)
    refine J_iload E dX8_isHeld_37 5 rfl ?_
    refine J_iadd E dX8_isHeld_39 (fun x26 e27 => ?_)
    have b28 : Bd x26 36 42 := (Bd.add e27 b25 bx_3 (by decide)).w _ _ (by decide)
    refine J_iald1 E (S_X8.f1 S0) (Bd.in b28 (by decide)) dX8_isHeld_40 (fun x29 e30 => ?_)
    refine J_callVI E cal_X8_liftsOf wd1105 rfl (S_X8.h S0) [.int 0, .int x_3, .int x29] [.int x22] (ct_X8_liftsOf l D dA G v w (hOk) h0 S0 0 ((Bd.lit 0 0 (by decide)).w 0 738 (by decide)) x_3 bx_3 x29) rfl rfl (Nat.le_of_ble_eq_true rfl) ⟨rfl, rfl⟩ ⟨Nat.le_of_ble_eq_true rfl, Nat.le_of_ble_eq_true rfl⟩ dX8_isHeld_41 (fun x34 v31 w32 p33 => ?_)
    rw [p33.1, p33.2.1]
    refine J_icmp_le E 51 dX8_isHeld_44 (by decide) (fun c35 => ?_) (fun c35 => ?_)
    · refine J_iconst E 0 dX8_isHeld_51 (by decide) ?_
      exact J_zret E hr (Bd.z (Bd.lit 0 0 (by decide)) (by decide)) dX8_isHeld_52 ⟨rfl, rfl, ((Bd.lit 0 0 (by decide)).w 0 1 (by decide)), trivial⟩
    · refine J_iconst E 1 dX8_isHeld_47 (by decide) ?_
      refine J_goto E 52 dX8_isHeld_48 (by decide) ?_
      exact J_zret E hr (Bd.z (Bd.lit 1 1 (by decide)) (by decide)) dX8_isHeld_52 ⟨rfl, rfl, ((Bd.lit 1 1 (by decide)).w 0 1 (by decide)), trivial⟩

abbrev rm_X8_isHeld_0_T_0 : Room := { frames := 2, cells := 0, slots := 0, locals := 47 }
set_option maxHeartbeats 4000000 in
set_option maxRecDepth 100000 in
theorem ct_X8_isHeld_0_T_0 (l : Launch) (D : va_G) (dA : Nat → ClassId) (G : Gm) (v : Mv) (w : Mw) (hOk : Ok G v w) (h0 : Nat) (S0 : S_X8 G h0) (x_3 : Int32) (bx_3 : Bd x_3 0 6) : CtI l yX8_isHeld cX8_isHeld 6 (some .boolean) rm_X8_isHeld_0_T_0 D dA G [.ref h0, .int 0, .ref (rf G h0 3), .int 0, .int x_3] v w (fun r v1 w1 => v1 = v ∧ w1 = w ∧ Bd r 0 1 ∧ True) := by
  refine CtI.of RX8 [(0, .ref h0), (1, .int 0), (2, .ref (rf G h0 3)), (3, .int 0), (4, .int x_3)] (Nat.le_of_ble_eq_true rfl) rfl (by decide) rfl ?_
  intro p e s m args below meth c E hr
  refine J_aload_n E dX8_isHeld_0 2 rfl ?_
  refine J_iload_n E dX8_isHeld_1 3 rfl ?_
  refine J_bipush E 9 dX8_isHeld_2 (by decide) ?_
  refine J_iadd E dX8_isHeld_4 (fun x1 e2 => ?_)
  have b3 : Bd x1 9 9 := (Bd.add e2 (Bd.lit 0 0 (by decide)) (Bd.lit 9 9 (by decide)) (by decide)).w _ _ (by decide)
  refine J_iload E dX8_isHeld_5 4 rfl ?_
  refine J_iadd E dX8_isHeld_7 (fun x4 e5 => ?_)
  have b6 : Bd x4 9 15 := (Bd.add e5 b3 bx_3 (by decide)).w _ _ (by decide)
  refine J_iald1 E (S_X8.f3 S0) (Bd.in b6 (by decide)) dX8_isHeld_8 (fun x7 e8 => ?_)
  have b9 : Bd x7 (-1) 6 := Bd.e (Ok.ld hOk (S_X8.f3 S0) b6 9 7 (-1) 6 (by decide) (by decide +kernel)) e8
  refine J_istore E [(5, .int x7), (0, .ref h0), (1, .int 0), (2, .ref (rf G h0 3)), (3, .int 0), (4, .int x_3)] dX8_isHeld_9 (by decide) rfl ?_
  refine J_iload E dX8_isHeld_11 0 rfl ?_
  refine J_iconst E (-1) dX8_isHeld_13 (by decide) ?_
  refine J_icmp_eq E 51 dX8_isHeld_14 (by decide) (fun c10 => ?_) (fun c10 => ?_)
  · have b11 : Bd x7 (-1) (-1) := Bd.eq_l c10 b9 (Bd.lit (-1) (-1) (by decide)) (-1) (-1) (by decide)
    refine J_iconst E 0 dX8_isHeld_51 (by decide) ?_
    exact J_zret E hr (Bd.z (Bd.lit 0 0 (by decide)) (by decide)) dX8_isHeld_52 ⟨rfl, rfl, ((Bd.lit 0 0 (by decide)).w 0 1 (by decide)), trivial⟩
  · have b12 : Bd x7 0 6 := (Bd.ne_lo c10 b9 (Bd.lit (-1) (-1) (by decide))).w _ _ (by decide)
    refine J_aload_n E dX8_isHeld_17 1 rfl ?_
    refine J_iload_n E dX8_isHeld_18 2 rfl ?_
    refine J_iload E dX8_isHeld_19 0 rfl ?_
    refine J_aload_n E dX8_isHeld_21 3 rfl ?_
    refine J_iload_n E dX8_isHeld_22 4 rfl ?_
    refine J_iconst E 0 dX8_isHeld_23 (by decide) ?_
    refine J_iadd E dX8_isHeld_24 (fun x13 e14 => ?_)
    have b15 : Bd x13 0 0 := (Bd.add e14 (Bd.lit 0 0 (by decide)) (Bd.lit 0 0 (by decide)) (by decide)).w _ _ (by decide)
    refine J_iald1 E (S_X8.f3 S0) (Bd.in b15 (by decide)) dX8_isHeld_25 (fun x16 e17 => ?_)
    have e18 : x16 = v (rf G h0 3) 0 := by rw [e17, Bd.ix b15 0 rfl]
    refine J_callVI E cal_X8_weighsOf wd1098 rfl (S_X8.h S0) [.int 0, .int x7, .int x16] [] (ct_X8_weighsOf l D dA G v w (hOk) h0 S0 0 ((Bd.lit 0 0 (by decide)).w 0 738 (by decide)) x7 b12 x16) rfl rfl (Nat.le_of_ble_eq_true rfl) ⟨rfl, rfl⟩ ⟨Nat.le_of_ble_eq_true rfl, Nat.le_of_ble_eq_true rfl⟩ dX8_isHeld_26 (fun x22 v19 w20 p21 => ?_)
    rw [p21.1, p21.2.1]
    refine J_aload_n E dX8_isHeld_29 1 rfl ?_
    refine J_iload_n E dX8_isHeld_30 2 rfl ?_
    refine J_iload E dX8_isHeld_31 5 rfl ?_
    refine J_aload_n E dX8_isHeld_33 3 rfl ?_
    refine J_iload_n E dX8_isHeld_34 4 rfl ?_
    refine J_iconst E 2 dX8_isHeld_35 (by decide) ?_
    refine J_iadd E dX8_isHeld_36 (fun x23 e24 => ?_)
    have b25 : Bd x23 2 2 := (Bd.add e24 (Bd.lit 0 0 (by decide)) (Bd.lit 2 2 (by decide)) (by decide)).w _ _ (by decide)
    refine J_iload E dX8_isHeld_37 5 rfl ?_
    refine J_iadd E dX8_isHeld_39 (fun x26 e27 => ?_)
    have b28 : Bd x26 2 8 := (Bd.add e27 b25 bx_3 (by decide)).w _ _ (by decide)
    refine J_iald1 E (S_X8.f3 S0) (Bd.in b28 (by decide)) dX8_isHeld_40 (fun x29 e30 => ?_)
    refine J_callVI E cal_X8_liftsOf wd1105 rfl (S_X8.h S0) [.int 0, .int x_3, .int x29] [.int x22] (ct_X8_liftsOf l D dA G v w (hOk) h0 S0 0 ((Bd.lit 0 0 (by decide)).w 0 738 (by decide)) x_3 bx_3 x29) rfl rfl (Nat.le_of_ble_eq_true rfl) ⟨rfl, rfl⟩ ⟨Nat.le_of_ble_eq_true rfl, Nat.le_of_ble_eq_true rfl⟩ dX8_isHeld_41 (fun x34 v31 w32 p33 => ?_)
    rw [p33.1, p33.2.1]
    refine J_icmp_le E 51 dX8_isHeld_44 (by decide) (fun c35 => ?_) (fun c35 => ?_)
    · refine J_iconst E 0 dX8_isHeld_51 (by decide) ?_
      exact J_zret E hr (Bd.z (Bd.lit 0 0 (by decide)) (by decide)) dX8_isHeld_52 ⟨rfl, rfl, ((Bd.lit 0 0 (by decide)).w 0 1 (by decide)), trivial⟩
    · refine J_iconst E 1 dX8_isHeld_47 (by decide) ?_
      refine J_goto E 52 dX8_isHeld_48 (by decide) ?_
      exact J_zret E hr (Bd.z (Bd.lit 1 1 (by decide)) (by decide)) dX8_isHeld_52 ⟨rfl, rfl, ((Bd.lit 1 1 (by decide)).w 0 1 (by decide)), trivial⟩

abbrev rm_X8_isHeld_738_A_772 : Room := { frames := 2, cells := 0, slots := 0, locals := 47 }
set_option maxHeartbeats 4000000 in
set_option maxRecDepth 100000 in
theorem ct_X8_isHeld_738_A_772 (l : Launch) (D : va_G) (dA : Nat → ClassId) (G : Gm) (v : Mv) (w : Mw) (hOk : Ok G v w) (h0 : Nat) (S0 : S_X8 G h0) (x_3 : Int32) (bx_3 : Bd x_3 0 6) : CtI l yX8_isHeld cX8_isHeld 6 (some .boolean) rm_X8_isHeld_738_A_772 D dA G [.ref h0, .int 738, .ref (rf G h0 1), .int 772, .int x_3] v w (fun r v1 w1 => v1 = v ∧ w1 = w ∧ Bd r 0 1 ∧ True) := by
  refine CtI.of RX8 [(0, .ref h0), (1, .int 738), (2, .ref (rf G h0 1)), (3, .int 772), (4, .int x_3)] (Nat.le_of_ble_eq_true rfl) rfl (by decide) rfl ?_
  intro p e s m args below meth c E hr
  refine J_aload_n E dX8_isHeld_0 2 rfl ?_
  refine J_iload_n E dX8_isHeld_1 3 rfl ?_
  refine J_bipush E 9 dX8_isHeld_2 (by decide) ?_
  refine J_iadd E dX8_isHeld_4 (fun x1 e2 => ?_)
  have b3 : Bd x1 781 781 := (Bd.add e2 (Bd.lit 772 772 (by decide)) (Bd.lit 9 9 (by decide)) (by decide)).w _ _ (by decide)
  refine J_iload E dX8_isHeld_5 4 rfl ?_
  refine J_iadd E dX8_isHeld_7 (fun x4 e5 => ?_)
  have b6 : Bd x4 781 787 := (Bd.add e5 b3 bx_3 (by decide)).w _ _ (by decide)
  refine J_iald1 E (S_X8.f1 S0) (Bd.in b6 (by decide)) dX8_isHeld_8 (fun x7 e8 => ?_)
  have b9 : Bd x7 (-1) 6 := Bd.e (Ok.ld hOk (S_X8.f1 S0) b6 781 7 (-1) 6 (by decide) (by decide +kernel)) e8
  refine J_istore E [(5, .int x7), (0, .ref h0), (1, .int 738), (2, .ref (rf G h0 1)), (3, .int 772), (4, .int x_3)] dX8_isHeld_9 (by decide) rfl ?_
  refine J_iload E dX8_isHeld_11 0 rfl ?_
  refine J_iconst E (-1) dX8_isHeld_13 (by decide) ?_
  refine J_icmp_eq E 51 dX8_isHeld_14 (by decide) (fun c10 => ?_) (fun c10 => ?_)
  · have b11 : Bd x7 (-1) (-1) := Bd.eq_l c10 b9 (Bd.lit (-1) (-1) (by decide)) (-1) (-1) (by decide)
    refine J_iconst E 0 dX8_isHeld_51 (by decide) ?_
    exact J_zret E hr (Bd.z (Bd.lit 0 0 (by decide)) (by decide)) dX8_isHeld_52 ⟨rfl, rfl, ((Bd.lit 0 0 (by decide)).w 0 1 (by decide)), trivial⟩
  · have b12 : Bd x7 0 6 := (Bd.ne_lo c10 b9 (Bd.lit (-1) (-1) (by decide))).w _ _ (by decide)
    refine J_aload_n E dX8_isHeld_17 1 rfl ?_
    refine J_iload_n E dX8_isHeld_18 2 rfl ?_
    refine J_iload E dX8_isHeld_19 0 rfl ?_
    refine J_aload_n E dX8_isHeld_21 3 rfl ?_
    refine J_iload_n E dX8_isHeld_22 4 rfl ?_
    refine J_iconst E 0 dX8_isHeld_23 (by decide) ?_
    refine J_iadd E dX8_isHeld_24 (fun x13 e14 => ?_)
    have b15 : Bd x13 772 772 := (Bd.add e14 (Bd.lit 772 772 (by decide)) (Bd.lit 0 0 (by decide)) (by decide)).w _ _ (by decide)
    refine J_iald1 E (S_X8.f1 S0) (Bd.in b15 (by decide)) dX8_isHeld_25 (fun x16 e17 => ?_)
    have e18 : x16 = v (rf G h0 1) 772 := by rw [e17, Bd.ix b15 772 rfl]
    refine J_callVI E cal_X8_weighsOf wd1098 rfl (S_X8.h S0) [.int 738, .int x7, .int x16] [] (ct_X8_weighsOf l D dA G v w (hOk) h0 S0 738 ((Bd.lit 738 738 (by decide)).w 0 738 (by decide)) x7 b12 x16) rfl rfl (Nat.le_of_ble_eq_true rfl) ⟨rfl, rfl⟩ ⟨Nat.le_of_ble_eq_true rfl, Nat.le_of_ble_eq_true rfl⟩ dX8_isHeld_26 (fun x22 v19 w20 p21 => ?_)
    rw [p21.1, p21.2.1]
    refine J_aload_n E dX8_isHeld_29 1 rfl ?_
    refine J_iload_n E dX8_isHeld_30 2 rfl ?_
    refine J_iload E dX8_isHeld_31 5 rfl ?_
    refine J_aload_n E dX8_isHeld_33 3 rfl ?_
    refine J_iload_n E dX8_isHeld_34 4 rfl ?_
    refine J_iconst E 2 dX8_isHeld_35 (by decide) ?_
    refine J_iadd E dX8_isHeld_36 (fun x23 e24 => ?_)
    have b25 : Bd x23 774 774 := (Bd.add e24 (Bd.lit 772 772 (by decide)) (Bd.lit 2 2 (by decide)) (by decide)).w _ _ (by decide)
    refine J_iload E dX8_isHeld_37 5 rfl ?_
    refine J_iadd E dX8_isHeld_39 (fun x26 e27 => ?_)
    have b28 : Bd x26 774 780 := (Bd.add e27 b25 bx_3 (by decide)).w _ _ (by decide)
    refine J_iald1 E (S_X8.f1 S0) (Bd.in b28 (by decide)) dX8_isHeld_40 (fun x29 e30 => ?_)
    refine J_callVI E cal_X8_liftsOf wd1105 rfl (S_X8.h S0) [.int 738, .int x_3, .int x29] [.int x22] (ct_X8_liftsOf l D dA G v w (hOk) h0 S0 738 ((Bd.lit 738 738 (by decide)).w 0 738 (by decide)) x_3 bx_3 x29) rfl rfl (Nat.le_of_ble_eq_true rfl) ⟨rfl, rfl⟩ ⟨Nat.le_of_ble_eq_true rfl, Nat.le_of_ble_eq_true rfl⟩ dX8_isHeld_41 (fun x34 v31 w32 p33 => ?_)
    rw [p33.1, p33.2.1]
    refine J_icmp_le E 51 dX8_isHeld_44 (by decide) (fun c35 => ?_) (fun c35 => ?_)
    · refine J_iconst E 0 dX8_isHeld_51 (by decide) ?_
      exact J_zret E hr (Bd.z (Bd.lit 0 0 (by decide)) (by decide)) dX8_isHeld_52 ⟨rfl, rfl, ((Bd.lit 0 0 (by decide)).w 0 1 (by decide)), trivial⟩
    · refine J_iconst E 1 dX8_isHeld_47 (by decide) ?_
      refine J_goto E 52 dX8_isHeld_48 (by decide) ?_
      exact J_zret E hr (Bd.z (Bd.lit 1 1 (by decide)) (by decide)) dX8_isHeld_52 ⟨rfl, rfl, ((Bd.lit 1 1 (by decide)).w 0 1 (by decide)), trivial⟩

abbrev rm_X8_passOn_0_A_34 : Room := { frames := 3, cells := 0, slots := 0, locals := 72 }
set_option maxHeartbeats 4000000 in
set_option maxRecDepth 100000 in
theorem ct_X8_passOn_0_A_34 (l : Launch) (D : va_G) (dA : Nat → ClassId) (G : Gm) (v : Mv) (w : Mw) (hOk : Ok G v w) (h0 : Nat) (S0 : S_X8 G h0) : CtV l yX8_passOn cX8_passOn 6 none rm_X8_passOn_0_A_34 D dA G [.ref h0, .int 0, .ref (rf G h0 1), .int 34] v w (fun v1 w1 => Ok G v1 w1 ∧ Kp G v v1 ∧ Fr G [116, 1084] v v1) := by
  refine CtV.of RX8 [(0, .ref h0), (1, .int 0), (2, .ref (rf G h0 1)), (3, .int 34)] (Nat.le_of_ble_eq_true rfl) rfl (by decide) rfl ?_
  intro p e s m args below meth c E hr
  have J10 : ∀ n : Nat, ∀ (v1 : Mv) (w2 : Mw), Ok G v1 w2 → Kp G v v1 → Fr G [116, 1084] v v1 → Bd 0 0 0 → Bd 34 34 34 → ∀ x8 : Int32, ∀ x9 : Int32, Bd x9 0 7 → Mu x9 7 n → J p l e rm_X8_passOn_0_A_34 s m args below meth c 0 0 (MQ below (QcV D dA G (fun v1 w1 => Ok G v1 w1 ∧ Kp G v v1 ∧ Fr G [116, 1084] v v1)) args s 0 0 (dm G)) D dA G (dm G) s.heap 6 v1 w2 [(0, .ref h0), (1, .int 0), (2, .ref (rf G h0 1)), (3, .int 34), (4, .int x8), (5, .int x9)] 10 [] := by
    intro n
    induction n with
    | zero => intro v1 w2 o3 k4 f5 b6 b7 x8 x9 b10 hm; exact hm.zero b10 (by decide)
    | succ n ih10 =>
      intro v1 w2 o3 k4 f5 b6 b7 x8 x9 b10 hmu10
      have J99 : ∀ (v11 : Mv) (w12 : Mw), Ok G v11 w12 → Kp G v v11 → Fr G [116, 1084] v v11 → Bd 0 0 0 → Bd 34 34 34 → Bd x9 0 6 → J p l e rm_X8_passOn_0_A_34 s m args below meth c 0 0 (MQ below (QcV D dA G (fun v1 w1 => Ok G v1 w1 ∧ Kp G v v1 ∧ Fr G [116, 1084] v v1)) args s 0 0 (dm G)) D dA G (dm G) s.heap 6 v11 w12 [(0, .ref h0), (1, .int 0), (2, .ref (rf G h0 1)), (3, .int 34), (4, .int x8), (5, .int x9)] 99 [] := by
        intro v11 w12 o13 k14 f15 b16 b17 b18
        refine J_iinc E 5 1 (fun z => [(5, .int z), (0, .ref h0), (1, .int 0), (2, .ref (rf G h0 1)), (3, .int 34), (4, .int x8)]) dX8_passOn_99 rfl (by decide) (by decide) (fun _ => rfl) (fun x19 e20 => ?_)
        have b21 : Bd x19 1 7 := (Bd.add e20 b18 (Bd.lit 1 1 (by decide)) (by decide)).w _ _ (by decide)
        refine J_goto E 10 dX8_passOn_102 (by decide) ?_
        exact J.sub [1, 2, 3, 4, 5, 0] rfl (ih10 v11 w12 (o13) (k14) f15 (Bd.lit 0 0 (by decide)) (Bd.lit 34 34 (by decide)) x8 x19 (b21.w 0 7 (by decide)) (Mu.step hmu10 e20 b18 (Bd.lit 1 1 (by decide)) (by decide)))
      have J72 : Bd 0 0 0 → Bd 34 34 34 → Bd x9 0 6 → ∀ x25 : Int32, Bd x25 0 1 → ∀ x27 : Int32, ∀ x28 : Int32, Bd x28 36 42 → J p l e rm_X8_passOn_0_A_34 s m args below meth c 0 0 (MQ below (QcV D dA G (fun v1 w1 => Ok G v1 w1 ∧ Kp G v v1 ∧ Fr G [116, 1084] v v1)) args s 0 0 (dm G)) D dA G (dm G) s.heap 6 v1 w2 [(0, .ref h0), (1, .int 0), (2, .ref (rf G h0 1)), (3, .int 34), (4, .int x8), (5, .int x9)] 72 [.int x25, .int x27, .int x28, .ref (rf G h0 1)] := by
        intro b22 b23 b24 x25 b26 x27 x28 b29
        refine J_iadd E dX8_passOn_72 (fun x30 e31 => ?_)
        refine J_iast1 E (S_X8.f1 S0) (Bd.in b29 (by decide)) dX8_passOn_73 (fun v32 e33 => ?_)
        have o34 : Ok G v32 w2 := by rw [e33]; exact Ok.sv o3 (S_X8.f1 S0) b29 (Bd.any x30) 36 7 (by decide) (by decide +kernel)
        have k35 : Kp G v v32 := by rw [e33]; exact Kp.sv k4 (S_X8.f1 S0) b29 36 7 I0 I1 (by decide) (by decide +kernel)
        have f36 : Fr G [116, 1084] v v32 := Fr.st f5 e33 (S_X8.f1 S0) rfl
        refine J_goto E 99 dX8_passOn_74 (by decide) ?_
        exact J.sub [0, 1, 2, 3, 4, 5] rfl (J99 v32 w2 (o34) (k35) f36 (Bd.lit 0 0 (by decide)) (Bd.lit 34 34 (by decide)) b24)
      refine J_iload E dX8_passOn_10 5 rfl ?_
      refine J_aload_n E dX8_passOn_12 0 rfl ?_
      refine J_getR E in_X8 rfl (S_X8.h S0) 1 (by decide) wd936 rfl dX8_passOn_13 ?_
      refine J_iload_n E dX8_passOn_16 1 rfl ?_
      refine J_iconst E 1 dX8_passOn_17 (by decide) ?_
      refine J_iadd E dX8_passOn_18 (fun x37 e38 => ?_)
      have b39 : Bd x37 1 1 := (Bd.add e38 (Bd.lit 0 0 (by decide)) (Bd.lit 1 1 (by decide)) (by decide)).w _ _ (by decide)
      refine J_iald1 E (S_X8.f1 S0) (Bd.in b39 (by decide)) dX8_passOn_19 (fun x40 e41 => ?_)
      have b42 : Bd x40 0 7 := Bd.e (Ok.ld o3 (S_X8.f1 S0) b39 1 1 0 7 (by decide) (by decide +kernel)) e41
      have e43 : x40 = v1 (rf G h0 1) 1 := by rw [e41, Bd.ix b39 1 rfl]
      refine J_icmp_ge E 105 dX8_passOn_20 (by decide) (fun c44 => ?_) (fun c44 => ?_)
      · refine J_aload_n E dX8_passOn_105 2 rfl ?_
        refine J_iload_n E dX8_passOn_106 3 rfl ?_
        refine J_iconst E 0 dX8_passOn_107 (by decide) ?_
        refine J_iadd E dX8_passOn_108 (fun x45 e46 => ?_)
        have b47 : Bd x45 34 34 := (Bd.add e46 (Bd.lit 34 34 (by decide)) (Bd.lit 0 0 (by decide)) (by decide)).w _ _ (by decide)
        refine J_dup2 E dX8_passOn_109 rfl rfl ?_
        refine J_iald1 E (S_X8.f1 S0) (Bd.in b47 (by decide)) dX8_passOn_110 (fun x48 e49 => ?_)
        have e50 : x48 = v1 (rf G h0 1) 34 := by rw [e49, Bd.ix b47 34 rfl]
        refine J_iconst E 1 dX8_passOn_111 (by decide) ?_
        refine J_iadd E dX8_passOn_112 (fun x51 e52 => ?_)
        refine J_iast1 E (S_X8.f1 S0) (Bd.in b47 (by decide)) dX8_passOn_113 (fun v53 e54 => ?_)
        have o55 : Ok G v53 w2 := by rw [e54]; exact Ok.sv o3 (S_X8.f1 S0) b47 (Bd.any x51) 34 1 (by decide) (by decide +kernel)
        have k56 : Kp G v v53 := by rw [e54]; exact Kp.sv k4 (S_X8.f1 S0) b47 34 1 I0 I1 (by decide) (by decide +kernel)
        have f57 : Fr G [116, 1084] v v53 := Fr.st f5 e54 (S_X8.f1 S0) rfl
        have e58 : x40 = v53 (rf G h0 1) 1 := by rw [e54, stv_k (Bd.nix b47 1 (by decide))]; exact e43
        have e59 : (x51 : Int32) = v53 (rf G h0 1) 34 := by rw [e54, Bd.ix b47 34 rfl, stv_s]
        exact J_vret E hr dX8_passOn_114 ⟨o55, k56, f57⟩
      · have b60 : Bd x9 0 6 := Bd.lt_l (nle c44) b10 b42 6 (by decide)
        have b61 : Bd x40 1 7 := Bd.lt_r (nle c44) b10 b42 1 (by decide)
        refine J_iload E dX8_passOn_23 4 rfl ?_
        refine J_iload E dX8_passOn_25 5 rfl ?_
        refine J_callSI E cal_X8_has wd1075 [.int x8, .int x9] [] (ct_X8_has l D dA G v1 w2 (o3) x8 x9 (b60.w 0 9 (by decide))) rfl rfl (Nat.le_of_ble_eq_true rfl) ⟨rfl, rfl⟩ ⟨Nat.le_of_ble_eq_true rfl, Nat.le_of_ble_eq_true rfl⟩ dX8_passOn_27 (fun x65 v62 w63 p64 => ?_)
        rw [p64.1, p64.2.1]
        have b66 : Bd x65 0 1 := p64.2.2.1
        refine J_if_ne E 99 dX8_passOn_30 (by decide) (fun c67 => ?_) (fun c67 => ?_)
        · have b68 : Bd x65 1 1 := (Bd.ne_lo c67 b66 (Bd.lit 0 0 (by decide))).w _ _ (by decide)
          exact J.sub [0, 1, 2, 3, 4, 5] rfl (J99 v1 w2 (o3) (k4) f5 (Bd.lit 0 0 (by decide)) (Bd.lit 34 34 (by decide)) b60)
        · have b69 : Bd x65 0 0 := Bd.eq_l c67 b66 (Bd.lit 0 0 (by decide)) 0 0 (by decide)
          refine J_aload_n E dX8_passOn_33 0 rfl ?_
          refine J_iload_n E dX8_passOn_34 1 rfl ?_
          refine J_aload_n E dX8_passOn_35 2 rfl ?_
          refine J_iload_n E dX8_passOn_36 3 rfl ?_
          refine J_iload E dX8_passOn_37 5 rfl ?_
          refine J_callVI E cal_X8_isHeld wd1094 rfl (S_X8.h S0) [.int 0, .ref (rf G h0 1), .int 34, .int x9] [] (ct_X8_isHeld_0_A_34 l D dA G v1 w2 (o3) h0 S0 x9 b60) rfl rfl (Nat.le_of_ble_eq_true rfl) ⟨rfl, rfl⟩ ⟨Nat.le_of_ble_eq_true rfl, Nat.le_of_ble_eq_true rfl⟩ dX8_passOn_39 (fun x73 v70 w71 p72 => ?_)
          rw [p72.1, p72.2.1]
          have b74 : Bd x73 0 1 := p72.2.2.1
          refine J_if_eq E 77 dX8_passOn_42 (by decide) (fun c75 => ?_) (fun c75 => ?_)
          · have b76 : Bd x73 0 0 := Bd.eq_l c75 b74 (Bd.lit 0 0 (by decide)) 0 0 (by decide)
            refine J_aload_n E dX8_passOn_77 2 rfl ?_
            refine J_iload_n E dX8_passOn_78 3 rfl ?_
            refine J_iconst E 1 dX8_passOn_79 (by decide) ?_
            refine J_iadd E dX8_passOn_80 (fun x77 e78 => ?_)
            have b79 : Bd x77 35 35 := (Bd.add e78 (Bd.lit 34 34 (by decide)) (Bd.lit 1 1 (by decide)) (by decide)).w _ _ (by decide)
            refine J_dup2 E dX8_passOn_81 rfl rfl ?_
            refine J_iald1 E (S_X8.f1 S0) (Bd.in b79 (by decide)) dX8_passOn_82 (fun x80 e81 => ?_)
            have e82 : x80 = v1 (rf G h0 1) 35 := by rw [e81, Bd.ix b79 35 rfl]
            refine J_iconst E 1 dX8_passOn_83 (by decide) ?_
            refine J_iload E dX8_passOn_84 5 rfl ?_
            refine J_ishl E dX8_passOn_86 (fun x83 e84 => ?_)
            have b85 : Bd x83 1 64 := Bd.shl1 e84 b60 6 (by decide)
            refine J_ior E dX8_passOn_87 (fun x86 e87 => ?_)
            refine J_iast1 E (S_X8.f1 S0) (Bd.in b79 (by decide)) dX8_passOn_88 (fun v88 e89 => ?_)
            have o90 : Ok G v88 w2 := by rw [e89]; exact Ok.sv o3 (S_X8.f1 S0) b79 (Bd.any x86) 35 1 (by decide) (by decide +kernel)
            have k91 : Kp G v v88 := by rw [e89]; exact Kp.sv k4 (S_X8.f1 S0) b79 35 1 I0 I1 (by decide) (by decide +kernel)
            have f92 : Fr G [116, 1084] v v88 := Fr.st f5 e89 (S_X8.f1 S0) rfl
            have e93 : x40 = v88 (rf G h0 1) 1 := by rw [e89, stv_k (Bd.nix b79 1 (by decide))]; exact e43
            have e94 : (x86 : Int32) = v88 (rf G h0 1) 35 := by rw [e89, Bd.ix b79 35 rfl, stv_s]
            refine J_aload_n E dX8_passOn_89 2 rfl ?_
            refine J_iload_n E dX8_passOn_90 3 rfl ?_
            refine J_bipush E 9 dX8_passOn_91 (by decide) ?_
            refine J_iadd E dX8_passOn_93 (fun x95 e96 => ?_)
            have b97 : Bd x95 43 43 := (Bd.add e96 (Bd.lit 34 34 (by decide)) (Bd.lit 9 9 (by decide)) (by decide)).w _ _ (by decide)
            refine J_iload E dX8_passOn_94 5 rfl ?_
            refine J_iadd E dX8_passOn_96 (fun x98 e99 => ?_)
            have b100 : Bd x98 43 49 := (Bd.add e99 b97 b60 (by decide)).w _ _ (by decide)
            refine J_iconst E (-1) dX8_passOn_97 (by decide) ?_
            refine J_iast1 E (S_X8.f1 S0) (Bd.in b100 (by decide)) dX8_passOn_98 (fun v101 e102 => ?_)
            have o103 : Ok G v101 w2 := by rw [e102]; exact Ok.sv o90 (S_X8.f1 S0) b100 (Bd.lit (-1) (-1) (by decide)) 43 7 (by decide) (by decide +kernel)
            have k104 : Kp G v v101 := by rw [e102]; exact Kp.sv k91 (S_X8.f1 S0) b100 43 7 (-1) (-1) (by decide) (by decide +kernel)
            have f105 : Fr G [116, 1084] v v101 := Fr.st f92 e102 (S_X8.f1 S0) rfl
            have e106 : x40 = v101 (rf G h0 1) 1 := by rw [e102, stv_k (Bd.nix b100 1 (by decide))]; exact e93
            have e107 : x86 = v101 (rf G h0 1) 35 := by rw [e102, stv_k (Bd.nix b100 35 (by decide))]; exact e94
            exact J.sub [0, 1, 2, 3, 4, 5] rfl (J99 v101 w2 (o103) (k104) f105 (Bd.lit 0 0 (by decide)) (Bd.lit 34 34 (by decide)) b60)
          · have b108 : Bd x73 1 1 := (Bd.ne_lo c75 b74 (Bd.lit 0 0 (by decide))).w _ _ (by decide)
            refine J_aload_n E dX8_passOn_45 2 rfl ?_
            refine J_iload_n E dX8_passOn_46 3 rfl ?_
            refine J_iconst E 2 dX8_passOn_47 (by decide) ?_
            refine J_iadd E dX8_passOn_48 (fun x109 e110 => ?_)
            have b111 : Bd x109 36 36 := (Bd.add e110 (Bd.lit 34 34 (by decide)) (Bd.lit 2 2 (by decide)) (by decide)).w _ _ (by decide)
            refine J_iload E dX8_passOn_49 5 rfl ?_
            refine J_iadd E dX8_passOn_51 (fun x112 e113 => ?_)
            have b114 : Bd x112 36 42 := (Bd.add e113 b111 b60 (by decide)).w _ _ (by decide)
            refine J_dup2 E dX8_passOn_52 rfl rfl ?_
            refine J_iald1 E (S_X8.f1 S0) (Bd.in b114 (by decide)) dX8_passOn_53 (fun x115 e116 => ?_)
            refine J_aload_n E dX8_passOn_54 2 rfl ?_
            refine J_iload_n E dX8_passOn_55 3 rfl ?_
            refine J_iconst E 2 dX8_passOn_56 (by decide) ?_
            refine J_iadd E dX8_passOn_57 (fun x117 e118 => ?_)
            have b119 : Bd x117 36 36 := (Bd.add e118 (Bd.lit 34 34 (by decide)) (Bd.lit 2 2 (by decide)) (by decide)).w _ _ (by decide)
            refine J_iload E dX8_passOn_58 5 rfl ?_
            refine J_iadd E dX8_passOn_60 (fun x120 e121 => ?_)
            have b122 : Bd x120 36 42 := (Bd.add e121 b119 b60 (by decide)).w _ _ (by decide)
            refine J_iald1 E (S_X8.f1 S0) (Bd.in b122 (by decide)) dX8_passOn_61 (fun x123 e124 => ?_)
            refine J_bipush E 99 dX8_passOn_62 (by decide) ?_
            refine J_icmp_ge E 71 dX8_passOn_64 (by decide) (fun c125 => ?_) (fun c125 => ?_)
            · have b126 : Bd x123 99 I1 := Bd.le_r c125 (Bd.lit 99 99 (by decide)) (Bd.any x123) 99 (by decide)
              refine J_iconst E 0 dX8_passOn_71 (by decide) ?_
              exact J.sub [0, 1, 2, 3, 4, 5] rfl (J72 (Bd.lit 0 0 (by decide)) (Bd.lit 34 34 (by decide)) b60 0 ((Bd.lit 0 0 (by decide)).w 0 1 (by decide)) x115 x112 b114)
            · have b127 : Bd x123 I0 98 := Bd.lt_l (nle c125) (Bd.any x123) (Bd.lit 99 99 (by decide)) 98 (by decide)
              refine J_iconst E 1 dX8_passOn_67 (by decide) ?_
              refine J_goto E 72 dX8_passOn_68 (by decide) ?_
              exact J.sub [0, 1, 2, 3, 4, 5] rfl (J72 (Bd.lit 0 0 (by decide)) (Bd.lit 34 34 (by decide)) b60 1 ((Bd.lit 1 1 (by decide)).w 0 1 (by decide)) x115 x112 b114)
  refine J_aload_n E dX8_passOn_0 2 rfl ?_
  refine J_iload_n E dX8_passOn_1 3 rfl ?_
  refine J_iconst E 1 dX8_passOn_2 (by decide) ?_
  refine J_iadd E dX8_passOn_3 (fun x128 e129 => ?_)
  have b130 : Bd x128 35 35 := (Bd.add e129 (Bd.lit 34 34 (by decide)) (Bd.lit 1 1 (by decide)) (by decide)).w _ _ (by decide)
  refine J_iald1 E (S_X8.f1 S0) (Bd.in b130 (by decide)) dX8_passOn_4 (fun x131 e132 => ?_)
  have e133 : x131 = v (rf G h0 1) 35 := by rw [e132, Bd.ix b130 35 rfl]
  refine J_istore E [(4, .int x131), (0, .ref h0), (1, .int 0), (2, .ref (rf G h0 1)), (3, .int 34)] dX8_passOn_5 (by decide) rfl ?_
  refine J_iconst E 0 dX8_passOn_7 (by decide) ?_
  refine J_istore E [(5, .int 0), (4, .int x131), (0, .ref h0), (1, .int 0), (2, .ref (rf G h0 1)), (3, .int 34)] dX8_passOn_8 (by decide) rfl ?_
  exact J.sub [2, 3, 4, 5, 1, 0] rfl (J10 8 v w (hOk) (Kp.rf) Fr.rf (Bd.lit 0 0 (by decide)) (Bd.lit 34 34 (by decide)) x131 0 ((Bd.lit 0 0 (by decide)).w 0 7 (by decide)) (Mu.start _ (Bd.lit 0 0 (by decide)) (by decide)))

abbrev rm_X8_passOn_0_T_0 : Room := { frames := 3, cells := 0, slots := 0, locals := 72 }
set_option maxHeartbeats 4000000 in
set_option maxRecDepth 100000 in
theorem ct_X8_passOn_0_T_0 (l : Launch) (D : va_G) (dA : Nat → ClassId) (G : Gm) (v : Mv) (w : Mw) (hOk : Ok G v w) (h0 : Nat) (S0 : S_X8 G h0) : CtV l yX8_passOn cX8_passOn 6 none rm_X8_passOn_0_T_0 D dA G [.ref h0, .int 0, .ref (rf G h0 3), .int 0] v w (fun v1 w1 => Ok G v1 w1 ∧ Kp G v v1 ∧ Fr G [116, 1084] v v1) := by
  refine CtV.of RX8 [(0, .ref h0), (1, .int 0), (2, .ref (rf G h0 3)), (3, .int 0)] (Nat.le_of_ble_eq_true rfl) rfl (by decide) rfl ?_
  intro p e s m args below meth c E hr
  have J10 : ∀ n : Nat, ∀ (v1 : Mv) (w2 : Mw), Ok G v1 w2 → Kp G v v1 → Fr G [116, 1084] v v1 → Bd 0 0 0 → Bd 0 0 0 → ∀ x8 : Int32, ∀ x9 : Int32, Bd x9 0 7 → Mu x9 7 n → J p l e rm_X8_passOn_0_T_0 s m args below meth c 0 0 (MQ below (QcV D dA G (fun v1 w1 => Ok G v1 w1 ∧ Kp G v v1 ∧ Fr G [116, 1084] v v1)) args s 0 0 (dm G)) D dA G (dm G) s.heap 6 v1 w2 [(0, .ref h0), (1, .int 0), (2, .ref (rf G h0 3)), (3, .int 0), (4, .int x8), (5, .int x9)] 10 [] := by
    intro n
    induction n with
    | zero => intro v1 w2 o3 k4 f5 b6 b7 x8 x9 b10 hm; exact hm.zero b10 (by decide)
    | succ n ih10 =>
      intro v1 w2 o3 k4 f5 b6 b7 x8 x9 b10 hmu10
      have J99 : ∀ (v11 : Mv) (w12 : Mw), Ok G v11 w12 → Kp G v v11 → Fr G [116, 1084] v v11 → Bd 0 0 0 → Bd 0 0 0 → Bd x9 0 6 → J p l e rm_X8_passOn_0_T_0 s m args below meth c 0 0 (MQ below (QcV D dA G (fun v1 w1 => Ok G v1 w1 ∧ Kp G v v1 ∧ Fr G [116, 1084] v v1)) args s 0 0 (dm G)) D dA G (dm G) s.heap 6 v11 w12 [(0, .ref h0), (1, .int 0), (2, .ref (rf G h0 3)), (3, .int 0), (4, .int x8), (5, .int x9)] 99 [] := by
        intro v11 w12 o13 k14 f15 b16 b17 b18
        refine J_iinc E 5 1 (fun z => [(5, .int z), (0, .ref h0), (1, .int 0), (2, .ref (rf G h0 3)), (3, .int 0), (4, .int x8)]) dX8_passOn_99 rfl (by decide) (by decide) (fun _ => rfl) (fun x19 e20 => ?_)
        have b21 : Bd x19 1 7 := (Bd.add e20 b18 (Bd.lit 1 1 (by decide)) (by decide)).w _ _ (by decide)
        refine J_goto E 10 dX8_passOn_102 (by decide) ?_
        exact J.sub [1, 2, 3, 4, 5, 0] rfl (ih10 v11 w12 (o13) (k14) f15 (Bd.lit 0 0 (by decide)) (Bd.lit 0 0 (by decide)) x8 x19 (b21.w 0 7 (by decide)) (Mu.step hmu10 e20 b18 (Bd.lit 1 1 (by decide)) (by decide)))
      have J72 : Bd 0 0 0 → Bd 0 0 0 → Bd x9 0 6 → ∀ x25 : Int32, Bd x25 0 1 → ∀ x27 : Int32, ∀ x28 : Int32, Bd x28 2 8 → J p l e rm_X8_passOn_0_T_0 s m args below meth c 0 0 (MQ below (QcV D dA G (fun v1 w1 => Ok G v1 w1 ∧ Kp G v v1 ∧ Fr G [116, 1084] v v1)) args s 0 0 (dm G)) D dA G (dm G) s.heap 6 v1 w2 [(0, .ref h0), (1, .int 0), (2, .ref (rf G h0 3)), (3, .int 0), (4, .int x8), (5, .int x9)] 72 [.int x25, .int x27, .int x28, .ref (rf G h0 3)] := by
        intro b22 b23 b24 x25 b26 x27 x28 b29
        refine J_iadd E dX8_passOn_72 (fun x30 e31 => ?_)
        refine J_iast1 E (S_X8.f3 S0) (Bd.in b29 (by decide)) dX8_passOn_73 (fun v32 e33 => ?_)
        have o34 : Ok G v32 w2 := by rw [e33]; exact Ok.sv o3 (S_X8.f3 S0) b29 (Bd.any x30) 2 7 (by decide) (by decide +kernel)
        have k35 : Kp G v v32 := by rw [e33]; exact Kp.sv k4 (S_X8.f3 S0) b29 2 7 I0 I1 (by decide) (by decide +kernel)
        have f36 : Fr G [116, 1084] v v32 := Fr.st f5 e33 (S_X8.f3 S0) rfl
        refine J_goto E 99 dX8_passOn_74 (by decide) ?_
        exact J.sub [0, 1, 2, 3, 4, 5] rfl (J99 v32 w2 (o34) (k35) f36 (Bd.lit 0 0 (by decide)) (Bd.lit 0 0 (by decide)) b24)
      refine J_iload E dX8_passOn_10 5 rfl ?_
      refine J_aload_n E dX8_passOn_12 0 rfl ?_
      refine J_getR E in_X8 rfl (S_X8.h S0) 1 (by decide) wd936 rfl dX8_passOn_13 ?_
      refine J_iload_n E dX8_passOn_16 1 rfl ?_
      refine J_iconst E 1 dX8_passOn_17 (by decide) ?_
      refine J_iadd E dX8_passOn_18 (fun x37 e38 => ?_)
      have b39 : Bd x37 1 1 := (Bd.add e38 (Bd.lit 0 0 (by decide)) (Bd.lit 1 1 (by decide)) (by decide)).w _ _ (by decide)
      refine J_iald1 E (S_X8.f1 S0) (Bd.in b39 (by decide)) dX8_passOn_19 (fun x40 e41 => ?_)
      have b42 : Bd x40 0 7 := Bd.e (Ok.ld o3 (S_X8.f1 S0) b39 1 1 0 7 (by decide) (by decide +kernel)) e41
      have e43 : x40 = v1 (rf G h0 1) 1 := by rw [e41, Bd.ix b39 1 rfl]
      refine J_icmp_ge E 105 dX8_passOn_20 (by decide) (fun c44 => ?_) (fun c44 => ?_)
      · refine J_aload_n E dX8_passOn_105 2 rfl ?_
        refine J_iload_n E dX8_passOn_106 3 rfl ?_
        refine J_iconst E 0 dX8_passOn_107 (by decide) ?_
        refine J_iadd E dX8_passOn_108 (fun x45 e46 => ?_)
        have b47 : Bd x45 0 0 := (Bd.add e46 (Bd.lit 0 0 (by decide)) (Bd.lit 0 0 (by decide)) (by decide)).w _ _ (by decide)
        refine J_dup2 E dX8_passOn_109 rfl rfl ?_
        refine J_iald1 E (S_X8.f3 S0) (Bd.in b47 (by decide)) dX8_passOn_110 (fun x48 e49 => ?_)
        have e50 : x48 = v1 (rf G h0 3) 0 := by rw [e49, Bd.ix b47 0 rfl]
        refine J_iconst E 1 dX8_passOn_111 (by decide) ?_
        refine J_iadd E dX8_passOn_112 (fun x51 e52 => ?_)
        refine J_iast1 E (S_X8.f3 S0) (Bd.in b47 (by decide)) dX8_passOn_113 (fun v53 e54 => ?_)
        have o55 : Ok G v53 w2 := by rw [e54]; exact Ok.sv o3 (S_X8.f3 S0) b47 (Bd.any x51) 0 1 (by decide) (by decide +kernel)
        have k56 : Kp G v v53 := by rw [e54]; exact Kp.sv k4 (S_X8.f3 S0) b47 0 1 I0 I1 (by decide) (by decide +kernel)
        have f57 : Fr G [116, 1084] v v53 := Fr.st f5 e54 (S_X8.f3 S0) rfl
        have e58 : x40 = v53 (rf G h0 1) 1 := by rw [e54, stv_a (tg_ne ((S_X8.f1 S0)) ((S_X8.f3 S0)) rfl)]; exact e43
        have e59 : (x51 : Int32) = v53 (rf G h0 3) 0 := by rw [e54, Bd.ix b47 0 rfl, stv_s]
        exact J_vret E hr dX8_passOn_114 ⟨o55, k56, f57⟩
      · have b60 : Bd x9 0 6 := Bd.lt_l (nle c44) b10 b42 6 (by decide)
        have b61 : Bd x40 1 7 := Bd.lt_r (nle c44) b10 b42 1 (by decide)
        refine J_iload E dX8_passOn_23 4 rfl ?_
        refine J_iload E dX8_passOn_25 5 rfl ?_
        refine J_callSI E cal_X8_has wd1075 [.int x8, .int x9] [] (ct_X8_has l D dA G v1 w2 (o3) x8 x9 (b60.w 0 9 (by decide))) rfl rfl (Nat.le_of_ble_eq_true rfl) ⟨rfl, rfl⟩ ⟨Nat.le_of_ble_eq_true rfl, Nat.le_of_ble_eq_true rfl⟩ dX8_passOn_27 (fun x65 v62 w63 p64 => ?_)
        rw [p64.1, p64.2.1]
        have b66 : Bd x65 0 1 := p64.2.2.1
        refine J_if_ne E 99 dX8_passOn_30 (by decide) (fun c67 => ?_) (fun c67 => ?_)
        · have b68 : Bd x65 1 1 := (Bd.ne_lo c67 b66 (Bd.lit 0 0 (by decide))).w _ _ (by decide)
          exact J.sub [0, 1, 2, 3, 4, 5] rfl (J99 v1 w2 (o3) (k4) f5 (Bd.lit 0 0 (by decide)) (Bd.lit 0 0 (by decide)) b60)
        · have b69 : Bd x65 0 0 := Bd.eq_l c67 b66 (Bd.lit 0 0 (by decide)) 0 0 (by decide)
          refine J_aload_n E dX8_passOn_33 0 rfl ?_
          refine J_iload_n E dX8_passOn_34 1 rfl ?_
          refine J_aload_n E dX8_passOn_35 2 rfl ?_
          refine J_iload_n E dX8_passOn_36 3 rfl ?_
          refine J_iload E dX8_passOn_37 5 rfl ?_
          refine J_callVI E cal_X8_isHeld wd1094 rfl (S_X8.h S0) [.int 0, .ref (rf G h0 3), .int 0, .int x9] [] (ct_X8_isHeld_0_T_0 l D dA G v1 w2 (o3) h0 S0 x9 b60) rfl rfl (Nat.le_of_ble_eq_true rfl) ⟨rfl, rfl⟩ ⟨Nat.le_of_ble_eq_true rfl, Nat.le_of_ble_eq_true rfl⟩ dX8_passOn_39 (fun x73 v70 w71 p72 => ?_)
          rw [p72.1, p72.2.1]
          have b74 : Bd x73 0 1 := p72.2.2.1
          refine J_if_eq E 77 dX8_passOn_42 (by decide) (fun c75 => ?_) (fun c75 => ?_)
          · have b76 : Bd x73 0 0 := Bd.eq_l c75 b74 (Bd.lit 0 0 (by decide)) 0 0 (by decide)
            refine J_aload_n E dX8_passOn_77 2 rfl ?_
            refine J_iload_n E dX8_passOn_78 3 rfl ?_
            refine J_iconst E 1 dX8_passOn_79 (by decide) ?_
            refine J_iadd E dX8_passOn_80 (fun x77 e78 => ?_)
            have b79 : Bd x77 1 1 := (Bd.add e78 (Bd.lit 0 0 (by decide)) (Bd.lit 1 1 (by decide)) (by decide)).w _ _ (by decide)
            refine J_dup2 E dX8_passOn_81 rfl rfl ?_
            refine J_iald1 E (S_X8.f3 S0) (Bd.in b79 (by decide)) dX8_passOn_82 (fun x80 e81 => ?_)
            have e82 : x80 = v1 (rf G h0 3) 1 := by rw [e81, Bd.ix b79 1 rfl]
            refine J_iconst E 1 dX8_passOn_83 (by decide) ?_
            refine J_iload E dX8_passOn_84 5 rfl ?_
            refine J_ishl E dX8_passOn_86 (fun x83 e84 => ?_)
            have b85 : Bd x83 1 64 := Bd.shl1 e84 b60 6 (by decide)
            refine J_ior E dX8_passOn_87 (fun x86 e87 => ?_)
            refine J_iast1 E (S_X8.f3 S0) (Bd.in b79 (by decide)) dX8_passOn_88 (fun v88 e89 => ?_)
            have o90 : Ok G v88 w2 := by rw [e89]; exact Ok.sv o3 (S_X8.f3 S0) b79 (Bd.any x86) 1 1 (by decide) (by decide +kernel)
            have k91 : Kp G v v88 := by rw [e89]; exact Kp.sv k4 (S_X8.f3 S0) b79 1 1 I0 I1 (by decide) (by decide +kernel)
            have f92 : Fr G [116, 1084] v v88 := Fr.st f5 e89 (S_X8.f3 S0) rfl
            have e93 : x40 = v88 (rf G h0 1) 1 := by rw [e89, stv_a (tg_ne ((S_X8.f1 S0)) ((S_X8.f3 S0)) rfl)]; exact e43
            have e94 : (x86 : Int32) = v88 (rf G h0 3) 1 := by rw [e89, Bd.ix b79 1 rfl, stv_s]
            refine J_aload_n E dX8_passOn_89 2 rfl ?_
            refine J_iload_n E dX8_passOn_90 3 rfl ?_
            refine J_bipush E 9 dX8_passOn_91 (by decide) ?_
            refine J_iadd E dX8_passOn_93 (fun x95 e96 => ?_)
            have b97 : Bd x95 9 9 := (Bd.add e96 (Bd.lit 0 0 (by decide)) (Bd.lit 9 9 (by decide)) (by decide)).w _ _ (by decide)
            refine J_iload E dX8_passOn_94 5 rfl ?_
            refine J_iadd E dX8_passOn_96 (fun x98 e99 => ?_)
            have b100 : Bd x98 9 15 := (Bd.add e99 b97 b60 (by decide)).w _ _ (by decide)
            refine J_iconst E (-1) dX8_passOn_97 (by decide) ?_
            refine J_iast1 E (S_X8.f3 S0) (Bd.in b100 (by decide)) dX8_passOn_98 (fun v101 e102 => ?_)
            have o103 : Ok G v101 w2 := by rw [e102]; exact Ok.sv o90 (S_X8.f3 S0) b100 (Bd.lit (-1) (-1) (by decide)) 9 7 (by decide) (by decide +kernel)
            have k104 : Kp G v v101 := by rw [e102]; exact Kp.sv k91 (S_X8.f3 S0) b100 9 7 (-1) (-1) (by decide) (by decide +kernel)
            have f105 : Fr G [116, 1084] v v101 := Fr.st f92 e102 (S_X8.f3 S0) rfl
            have e106 : x40 = v101 (rf G h0 1) 1 := by rw [e102, stv_a (tg_ne ((S_X8.f1 S0)) ((S_X8.f3 S0)) rfl)]; exact e93
            have e107 : x86 = v101 (rf G h0 3) 1 := by rw [e102, stv_k (Bd.nix b100 1 (by decide))]; exact e94
            exact J.sub [0, 1, 2, 3, 4, 5] rfl (J99 v101 w2 (o103) (k104) f105 (Bd.lit 0 0 (by decide)) (Bd.lit 0 0 (by decide)) b60)
          · have b108 : Bd x73 1 1 := (Bd.ne_lo c75 b74 (Bd.lit 0 0 (by decide))).w _ _ (by decide)
            refine J_aload_n E dX8_passOn_45 2 rfl ?_
            refine J_iload_n E dX8_passOn_46 3 rfl ?_
            refine J_iconst E 2 dX8_passOn_47 (by decide) ?_
            refine J_iadd E dX8_passOn_48 (fun x109 e110 => ?_)
            have b111 : Bd x109 2 2 := (Bd.add e110 (Bd.lit 0 0 (by decide)) (Bd.lit 2 2 (by decide)) (by decide)).w _ _ (by decide)
            refine J_iload E dX8_passOn_49 5 rfl ?_
            refine J_iadd E dX8_passOn_51 (fun x112 e113 => ?_)
            have b114 : Bd x112 2 8 := (Bd.add e113 b111 b60 (by decide)).w _ _ (by decide)
            refine J_dup2 E dX8_passOn_52 rfl rfl ?_
            refine J_iald1 E (S_X8.f3 S0) (Bd.in b114 (by decide)) dX8_passOn_53 (fun x115 e116 => ?_)
            refine J_aload_n E dX8_passOn_54 2 rfl ?_
            refine J_iload_n E dX8_passOn_55 3 rfl ?_
            refine J_iconst E 2 dX8_passOn_56 (by decide) ?_
            refine J_iadd E dX8_passOn_57 (fun x117 e118 => ?_)
            have b119 : Bd x117 2 2 := (Bd.add e118 (Bd.lit 0 0 (by decide)) (Bd.lit 2 2 (by decide)) (by decide)).w _ _ (by decide)
            refine J_iload E dX8_passOn_58 5 rfl ?_
            refine J_iadd E dX8_passOn_60 (fun x120 e121 => ?_)
            have b122 : Bd x120 2 8 := (Bd.add e121 b119 b60 (by decide)).w _ _ (by decide)
            refine J_iald1 E (S_X8.f3 S0) (Bd.in b122 (by decide)) dX8_passOn_61 (fun x123 e124 => ?_)
            refine J_bipush E 99 dX8_passOn_62 (by decide) ?_
            refine J_icmp_ge E 71 dX8_passOn_64 (by decide) (fun c125 => ?_) (fun c125 => ?_)
            · have b126 : Bd x123 99 I1 := Bd.le_r c125 (Bd.lit 99 99 (by decide)) (Bd.any x123) 99 (by decide)
              refine J_iconst E 0 dX8_passOn_71 (by decide) ?_
              exact J.sub [0, 1, 2, 3, 4, 5] rfl (J72 (Bd.lit 0 0 (by decide)) (Bd.lit 0 0 (by decide)) b60 0 ((Bd.lit 0 0 (by decide)).w 0 1 (by decide)) x115 x112 b114)
            · have b127 : Bd x123 I0 98 := Bd.lt_l (nle c125) (Bd.any x123) (Bd.lit 99 99 (by decide)) 98 (by decide)
              refine J_iconst E 1 dX8_passOn_67 (by decide) ?_
              refine J_goto E 72 dX8_passOn_68 (by decide) ?_
              exact J.sub [0, 1, 2, 3, 4, 5] rfl (J72 (Bd.lit 0 0 (by decide)) (Bd.lit 0 0 (by decide)) b60 1 ((Bd.lit 1 1 (by decide)).w 0 1 (by decide)) x115 x112 b114)
  refine J_aload_n E dX8_passOn_0 2 rfl ?_
  refine J_iload_n E dX8_passOn_1 3 rfl ?_
  refine J_iconst E 1 dX8_passOn_2 (by decide) ?_
  refine J_iadd E dX8_passOn_3 (fun x128 e129 => ?_)
  have b130 : Bd x128 1 1 := (Bd.add e129 (Bd.lit 0 0 (by decide)) (Bd.lit 1 1 (by decide)) (by decide)).w _ _ (by decide)
  refine J_iald1 E (S_X8.f3 S0) (Bd.in b130 (by decide)) dX8_passOn_4 (fun x131 e132 => ?_)
  have e133 : x131 = v (rf G h0 3) 1 := by rw [e132, Bd.ix b130 1 rfl]
  refine J_istore E [(4, .int x131), (0, .ref h0), (1, .int 0), (2, .ref (rf G h0 3)), (3, .int 0)] dX8_passOn_5 (by decide) rfl ?_
  refine J_iconst E 0 dX8_passOn_7 (by decide) ?_
  refine J_istore E [(5, .int 0), (4, .int x131), (0, .ref h0), (1, .int 0), (2, .ref (rf G h0 3)), (3, .int 0)] dX8_passOn_8 (by decide) rfl ?_
  exact J.sub [2, 3, 4, 5, 1, 0] rfl (J10 8 v w (hOk) (Kp.rf) Fr.rf (Bd.lit 0 0 (by decide)) (Bd.lit 0 0 (by decide)) x131 0 ((Bd.lit 0 0 (by decide)).w 0 7 (by decide)) (Mu.start _ (Bd.lit 0 0 (by decide)) (by decide)))

abbrev rm_X8_passOn_738_A_772 : Room := { frames := 3, cells := 0, slots := 0, locals := 72 }
set_option maxHeartbeats 4000000 in
set_option maxRecDepth 100000 in
theorem ct_X8_passOn_738_A_772 (l : Launch) (D : va_G) (dA : Nat → ClassId) (G : Gm) (v : Mv) (w : Mw) (hOk : Ok G v w) (h0 : Nat) (S0 : S_X8 G h0) : CtV l yX8_passOn cX8_passOn 6 none rm_X8_passOn_738_A_772 D dA G [.ref h0, .int 738, .ref (rf G h0 1), .int 772] v w (fun v1 w1 => Ok G v1 w1 ∧ Kp G v v1 ∧ Fr G [116, 1084] v v1) := by
  refine CtV.of RX8 [(0, .ref h0), (1, .int 738), (2, .ref (rf G h0 1)), (3, .int 772)] (Nat.le_of_ble_eq_true rfl) rfl (by decide) rfl ?_
  intro p e s m args below meth c E hr
  have J10 : ∀ n : Nat, ∀ (v1 : Mv) (w2 : Mw), Ok G v1 w2 → Kp G v v1 → Fr G [116, 1084] v v1 → Bd 738 738 738 → Bd 772 772 772 → ∀ x8 : Int32, ∀ x9 : Int32, Bd x9 0 7 → Mu x9 7 n → J p l e rm_X8_passOn_738_A_772 s m args below meth c 0 0 (MQ below (QcV D dA G (fun v1 w1 => Ok G v1 w1 ∧ Kp G v v1 ∧ Fr G [116, 1084] v v1)) args s 0 0 (dm G)) D dA G (dm G) s.heap 6 v1 w2 [(0, .ref h0), (1, .int 738), (2, .ref (rf G h0 1)), (3, .int 772), (4, .int x8), (5, .int x9)] 10 [] := by
    intro n
    induction n with
    | zero => intro v1 w2 o3 k4 f5 b6 b7 x8 x9 b10 hm; exact hm.zero b10 (by decide)
    | succ n ih10 =>
      intro v1 w2 o3 k4 f5 b6 b7 x8 x9 b10 hmu10
      have J99 : ∀ (v11 : Mv) (w12 : Mw), Ok G v11 w12 → Kp G v v11 → Fr G [116, 1084] v v11 → Bd 738 738 738 → Bd 772 772 772 → Bd x9 0 6 → J p l e rm_X8_passOn_738_A_772 s m args below meth c 0 0 (MQ below (QcV D dA G (fun v1 w1 => Ok G v1 w1 ∧ Kp G v v1 ∧ Fr G [116, 1084] v v1)) args s 0 0 (dm G)) D dA G (dm G) s.heap 6 v11 w12 [(0, .ref h0), (1, .int 738), (2, .ref (rf G h0 1)), (3, .int 772), (4, .int x8), (5, .int x9)] 99 [] := by
        intro v11 w12 o13 k14 f15 b16 b17 b18
        refine J_iinc E 5 1 (fun z => [(5, .int z), (0, .ref h0), (1, .int 738), (2, .ref (rf G h0 1)), (3, .int 772), (4, .int x8)]) dX8_passOn_99 rfl (by decide) (by decide) (fun _ => rfl) (fun x19 e20 => ?_)
        have b21 : Bd x19 1 7 := (Bd.add e20 b18 (Bd.lit 1 1 (by decide)) (by decide)).w _ _ (by decide)
        refine J_goto E 10 dX8_passOn_102 (by decide) ?_
        exact J.sub [1, 2, 3, 4, 5, 0] rfl (ih10 v11 w12 (o13) (k14) f15 (Bd.lit 738 738 (by decide)) (Bd.lit 772 772 (by decide)) x8 x19 (b21.w 0 7 (by decide)) (Mu.step hmu10 e20 b18 (Bd.lit 1 1 (by decide)) (by decide)))
      have J72 : Bd 738 738 738 → Bd 772 772 772 → Bd x9 0 6 → ∀ x25 : Int32, Bd x25 0 1 → ∀ x27 : Int32, ∀ x28 : Int32, Bd x28 774 780 → J p l e rm_X8_passOn_738_A_772 s m args below meth c 0 0 (MQ below (QcV D dA G (fun v1 w1 => Ok G v1 w1 ∧ Kp G v v1 ∧ Fr G [116, 1084] v v1)) args s 0 0 (dm G)) D dA G (dm G) s.heap 6 v1 w2 [(0, .ref h0), (1, .int 738), (2, .ref (rf G h0 1)), (3, .int 772), (4, .int x8), (5, .int x9)] 72 [.int x25, .int x27, .int x28, .ref (rf G h0 1)] := by
        intro b22 b23 b24 x25 b26 x27 x28 b29
        refine J_iadd E dX8_passOn_72 (fun x30 e31 => ?_)
        refine J_iast1 E (S_X8.f1 S0) (Bd.in b29 (by decide)) dX8_passOn_73 (fun v32 e33 => ?_)
        have o34 : Ok G v32 w2 := by rw [e33]; exact Ok.sv o3 (S_X8.f1 S0) b29 (Bd.any x30) 774 7 (by decide) (by decide +kernel)
        have k35 : Kp G v v32 := by rw [e33]; exact Kp.sv k4 (S_X8.f1 S0) b29 774 7 I0 I1 (by decide) (by decide +kernel)
        have f36 : Fr G [116, 1084] v v32 := Fr.st f5 e33 (S_X8.f1 S0) rfl
        refine J_goto E 99 dX8_passOn_74 (by decide) ?_
        exact J.sub [0, 1, 2, 3, 4, 5] rfl (J99 v32 w2 (o34) (k35) f36 (Bd.lit 738 738 (by decide)) (Bd.lit 772 772 (by decide)) b24)
      refine J_iload E dX8_passOn_10 5 rfl ?_
      refine J_aload_n E dX8_passOn_12 0 rfl ?_
      refine J_getR E in_X8 rfl (S_X8.h S0) 1 (by decide) wd936 rfl dX8_passOn_13 ?_
      refine J_iload_n E dX8_passOn_16 1 rfl ?_
      refine J_iconst E 1 dX8_passOn_17 (by decide) ?_
      refine J_iadd E dX8_passOn_18 (fun x37 e38 => ?_)
      have b39 : Bd x37 739 739 := (Bd.add e38 (Bd.lit 738 738 (by decide)) (Bd.lit 1 1 (by decide)) (by decide)).w _ _ (by decide)
      refine J_iald1 E (S_X8.f1 S0) (Bd.in b39 (by decide)) dX8_passOn_19 (fun x40 e41 => ?_)
      have b42 : Bd x40 0 7 := Bd.e (Ok.ld o3 (S_X8.f1 S0) b39 739 1 0 7 (by decide) (by decide +kernel)) e41
      have e43 : x40 = v1 (rf G h0 1) 739 := by rw [e41, Bd.ix b39 739 rfl]
      refine J_icmp_ge E 105 dX8_passOn_20 (by decide) (fun c44 => ?_) (fun c44 => ?_)
      · refine J_aload_n E dX8_passOn_105 2 rfl ?_
        refine J_iload_n E dX8_passOn_106 3 rfl ?_
        refine J_iconst E 0 dX8_passOn_107 (by decide) ?_
        refine J_iadd E dX8_passOn_108 (fun x45 e46 => ?_)
        have b47 : Bd x45 772 772 := (Bd.add e46 (Bd.lit 772 772 (by decide)) (Bd.lit 0 0 (by decide)) (by decide)).w _ _ (by decide)
        refine J_dup2 E dX8_passOn_109 rfl rfl ?_
        refine J_iald1 E (S_X8.f1 S0) (Bd.in b47 (by decide)) dX8_passOn_110 (fun x48 e49 => ?_)
        have e50 : x48 = v1 (rf G h0 1) 772 := by rw [e49, Bd.ix b47 772 rfl]
        refine J_iconst E 1 dX8_passOn_111 (by decide) ?_
        refine J_iadd E dX8_passOn_112 (fun x51 e52 => ?_)
        refine J_iast1 E (S_X8.f1 S0) (Bd.in b47 (by decide)) dX8_passOn_113 (fun v53 e54 => ?_)
        have o55 : Ok G v53 w2 := by rw [e54]; exact Ok.sv o3 (S_X8.f1 S0) b47 (Bd.any x51) 772 1 (by decide) (by decide +kernel)
        have k56 : Kp G v v53 := by rw [e54]; exact Kp.sv k4 (S_X8.f1 S0) b47 772 1 I0 I1 (by decide) (by decide +kernel)
        have f57 : Fr G [116, 1084] v v53 := Fr.st f5 e54 (S_X8.f1 S0) rfl
        have e58 : x40 = v53 (rf G h0 1) 739 := by rw [e54, stv_k (Bd.nix b47 739 (by decide))]; exact e43
        have e59 : (x51 : Int32) = v53 (rf G h0 1) 772 := by rw [e54, Bd.ix b47 772 rfl, stv_s]
        exact J_vret E hr dX8_passOn_114 ⟨o55, k56, f57⟩
      · have b60 : Bd x9 0 6 := Bd.lt_l (nle c44) b10 b42 6 (by decide)
        have b61 : Bd x40 1 7 := Bd.lt_r (nle c44) b10 b42 1 (by decide)
        refine J_iload E dX8_passOn_23 4 rfl ?_
        refine J_iload E dX8_passOn_25 5 rfl ?_
        refine J_callSI E cal_X8_has wd1075 [.int x8, .int x9] [] (ct_X8_has l D dA G v1 w2 (o3) x8 x9 (b60.w 0 9 (by decide))) rfl rfl (Nat.le_of_ble_eq_true rfl) ⟨rfl, rfl⟩ ⟨Nat.le_of_ble_eq_true rfl, Nat.le_of_ble_eq_true rfl⟩ dX8_passOn_27 (fun x65 v62 w63 p64 => ?_)
        rw [p64.1, p64.2.1]
        have b66 : Bd x65 0 1 := p64.2.2.1
        refine J_if_ne E 99 dX8_passOn_30 (by decide) (fun c67 => ?_) (fun c67 => ?_)
        · have b68 : Bd x65 1 1 := (Bd.ne_lo c67 b66 (Bd.lit 0 0 (by decide))).w _ _ (by decide)
          exact J.sub [0, 1, 2, 3, 4, 5] rfl (J99 v1 w2 (o3) (k4) f5 (Bd.lit 738 738 (by decide)) (Bd.lit 772 772 (by decide)) b60)
        · have b69 : Bd x65 0 0 := Bd.eq_l c67 b66 (Bd.lit 0 0 (by decide)) 0 0 (by decide)
          refine J_aload_n E dX8_passOn_33 0 rfl ?_
          refine J_iload_n E dX8_passOn_34 1 rfl ?_
          refine J_aload_n E dX8_passOn_35 2 rfl ?_
          refine J_iload_n E dX8_passOn_36 3 rfl ?_
          refine J_iload E dX8_passOn_37 5 rfl ?_
          refine J_callVI E cal_X8_isHeld wd1094 rfl (S_X8.h S0) [.int 738, .ref (rf G h0 1), .int 772, .int x9] [] (ct_X8_isHeld_738_A_772 l D dA G v1 w2 (o3) h0 S0 x9 b60) rfl rfl (Nat.le_of_ble_eq_true rfl) ⟨rfl, rfl⟩ ⟨Nat.le_of_ble_eq_true rfl, Nat.le_of_ble_eq_true rfl⟩ dX8_passOn_39 (fun x73 v70 w71 p72 => ?_)
          rw [p72.1, p72.2.1]
          have b74 : Bd x73 0 1 := p72.2.2.1
          refine J_if_eq E 77 dX8_passOn_42 (by decide) (fun c75 => ?_) (fun c75 => ?_)
          · have b76 : Bd x73 0 0 := Bd.eq_l c75 b74 (Bd.lit 0 0 (by decide)) 0 0 (by decide)
            refine J_aload_n E dX8_passOn_77 2 rfl ?_
            refine J_iload_n E dX8_passOn_78 3 rfl ?_
            refine J_iconst E 1 dX8_passOn_79 (by decide) ?_
            refine J_iadd E dX8_passOn_80 (fun x77 e78 => ?_)
            have b79 : Bd x77 773 773 := (Bd.add e78 (Bd.lit 772 772 (by decide)) (Bd.lit 1 1 (by decide)) (by decide)).w _ _ (by decide)
            refine J_dup2 E dX8_passOn_81 rfl rfl ?_
            refine J_iald1 E (S_X8.f1 S0) (Bd.in b79 (by decide)) dX8_passOn_82 (fun x80 e81 => ?_)
            have e82 : x80 = v1 (rf G h0 1) 773 := by rw [e81, Bd.ix b79 773 rfl]
            refine J_iconst E 1 dX8_passOn_83 (by decide) ?_
            refine J_iload E dX8_passOn_84 5 rfl ?_
            refine J_ishl E dX8_passOn_86 (fun x83 e84 => ?_)
            have b85 : Bd x83 1 64 := Bd.shl1 e84 b60 6 (by decide)
            refine J_ior E dX8_passOn_87 (fun x86 e87 => ?_)
            refine J_iast1 E (S_X8.f1 S0) (Bd.in b79 (by decide)) dX8_passOn_88 (fun v88 e89 => ?_)
            have o90 : Ok G v88 w2 := by rw [e89]; exact Ok.sv o3 (S_X8.f1 S0) b79 (Bd.any x86) 773 1 (by decide) (by decide +kernel)
            have k91 : Kp G v v88 := by rw [e89]; exact Kp.sv k4 (S_X8.f1 S0) b79 773 1 I0 I1 (by decide) (by decide +kernel)
            have f92 : Fr G [116, 1084] v v88 := Fr.st f5 e89 (S_X8.f1 S0) rfl
            have e93 : x40 = v88 (rf G h0 1) 739 := by rw [e89, stv_k (Bd.nix b79 739 (by decide))]; exact e43
            have e94 : (x86 : Int32) = v88 (rf G h0 1) 773 := by rw [e89, Bd.ix b79 773 rfl, stv_s]
            refine J_aload_n E dX8_passOn_89 2 rfl ?_
            refine J_iload_n E dX8_passOn_90 3 rfl ?_
            refine J_bipush E 9 dX8_passOn_91 (by decide) ?_
            refine J_iadd E dX8_passOn_93 (fun x95 e96 => ?_)
            have b97 : Bd x95 781 781 := (Bd.add e96 (Bd.lit 772 772 (by decide)) (Bd.lit 9 9 (by decide)) (by decide)).w _ _ (by decide)
            refine J_iload E dX8_passOn_94 5 rfl ?_
            refine J_iadd E dX8_passOn_96 (fun x98 e99 => ?_)
            have b100 : Bd x98 781 787 := (Bd.add e99 b97 b60 (by decide)).w _ _ (by decide)
            refine J_iconst E (-1) dX8_passOn_97 (by decide) ?_
            refine J_iast1 E (S_X8.f1 S0) (Bd.in b100 (by decide)) dX8_passOn_98 (fun v101 e102 => ?_)
            have o103 : Ok G v101 w2 := by rw [e102]; exact Ok.sv o90 (S_X8.f1 S0) b100 (Bd.lit (-1) (-1) (by decide)) 781 7 (by decide) (by decide +kernel)
            have k104 : Kp G v v101 := by rw [e102]; exact Kp.sv k91 (S_X8.f1 S0) b100 781 7 (-1) (-1) (by decide) (by decide +kernel)
            have f105 : Fr G [116, 1084] v v101 := Fr.st f92 e102 (S_X8.f1 S0) rfl
            have e106 : x40 = v101 (rf G h0 1) 739 := by rw [e102, stv_k (Bd.nix b100 739 (by decide))]; exact e93
            have e107 : x86 = v101 (rf G h0 1) 773 := by rw [e102, stv_k (Bd.nix b100 773 (by decide))]; exact e94
            exact J.sub [0, 1, 2, 3, 4, 5] rfl (J99 v101 w2 (o103) (k104) f105 (Bd.lit 738 738 (by decide)) (Bd.lit 772 772 (by decide)) b60)
          · have b108 : Bd x73 1 1 := (Bd.ne_lo c75 b74 (Bd.lit 0 0 (by decide))).w _ _ (by decide)
            refine J_aload_n E dX8_passOn_45 2 rfl ?_
            refine J_iload_n E dX8_passOn_46 3 rfl ?_
            refine J_iconst E 2 dX8_passOn_47 (by decide) ?_
            refine J_iadd E dX8_passOn_48 (fun x109 e110 => ?_)
            have b111 : Bd x109 774 774 := (Bd.add e110 (Bd.lit 772 772 (by decide)) (Bd.lit 2 2 (by decide)) (by decide)).w _ _ (by decide)
            refine J_iload E dX8_passOn_49 5 rfl ?_
            refine J_iadd E dX8_passOn_51 (fun x112 e113 => ?_)
            have b114 : Bd x112 774 780 := (Bd.add e113 b111 b60 (by decide)).w _ _ (by decide)
            refine J_dup2 E dX8_passOn_52 rfl rfl ?_
            refine J_iald1 E (S_X8.f1 S0) (Bd.in b114 (by decide)) dX8_passOn_53 (fun x115 e116 => ?_)
            refine J_aload_n E dX8_passOn_54 2 rfl ?_
            refine J_iload_n E dX8_passOn_55 3 rfl ?_
            refine J_iconst E 2 dX8_passOn_56 (by decide) ?_
            refine J_iadd E dX8_passOn_57 (fun x117 e118 => ?_)
            have b119 : Bd x117 774 774 := (Bd.add e118 (Bd.lit 772 772 (by decide)) (Bd.lit 2 2 (by decide)) (by decide)).w _ _ (by decide)
            refine J_iload E dX8_passOn_58 5 rfl ?_
            refine J_iadd E dX8_passOn_60 (fun x120 e121 => ?_)
            have b122 : Bd x120 774 780 := (Bd.add e121 b119 b60 (by decide)).w _ _ (by decide)
            refine J_iald1 E (S_X8.f1 S0) (Bd.in b122 (by decide)) dX8_passOn_61 (fun x123 e124 => ?_)
            refine J_bipush E 99 dX8_passOn_62 (by decide) ?_
            refine J_icmp_ge E 71 dX8_passOn_64 (by decide) (fun c125 => ?_) (fun c125 => ?_)
            · have b126 : Bd x123 99 I1 := Bd.le_r c125 (Bd.lit 99 99 (by decide)) (Bd.any x123) 99 (by decide)
              refine J_iconst E 0 dX8_passOn_71 (by decide) ?_
              exact J.sub [0, 1, 2, 3, 4, 5] rfl (J72 (Bd.lit 738 738 (by decide)) (Bd.lit 772 772 (by decide)) b60 0 ((Bd.lit 0 0 (by decide)).w 0 1 (by decide)) x115 x112 b114)
            · have b127 : Bd x123 I0 98 := Bd.lt_l (nle c125) (Bd.any x123) (Bd.lit 99 99 (by decide)) 98 (by decide)
              refine J_iconst E 1 dX8_passOn_67 (by decide) ?_
              refine J_goto E 72 dX8_passOn_68 (by decide) ?_
              exact J.sub [0, 1, 2, 3, 4, 5] rfl (J72 (Bd.lit 738 738 (by decide)) (Bd.lit 772 772 (by decide)) b60 1 ((Bd.lit 1 1 (by decide)).w 0 1 (by decide)) x115 x112 b114)
  refine J_aload_n E dX8_passOn_0 2 rfl ?_
  refine J_iload_n E dX8_passOn_1 3 rfl ?_
  refine J_iconst E 1 dX8_passOn_2 (by decide) ?_
  refine J_iadd E dX8_passOn_3 (fun x128 e129 => ?_)
  have b130 : Bd x128 773 773 := (Bd.add e129 (Bd.lit 772 772 (by decide)) (Bd.lit 1 1 (by decide)) (by decide)).w _ _ (by decide)
  refine J_iald1 E (S_X8.f1 S0) (Bd.in b130 (by decide)) dX8_passOn_4 (fun x131 e132 => ?_)
  have e133 : x131 = v (rf G h0 1) 773 := by rw [e132, Bd.ix b130 773 rfl]
  refine J_istore E [(4, .int x131), (0, .ref h0), (1, .int 738), (2, .ref (rf G h0 1)), (3, .int 772)] dX8_passOn_5 (by decide) rfl ?_
  refine J_iconst E 0 dX8_passOn_7 (by decide) ?_
  refine J_istore E [(5, .int 0), (4, .int x131), (0, .ref h0), (1, .int 738), (2, .ref (rf G h0 1)), (3, .int 772)] dX8_passOn_8 (by decide) rfl ?_
  exact J.sub [2, 3, 4, 5, 1, 0] rfl (J10 8 v w (hOk) (Kp.rf) Fr.rf (Bd.lit 738 738 (by decide)) (Bd.lit 772 772 (by decide)) x131 0 ((Bd.lit 0 0 (by decide)).w 0 7 (by decide)) (Mu.start _ (Bd.lit 0 0 (by decide)) (by decide)))

abbrev rm_X8_hereOf_A_34 : Room := { frames := 0, cells := 0, slots := 0, locals := 0 }
set_option maxHeartbeats 4000000 in
set_option maxRecDepth 100000 in
theorem ct_X8_hereOf_A_34 (l : Launch) (D : va_G) (dA : Nat → ClassId) (G : Gm) (v : Mv) (w : Mw) (hOk : Ok G v w) (h0 : Nat) (S0 : S_X8 G h0) : CtI l yX8_hereOf cX8_hereOf 3 (some .int) rm_X8_hereOf_A_34 D dA G [.ref h0, .ref (rf G h0 1), .int 34] v w (fun r v1 w1 => v1 = v ∧ w1 = w ∧ Bd r 0 127 ∧ True) := by
  refine CtI.of RX8 [(0, .ref h0), (1, .ref (rf G h0 1)), (2, .int 34)] (Nat.le_of_ble_eq_true rfl) rfl (by decide) rfl ?_
  intro p e s m args below meth c E hr
  refine J_iconst E 1 dX8_hereOf_0 (by decide) ?_
  refine J_aload_n E dX8_hereOf_1 0 rfl ?_
  refine J_getR E in_X8 rfl (S_X8.h S0) 1 (by decide) wd936 rfl dX8_hereOf_2 ?_
  refine J_iconst E 1 dX8_hereOf_5 (by decide) ?_
  refine J_iald1 E (S_X8.f1 S0) (Bd.in (Bd.lit 1 1 (by decide)) (by decide)) dX8_hereOf_6 (fun x1 e2 => ?_)
  have b3 : Bd x1 0 7 := Bd.e (Ok.ld hOk (S_X8.f1 S0) (Bd.lit 1 1 (by decide)) 1 1 0 7 (by decide) (by decide +kernel)) e2
  have e4 : x1 = v (rf G h0 1) 1 := by rw [e2, Bd.ix (Bd.lit 1 1 (by decide)) 1 rfl]
  refine J_ishl E dX8_hereOf_7 (fun x5 e6 => ?_)
  have b7 : Bd x5 1 128 := Bd.shl1 e6 b3 7 (by decide)
  refine J_iconst E 1 dX8_hereOf_8 (by decide) ?_
  refine J_isub E dX8_hereOf_9 (fun x8 e9 => ?_)
  have b10 : Bd x8 0 127 := (Bd.sub e9 b7 (Bd.lit 1 1 (by decide)) (by decide)).w _ _ (by decide)
  refine J_aload_n E dX8_hereOf_10 1 rfl ?_
  refine J_iload_n E dX8_hereOf_11 2 rfl ?_
  refine J_iconst E 1 dX8_hereOf_12 (by decide) ?_
  refine J_iadd E dX8_hereOf_13 (fun x11 e12 => ?_)
  have b13 : Bd x11 35 35 := (Bd.add e12 (Bd.lit 34 34 (by decide)) (Bd.lit 1 1 (by decide)) (by decide)).w _ _ (by decide)
  refine J_iald1 E (S_X8.f1 S0) (Bd.in b13 (by decide)) dX8_hereOf_14 (fun x14 e15 => ?_)
  have e16 : x14 = v (rf G h0 1) 35 := by rw [e15, Bd.ix b13 35 rfl]
  refine J_iconst E (-1) dX8_hereOf_15 (by decide) ?_
  refine J_ixor E dX8_hereOf_16 (fun x17 e18 => ?_)
  refine J_iand E dX8_hereOf_17 (fun x19 e20 => ?_)
  have b21 : Bd x19 0 127 := Bd.and_l e20 b10 (by decide)
  exact J_iret E hr dX8_hereOf_18 ⟨rfl, rfl, b21, trivial⟩

abbrev rm_X8_hereOf_T_0 : Room := { frames := 0, cells := 0, slots := 0, locals := 0 }
set_option maxHeartbeats 4000000 in
set_option maxRecDepth 100000 in
theorem ct_X8_hereOf_T_0 (l : Launch) (D : va_G) (dA : Nat → ClassId) (G : Gm) (v : Mv) (w : Mw) (hOk : Ok G v w) (h0 : Nat) (S0 : S_X8 G h0) : CtI l yX8_hereOf cX8_hereOf 3 (some .int) rm_X8_hereOf_T_0 D dA G [.ref h0, .ref (rf G h0 3), .int 0] v w (fun r v1 w1 => v1 = v ∧ w1 = w ∧ Bd r 0 127 ∧ True) := by
  refine CtI.of RX8 [(0, .ref h0), (1, .ref (rf G h0 3)), (2, .int 0)] (Nat.le_of_ble_eq_true rfl) rfl (by decide) rfl ?_
  intro p e s m args below meth c E hr
  refine J_iconst E 1 dX8_hereOf_0 (by decide) ?_
  refine J_aload_n E dX8_hereOf_1 0 rfl ?_
  refine J_getR E in_X8 rfl (S_X8.h S0) 1 (by decide) wd936 rfl dX8_hereOf_2 ?_
  refine J_iconst E 1 dX8_hereOf_5 (by decide) ?_
  refine J_iald1 E (S_X8.f1 S0) (Bd.in (Bd.lit 1 1 (by decide)) (by decide)) dX8_hereOf_6 (fun x1 e2 => ?_)
  have b3 : Bd x1 0 7 := Bd.e (Ok.ld hOk (S_X8.f1 S0) (Bd.lit 1 1 (by decide)) 1 1 0 7 (by decide) (by decide +kernel)) e2
  have e4 : x1 = v (rf G h0 1) 1 := by rw [e2, Bd.ix (Bd.lit 1 1 (by decide)) 1 rfl]
  refine J_ishl E dX8_hereOf_7 (fun x5 e6 => ?_)
  have b7 : Bd x5 1 128 := Bd.shl1 e6 b3 7 (by decide)
  refine J_iconst E 1 dX8_hereOf_8 (by decide) ?_
  refine J_isub E dX8_hereOf_9 (fun x8 e9 => ?_)
  have b10 : Bd x8 0 127 := (Bd.sub e9 b7 (Bd.lit 1 1 (by decide)) (by decide)).w _ _ (by decide)
  refine J_aload_n E dX8_hereOf_10 1 rfl ?_
  refine J_iload_n E dX8_hereOf_11 2 rfl ?_
  refine J_iconst E 1 dX8_hereOf_12 (by decide) ?_
  refine J_iadd E dX8_hereOf_13 (fun x11 e12 => ?_)
  have b13 : Bd x11 1 1 := (Bd.add e12 (Bd.lit 0 0 (by decide)) (Bd.lit 1 1 (by decide)) (by decide)).w _ _ (by decide)
  refine J_iald1 E (S_X8.f3 S0) (Bd.in b13 (by decide)) dX8_hereOf_14 (fun x14 e15 => ?_)
  have e16 : x14 = v (rf G h0 3) 1 := by rw [e15, Bd.ix b13 1 rfl]
  refine J_iconst E (-1) dX8_hereOf_15 (by decide) ?_
  refine J_ixor E dX8_hereOf_16 (fun x17 e18 => ?_)
  refine J_iand E dX8_hereOf_17 (fun x19 e20 => ?_)
  have b21 : Bd x19 0 127 := Bd.and_l e20 b10 (by decide)
  exact J_iret E hr dX8_hereOf_18 ⟨rfl, rfl, b21, trivial⟩

abbrev rm_X8_ownerOf_0_A_34 : Room := { frames := 0, cells := 0, slots := 0, locals := 0 }
set_option maxHeartbeats 4000000 in
set_option maxRecDepth 100000 in
theorem ct_X8_ownerOf_0_A_34 (l : Launch) (D : va_G) (dA : Nat → ClassId) (G : Gm) (v : Mv) (w : Mw) (hOk : Ok G v w) (h0 : Nat) (S0 : S_X8 G h0) (x_3 : Int32) (bx_3 : Bd x_3 0 6) : CtI l yX8_ownerOf cX8_ownerOf 7 (some .int) rm_X8_ownerOf_0_A_34 D dA G [.ref h0, .int 0, .ref (rf G h0 1), .int 34, .int x_3] v w (fun r v1 w1 => v1 = v ∧ w1 = w ∧ Bd r (-1) 6 ∧ True) := by
  refine CtI.of RX8 [(0, .ref h0), (1, .int 0), (2, .ref (rf G h0 1)), (3, .int 34), (4, .int x_3)] (Nat.le_of_ble_eq_true rfl) rfl (by decide) rfl ?_
  intro p e s m args below meth c E hr
  have J6 : ∀ n : Nat, Bd 0 0 0 → Bd 34 34 34 → Bd x_3 0 6 → ∀ x4 : Int32, Bd x4 (-1) 6 → ∀ x6 : Int32, Bd x6 0 7 → Mu x6 7 n → J p l e rm_X8_ownerOf_0_A_34 s m args below meth c 0 0 (MQ below (QcI D dA G (fun r v1 w1 => v1 = v ∧ w1 = w ∧ Bd r (-1) 6 ∧ True)) args s 0 0 (dm G)) D dA G (dm G) s.heap 7 v w [(0, .ref h0), (1, .int 0), (2, .ref (rf G h0 1)), (3, .int 34), (4, .int x_3), (5, .int x4), (6, .int x6)] 6 [] := by
    intro n
    induction n with
    | zero => intro b1 b2 b3 x4 b5 x6 b7 hm; exact hm.zero b7 (by decide)
    | succ n ih6 =>
      intro b1 b2 b3 x4 b5 x6 b7 hmu6
      have J40 : Bd 0 0 0 → Bd 34 34 34 → Bd x_3 0 6 → Bd x6 0 6 → ∀ x12 : Int32, Bd x12 (-1) 6 → J p l e rm_X8_ownerOf_0_A_34 s m args below meth c 0 0 (MQ below (QcI D dA G (fun r v1 w1 => v1 = v ∧ w1 = w ∧ Bd r (-1) 6 ∧ True)) args s 0 0 (dm G)) D dA G (dm G) s.heap 7 v w [(0, .ref h0), (1, .int 0), (2, .ref (rf G h0 1)), (3, .int 34), (4, .int x_3), (6, .int x6)] 40 [.int x12] := by
        intro b8 b9 b10 b11 x12 b13
        refine J_istore E [(5, .int x12), (0, .ref h0), (1, .int 0), (2, .ref (rf G h0 1)), (3, .int 34), (4, .int x_3), (6, .int x6)] dX8_ownerOf_40 (by decide) rfl ?_
        refine J_iinc E 6 1 (fun z => [(6, .int z), (5, .int x12), (0, .ref h0), (1, .int 0), (2, .ref (rf G h0 1)), (3, .int 34), (4, .int x_3)]) dX8_ownerOf_42 rfl (by decide) (by decide) (fun _ => rfl) (fun x14 e15 => ?_)
        have b16 : Bd x14 1 7 := (Bd.add e15 b11 (Bd.lit 1 1 (by decide)) (by decide)).w _ _ (by decide)
        refine J_goto E 6 dX8_ownerOf_45 (by decide) ?_
        exact J.sub [2, 3, 4, 5, 6, 1, 0] rfl (ih6 (Bd.lit 0 0 (by decide)) (Bd.lit 34 34 (by decide)) b10 x12 b13 x14 (b16.w 0 7 (by decide)) (Mu.step hmu6 e15 b11 (Bd.lit 1 1 (by decide)) (by decide)))
      refine J_iload E dX8_ownerOf_6 6 rfl ?_
      refine J_aload_n E dX8_ownerOf_8 0 rfl ?_
      refine J_getR E in_X8 rfl (S_X8.h S0) 1 (by decide) wd936 rfl dX8_ownerOf_9 ?_
      refine J_iload_n E dX8_ownerOf_12 1 rfl ?_
      refine J_iconst E 1 dX8_ownerOf_13 (by decide) ?_
      refine J_iadd E dX8_ownerOf_14 (fun x17 e18 => ?_)
      have b19 : Bd x17 1 1 := (Bd.add e18 (Bd.lit 0 0 (by decide)) (Bd.lit 1 1 (by decide)) (by decide)).w _ _ (by decide)
      refine J_iald1 E (S_X8.f1 S0) (Bd.in b19 (by decide)) dX8_ownerOf_15 (fun x20 e21 => ?_)
      have b22 : Bd x20 0 7 := Bd.e (Ok.ld hOk (S_X8.f1 S0) b19 1 1 0 7 (by decide) (by decide +kernel)) e21
      have e23 : x20 = v (rf G h0 1) 1 := by rw [e21, Bd.ix b19 1 rfl]
      refine J_icmp_ge E 48 dX8_ownerOf_16 (by decide) (fun c24 => ?_) (fun c24 => ?_)
      · refine J_iload E dX8_ownerOf_48 5 rfl ?_
        exact J_iret E hr dX8_ownerOf_50 ⟨rfl, rfl, b5, trivial⟩
      · have b25 : Bd x6 0 6 := Bd.lt_l (nle c24) b7 b22 6 (by decide)
        have b26 : Bd x20 1 7 := Bd.lt_r (nle c24) b7 b22 1 (by decide)
        refine J_aload_n E dX8_ownerOf_19 2 rfl ?_
        refine J_iload_n E dX8_ownerOf_20 3 rfl ?_
        refine J_bipush E 9 dX8_ownerOf_21 (by decide) ?_
        refine J_iadd E dX8_ownerOf_23 (fun x27 e28 => ?_)
        have b29 : Bd x27 43 43 := (Bd.add e28 (Bd.lit 34 34 (by decide)) (Bd.lit 9 9 (by decide)) (by decide)).w _ _ (by decide)
        refine J_iload E dX8_ownerOf_24 6 rfl ?_
        refine J_iadd E dX8_ownerOf_26 (fun x30 e31 => ?_)
        have b32 : Bd x30 43 49 := (Bd.add e31 b29 b25 (by decide)).w _ _ (by decide)
        refine J_iald1 E (S_X8.f1 S0) (Bd.in b32 (by decide)) dX8_ownerOf_27 (fun x33 e34 => ?_)
        have b35 : Bd x33 (-1) 6 := Bd.e (Ok.ld hOk (S_X8.f1 S0) b32 43 7 (-1) 6 (by decide) (by decide +kernel)) e34
        refine J_iload E dX8_ownerOf_28 4 rfl ?_
        refine J_icmp_ne E 38 dX8_ownerOf_30 (by decide) (fun c36 => ?_) (fun c36 => ?_)
        · refine J_iload E dX8_ownerOf_38 5 rfl ?_
          exact J.sub [0, 1, 2, 3, 4, 6] rfl (J40 (Bd.lit 0 0 (by decide)) (Bd.lit 34 34 (by decide)) b3 b25 x4 b5)
        · have b37 : Bd x33 0 6 := Bd.eq_l c36 b35 b3 0 6 (by decide)
          refine J_iload E dX8_ownerOf_33 6 rfl ?_
          refine J_goto E 40 dX8_ownerOf_35 (by decide) ?_
          exact J.sub [0, 1, 2, 3, 4, 6] rfl (J40 (Bd.lit 0 0 (by decide)) (Bd.lit 34 34 (by decide)) b3 b25 x6 (b25.w (-1) 6 (by decide)))
  refine J_iconst E (-1) dX8_ownerOf_0 (by decide) ?_
  refine J_istore E [(5, .int (-1)), (0, .ref h0), (1, .int 0), (2, .ref (rf G h0 1)), (3, .int 34), (4, .int x_3)] dX8_ownerOf_1 (by decide) rfl ?_
  refine J_iconst E 0 dX8_ownerOf_3 (by decide) ?_
  refine J_istore E [(6, .int 0), (5, .int (-1)), (0, .ref h0), (1, .int 0), (2, .ref (rf G h0 1)), (3, .int 34), (4, .int x_3)] dX8_ownerOf_4 (by decide) rfl ?_
  exact J.sub [2, 3, 4, 5, 6, 1, 0] rfl (J6 8 (Bd.lit 0 0 (by decide)) (Bd.lit 34 34 (by decide)) bx_3 (-1) ((Bd.lit (-1) (-1) (by decide)).w (-1) 6 (by decide)) 0 ((Bd.lit 0 0 (by decide)).w 0 7 (by decide)) (Mu.start _ (Bd.lit 0 0 (by decide)) (by decide)))

abbrev rm_X8_ownerOf_0_T_0 : Room := { frames := 0, cells := 0, slots := 0, locals := 0 }
set_option maxHeartbeats 4000000 in
set_option maxRecDepth 100000 in
theorem ct_X8_ownerOf_0_T_0 (l : Launch) (D : va_G) (dA : Nat → ClassId) (G : Gm) (v : Mv) (w : Mw) (hOk : Ok G v w) (h0 : Nat) (S0 : S_X8 G h0) (x_3 : Int32) (bx_3 : Bd x_3 0 6) : CtI l yX8_ownerOf cX8_ownerOf 7 (some .int) rm_X8_ownerOf_0_T_0 D dA G [.ref h0, .int 0, .ref (rf G h0 3), .int 0, .int x_3] v w (fun r v1 w1 => v1 = v ∧ w1 = w ∧ Bd r (-1) 6 ∧ True) := by
  refine CtI.of RX8 [(0, .ref h0), (1, .int 0), (2, .ref (rf G h0 3)), (3, .int 0), (4, .int x_3)] (Nat.le_of_ble_eq_true rfl) rfl (by decide) rfl ?_
  intro p e s m args below meth c E hr
  have J6 : ∀ n : Nat, Bd 0 0 0 → Bd 0 0 0 → Bd x_3 0 6 → ∀ x4 : Int32, Bd x4 (-1) 6 → ∀ x6 : Int32, Bd x6 0 7 → Mu x6 7 n → J p l e rm_X8_ownerOf_0_T_0 s m args below meth c 0 0 (MQ below (QcI D dA G (fun r v1 w1 => v1 = v ∧ w1 = w ∧ Bd r (-1) 6 ∧ True)) args s 0 0 (dm G)) D dA G (dm G) s.heap 7 v w [(0, .ref h0), (1, .int 0), (2, .ref (rf G h0 3)), (3, .int 0), (4, .int x_3), (5, .int x4), (6, .int x6)] 6 [] := by
    intro n
    induction n with
    | zero => intro b1 b2 b3 x4 b5 x6 b7 hm; exact hm.zero b7 (by decide)
    | succ n ih6 =>
      intro b1 b2 b3 x4 b5 x6 b7 hmu6
      have J40 : Bd 0 0 0 → Bd 0 0 0 → Bd x_3 0 6 → Bd x6 0 6 → ∀ x12 : Int32, Bd x12 (-1) 6 → J p l e rm_X8_ownerOf_0_T_0 s m args below meth c 0 0 (MQ below (QcI D dA G (fun r v1 w1 => v1 = v ∧ w1 = w ∧ Bd r (-1) 6 ∧ True)) args s 0 0 (dm G)) D dA G (dm G) s.heap 7 v w [(0, .ref h0), (1, .int 0), (2, .ref (rf G h0 3)), (3, .int 0), (4, .int x_3), (6, .int x6)] 40 [.int x12] := by
        intro b8 b9 b10 b11 x12 b13
        refine J_istore E [(5, .int x12), (0, .ref h0), (1, .int 0), (2, .ref (rf G h0 3)), (3, .int 0), (4, .int x_3), (6, .int x6)] dX8_ownerOf_40 (by decide) rfl ?_
        refine J_iinc E 6 1 (fun z => [(6, .int z), (5, .int x12), (0, .ref h0), (1, .int 0), (2, .ref (rf G h0 3)), (3, .int 0), (4, .int x_3)]) dX8_ownerOf_42 rfl (by decide) (by decide) (fun _ => rfl) (fun x14 e15 => ?_)
        have b16 : Bd x14 1 7 := (Bd.add e15 b11 (Bd.lit 1 1 (by decide)) (by decide)).w _ _ (by decide)
        refine J_goto E 6 dX8_ownerOf_45 (by decide) ?_
        exact J.sub [2, 3, 4, 5, 6, 1, 0] rfl (ih6 (Bd.lit 0 0 (by decide)) (Bd.lit 0 0 (by decide)) b10 x12 b13 x14 (b16.w 0 7 (by decide)) (Mu.step hmu6 e15 b11 (Bd.lit 1 1 (by decide)) (by decide)))
      refine J_iload E dX8_ownerOf_6 6 rfl ?_
      refine J_aload_n E dX8_ownerOf_8 0 rfl ?_
      refine J_getR E in_X8 rfl (S_X8.h S0) 1 (by decide) wd936 rfl dX8_ownerOf_9 ?_
      refine J_iload_n E dX8_ownerOf_12 1 rfl ?_
      refine J_iconst E 1 dX8_ownerOf_13 (by decide) ?_
      refine J_iadd E dX8_ownerOf_14 (fun x17 e18 => ?_)
      have b19 : Bd x17 1 1 := (Bd.add e18 (Bd.lit 0 0 (by decide)) (Bd.lit 1 1 (by decide)) (by decide)).w _ _ (by decide)
      refine J_iald1 E (S_X8.f1 S0) (Bd.in b19 (by decide)) dX8_ownerOf_15 (fun x20 e21 => ?_)
      have b22 : Bd x20 0 7 := Bd.e (Ok.ld hOk (S_X8.f1 S0) b19 1 1 0 7 (by decide) (by decide +kernel)) e21
      have e23 : x20 = v (rf G h0 1) 1 := by rw [e21, Bd.ix b19 1 rfl]
      refine J_icmp_ge E 48 dX8_ownerOf_16 (by decide) (fun c24 => ?_) (fun c24 => ?_)
      · refine J_iload E dX8_ownerOf_48 5 rfl ?_
        exact J_iret E hr dX8_ownerOf_50 ⟨rfl, rfl, b5, trivial⟩
      · have b25 : Bd x6 0 6 := Bd.lt_l (nle c24) b7 b22 6 (by decide)
        have b26 : Bd x20 1 7 := Bd.lt_r (nle c24) b7 b22 1 (by decide)
        refine J_aload_n E dX8_ownerOf_19 2 rfl ?_
        refine J_iload_n E dX8_ownerOf_20 3 rfl ?_
        refine J_bipush E 9 dX8_ownerOf_21 (by decide) ?_
        refine J_iadd E dX8_ownerOf_23 (fun x27 e28 => ?_)
        have b29 : Bd x27 9 9 := (Bd.add e28 (Bd.lit 0 0 (by decide)) (Bd.lit 9 9 (by decide)) (by decide)).w _ _ (by decide)
        refine J_iload E dX8_ownerOf_24 6 rfl ?_
        refine J_iadd E dX8_ownerOf_26 (fun x30 e31 => ?_)
        have b32 : Bd x30 9 15 := (Bd.add e31 b29 b25 (by decide)).w _ _ (by decide)
        refine J_iald1 E (S_X8.f3 S0) (Bd.in b32 (by decide)) dX8_ownerOf_27 (fun x33 e34 => ?_)
        have b35 : Bd x33 (-1) 6 := Bd.e (Ok.ld hOk (S_X8.f3 S0) b32 9 7 (-1) 6 (by decide) (by decide +kernel)) e34
        refine J_iload E dX8_ownerOf_28 4 rfl ?_
        refine J_icmp_ne E 38 dX8_ownerOf_30 (by decide) (fun c36 => ?_) (fun c36 => ?_)
        · refine J_iload E dX8_ownerOf_38 5 rfl ?_
          exact J.sub [0, 1, 2, 3, 4, 6] rfl (J40 (Bd.lit 0 0 (by decide)) (Bd.lit 0 0 (by decide)) b3 b25 x4 b5)
        · have b37 : Bd x33 0 6 := Bd.eq_l c36 b35 b3 0 6 (by decide)
          refine J_iload E dX8_ownerOf_33 6 rfl ?_
          refine J_goto E 40 dX8_ownerOf_35 (by decide) ?_
          exact J.sub [0, 1, 2, 3, 4, 6] rfl (J40 (Bd.lit 0 0 (by decide)) (Bd.lit 0 0 (by decide)) b3 b25 x6 (b25.w (-1) 6 (by decide)))
  refine J_iconst E (-1) dX8_ownerOf_0 (by decide) ?_
  refine J_istore E [(5, .int (-1)), (0, .ref h0), (1, .int 0), (2, .ref (rf G h0 3)), (3, .int 0), (4, .int x_3)] dX8_ownerOf_1 (by decide) rfl ?_
  refine J_iconst E 0 dX8_ownerOf_3 (by decide) ?_
  refine J_istore E [(6, .int 0), (5, .int (-1)), (0, .ref h0), (1, .int 0), (2, .ref (rf G h0 3)), (3, .int 0), (4, .int x_3)] dX8_ownerOf_4 (by decide) rfl ?_
  exact J.sub [2, 3, 4, 5, 6, 1, 0] rfl (J6 8 (Bd.lit 0 0 (by decide)) (Bd.lit 0 0 (by decide)) bx_3 (-1) ((Bd.lit (-1) (-1) (by decide)).w (-1) 6 (by decide)) 0 ((Bd.lit 0 0 (by decide)).w 0 7 (by decide)) (Mu.start _ (Bd.lit 0 0 (by decide)) (by decide)))

abbrev rm_X8_ownerOf_738_A_772 : Room := { frames := 0, cells := 0, slots := 0, locals := 0 }
set_option maxHeartbeats 4000000 in
set_option maxRecDepth 100000 in
theorem ct_X8_ownerOf_738_A_772 (l : Launch) (D : va_G) (dA : Nat → ClassId) (G : Gm) (v : Mv) (w : Mw) (hOk : Ok G v w) (h0 : Nat) (S0 : S_X8 G h0) (x_3 : Int32) (bx_3 : Bd x_3 0 6) : CtI l yX8_ownerOf cX8_ownerOf 7 (some .int) rm_X8_ownerOf_738_A_772 D dA G [.ref h0, .int 738, .ref (rf G h0 1), .int 772, .int x_3] v w (fun r v1 w1 => v1 = v ∧ w1 = w ∧ Bd r (-1) 6 ∧ True) := by
  refine CtI.of RX8 [(0, .ref h0), (1, .int 738), (2, .ref (rf G h0 1)), (3, .int 772), (4, .int x_3)] (Nat.le_of_ble_eq_true rfl) rfl (by decide) rfl ?_
  intro p e s m args below meth c E hr
  have J6 : ∀ n : Nat, Bd 738 738 738 → Bd 772 772 772 → Bd x_3 0 6 → ∀ x4 : Int32, Bd x4 (-1) 6 → ∀ x6 : Int32, Bd x6 0 7 → Mu x6 7 n → J p l e rm_X8_ownerOf_738_A_772 s m args below meth c 0 0 (MQ below (QcI D dA G (fun r v1 w1 => v1 = v ∧ w1 = w ∧ Bd r (-1) 6 ∧ True)) args s 0 0 (dm G)) D dA G (dm G) s.heap 7 v w [(0, .ref h0), (1, .int 738), (2, .ref (rf G h0 1)), (3, .int 772), (4, .int x_3), (5, .int x4), (6, .int x6)] 6 [] := by
    intro n
    induction n with
    | zero => intro b1 b2 b3 x4 b5 x6 b7 hm; exact hm.zero b7 (by decide)
    | succ n ih6 =>
      intro b1 b2 b3 x4 b5 x6 b7 hmu6
      have J40 : Bd 738 738 738 → Bd 772 772 772 → Bd x_3 0 6 → Bd x6 0 6 → ∀ x12 : Int32, Bd x12 (-1) 6 → J p l e rm_X8_ownerOf_738_A_772 s m args below meth c 0 0 (MQ below (QcI D dA G (fun r v1 w1 => v1 = v ∧ w1 = w ∧ Bd r (-1) 6 ∧ True)) args s 0 0 (dm G)) D dA G (dm G) s.heap 7 v w [(0, .ref h0), (1, .int 738), (2, .ref (rf G h0 1)), (3, .int 772), (4, .int x_3), (6, .int x6)] 40 [.int x12] := by
        intro b8 b9 b10 b11 x12 b13
        refine J_istore E [(5, .int x12), (0, .ref h0), (1, .int 738), (2, .ref (rf G h0 1)), (3, .int 772), (4, .int x_3), (6, .int x6)] dX8_ownerOf_40 (by decide) rfl ?_
        refine J_iinc E 6 1 (fun z => [(6, .int z), (5, .int x12), (0, .ref h0), (1, .int 738), (2, .ref (rf G h0 1)), (3, .int 772), (4, .int x_3)]) dX8_ownerOf_42 rfl (by decide) (by decide) (fun _ => rfl) (fun x14 e15 => ?_)
        have b16 : Bd x14 1 7 := (Bd.add e15 b11 (Bd.lit 1 1 (by decide)) (by decide)).w _ _ (by decide)
        refine J_goto E 6 dX8_ownerOf_45 (by decide) ?_
        exact J.sub [2, 3, 4, 5, 6, 1, 0] rfl (ih6 (Bd.lit 738 738 (by decide)) (Bd.lit 772 772 (by decide)) b10 x12 b13 x14 (b16.w 0 7 (by decide)) (Mu.step hmu6 e15 b11 (Bd.lit 1 1 (by decide)) (by decide)))
      refine J_iload E dX8_ownerOf_6 6 rfl ?_
      refine J_aload_n E dX8_ownerOf_8 0 rfl ?_
      refine J_getR E in_X8 rfl (S_X8.h S0) 1 (by decide) wd936 rfl dX8_ownerOf_9 ?_
      refine J_iload_n E dX8_ownerOf_12 1 rfl ?_
      refine J_iconst E 1 dX8_ownerOf_13 (by decide) ?_
      refine J_iadd E dX8_ownerOf_14 (fun x17 e18 => ?_)
      have b19 : Bd x17 739 739 := (Bd.add e18 (Bd.lit 738 738 (by decide)) (Bd.lit 1 1 (by decide)) (by decide)).w _ _ (by decide)
      refine J_iald1 E (S_X8.f1 S0) (Bd.in b19 (by decide)) dX8_ownerOf_15 (fun x20 e21 => ?_)
      have b22 : Bd x20 0 7 := Bd.e (Ok.ld hOk (S_X8.f1 S0) b19 739 1 0 7 (by decide) (by decide +kernel)) e21
      have e23 : x20 = v (rf G h0 1) 739 := by rw [e21, Bd.ix b19 739 rfl]
      refine J_icmp_ge E 48 dX8_ownerOf_16 (by decide) (fun c24 => ?_) (fun c24 => ?_)
      · refine J_iload E dX8_ownerOf_48 5 rfl ?_
        exact J_iret E hr dX8_ownerOf_50 ⟨rfl, rfl, b5, trivial⟩
      · have b25 : Bd x6 0 6 := Bd.lt_l (nle c24) b7 b22 6 (by decide)
        have b26 : Bd x20 1 7 := Bd.lt_r (nle c24) b7 b22 1 (by decide)
        refine J_aload_n E dX8_ownerOf_19 2 rfl ?_
        refine J_iload_n E dX8_ownerOf_20 3 rfl ?_
        refine J_bipush E 9 dX8_ownerOf_21 (by decide) ?_
        refine J_iadd E dX8_ownerOf_23 (fun x27 e28 => ?_)
        have b29 : Bd x27 781 781 := (Bd.add e28 (Bd.lit 772 772 (by decide)) (Bd.lit 9 9 (by decide)) (by decide)).w _ _ (by decide)
        refine J_iload E dX8_ownerOf_24 6 rfl ?_
        refine J_iadd E dX8_ownerOf_26 (fun x30 e31 => ?_)
        have b32 : Bd x30 781 787 := (Bd.add e31 b29 b25 (by decide)).w _ _ (by decide)
        refine J_iald1 E (S_X8.f1 S0) (Bd.in b32 (by decide)) dX8_ownerOf_27 (fun x33 e34 => ?_)
        have b35 : Bd x33 (-1) 6 := Bd.e (Ok.ld hOk (S_X8.f1 S0) b32 781 7 (-1) 6 (by decide) (by decide +kernel)) e34
        refine J_iload E dX8_ownerOf_28 4 rfl ?_
        refine J_icmp_ne E 38 dX8_ownerOf_30 (by decide) (fun c36 => ?_) (fun c36 => ?_)
        · refine J_iload E dX8_ownerOf_38 5 rfl ?_
          exact J.sub [0, 1, 2, 3, 4, 6] rfl (J40 (Bd.lit 738 738 (by decide)) (Bd.lit 772 772 (by decide)) b3 b25 x4 b5)
        · have b37 : Bd x33 0 6 := Bd.eq_l c36 b35 b3 0 6 (by decide)
          refine J_iload E dX8_ownerOf_33 6 rfl ?_
          refine J_goto E 40 dX8_ownerOf_35 (by decide) ?_
          exact J.sub [0, 1, 2, 3, 4, 6] rfl (J40 (Bd.lit 738 738 (by decide)) (Bd.lit 772 772 (by decide)) b3 b25 x6 (b25.w (-1) 6 (by decide)))
  refine J_iconst E (-1) dX8_ownerOf_0 (by decide) ?_
  refine J_istore E [(5, .int (-1)), (0, .ref h0), (1, .int 738), (2, .ref (rf G h0 1)), (3, .int 772), (4, .int x_3)] dX8_ownerOf_1 (by decide) rfl ?_
  refine J_iconst E 0 dX8_ownerOf_3 (by decide) ?_
  refine J_istore E [(6, .int 0), (5, .int (-1)), (0, .ref h0), (1, .int 738), (2, .ref (rf G h0 1)), (3, .int 772), (4, .int x_3)] dX8_ownerOf_4 (by decide) rfl ?_
  exact J.sub [2, 3, 4, 5, 6, 1, 0] rfl (J6 8 (Bd.lit 738 738 (by decide)) (Bd.lit 772 772 (by decide)) bx_3 (-1) ((Bd.lit (-1) (-1) (by decide)).w (-1) 6 (by decide)) 0 ((Bd.lit 0 0 (by decide)).w 0 7 (by decide)) (Mu.start _ (Bd.lit 0 0 (by decide)) (by decide)))

abbrev rm_X8_people : Room := { frames := 1, cells := 0, slots := 0, locals := 22 }
set_option maxHeartbeats 4000000 in
set_option maxRecDepth 100000 in
theorem ct_X8_people (l : Launch) (D : va_G) (dA : Nat → ClassId) (G : Gm) (v : Mv) (w : Mw) (hOk : Ok G v w) (h0 : Nat) (S0 : S_X8 G h0) : CtI l yX8_people cX8_people 2 (some .int) rm_X8_people D dA G [.ref h0] v w (fun r v1 w1 => Ok G v1 w1 ∧ Kp G v v1 ∧ Bd r 0 7 ∧ Fr G [1084] v v1) := by
  refine CtI.of RX8 [(0, .ref h0)] (Nat.le_of_ble_eq_true rfl) rfl (by decide) rfl ?_
  intro p e s m args below meth c E hr
  refine J_aload_n E dX8_people_0 0 rfl ?_
  refine J_getR E in_X8 rfl (S_X8.h S0) 1 (by decide) wd936 rfl dX8_people_1 ?_
  refine J_iconst E 1 dX8_people_4 (by decide) ?_
  refine J_iald1 E (S_X8.f1 S0) (Bd.in (Bd.lit 1 1 (by decide)) (by decide)) dX8_people_5 (fun x1 e2 => ?_)
  have b3 : Bd x1 0 7 := Bd.e (Ok.ld hOk (S_X8.f1 S0) (Bd.lit 1 1 (by decide)) 1 1 0 7 (by decide) (by decide +kernel)) e2
  have e4 : x1 = v (rf G h0 1) 1 := by rw [e2, Bd.ix (Bd.lit 1 1 (by decide)) 1 rfl]
  refine J_istore_n E [(1, .int x1), (0, .ref h0)] dX8_people_6 rfl (by decide) rfl ?_
  refine J_aload_n E dX8_people_7 1 rfl ?_
  refine J_iconst E 0 dX8_people_8 (by decide) ?_
  refine J_callVV E cal_X8_begin wd931 rfl (S_X8.h S0) [.int 0] [] (ct_X8_begin_0 l D dA G v w (hOk) h0 S0) rfl rfl (Nat.le_of_ble_eq_true rfl) ⟨rfl, rfl⟩ ⟨Nat.le_of_ble_eq_true rfl, Nat.le_of_ble_eq_true rfl⟩ dX8_people_9 (fun v5 w6 p7 => ?_)
  have o9 := p7.1
  have k10 : Kp G v v5 := (Kp.rf).tr p7.2.1
  have f11 : Fr G [1084] v v5 := Fr.tr Fr.rf (p7.2.2) (by decide)
  refine J_iload_n E dX8_people_12 0 rfl ?_
  exact J_iret E hr dX8_people_13 ⟨o9, k10, b3, f11⟩

abbrev rm_X8_add_0 : Room := { frames := 0, cells := 0, slots := 0, locals := 0 }
set_option maxHeartbeats 4000000 in
set_option maxRecDepth 100000 in
theorem ct_X8_add_0 (l : Launch) (D : va_G) (dA : Nat → ClassId) (G : Gm) (v : Mv) (w : Mw) (hOk : Ok G v w) (h0 : Nat) (S0 : S_X8 G h0) (x_1 : Int32) (bx_1 : Bd x_1 0 5) (x_2 : Int32) (bx_2 : Bd x_2 1 30) (z_0 : Int32) (ez_0 : z_0 = v (rf G h0 1) 0) (pre0 : Bd z_0 0 6) : CtI l yX8_add cX8_add 5 (some .int) rm_X8_add_0 D dA G [.ref h0, .int 0, .int x_1, .int x_2] v w (fun r v1 w1 => Ok G v1 w1 ∧ Kp G v v1 ∧ Bd r 0 6 ∧ Fr G [1084] v v1) := by
  refine CtI.of RX8 [(0, .ref h0), (1, .int 0), (2, .int x_1), (3, .int x_2)] (Nat.le_of_ble_eq_true rfl) rfl (by decide) rfl ?_
  intro p e s m args below meth c E hr
  refine J_aload_n E dX8_add_0 0 rfl ?_
  refine J_getR E in_X8 rfl (S_X8.h S0) 1 (by decide) wd936 rfl dX8_add_1 ?_
  refine J_iload_n E dX8_add_4 1 rfl ?_
  refine J_iconst E 0 dX8_add_5 (by decide) ?_
  refine J_iadd E dX8_add_6 (fun x1 e2 => ?_)
  have b3 : Bd x1 0 0 := (Bd.add e2 (Bd.lit 0 0 (by decide)) (Bd.lit 0 0 (by decide)) (by decide)).w _ _ (by decide)
  refine J_iald1 E (S_X8.f1 S0) (Bd.in b3 (by decide)) dX8_add_7 (fun x4 e5 => ?_)
  have b6 : Bd x4 0 7 := Bd.e (Ok.ld hOk (S_X8.f1 S0) b3 0 1 0 7 (by decide) (by decide +kernel)) e5
  have e5q : x4 = z_0 := by rw [e5, Bd.ix b3 0 rfl]; exact (ez_0).symm
  rw [e5q]
  refine J_istore E [(4, .int z_0), (0, .ref h0), (1, .int 0), (2, .int x_1), (3, .int x_2)] dX8_add_8 (by decide) rfl ?_
  refine J_aload_n E dX8_add_10 1 rfl ?_
  refine J_getR E in_X8 rfl (S_X8.h S0) 1 (by decide) wd936 rfl dX8_add_11 ?_
  refine J_iload_n E dX8_add_14 2 rfl ?_
  refine J_bipush E 6 dX8_add_15 (by decide) ?_
  refine J_iadd E dX8_add_17 (fun x7 e8 => ?_)
  have b9 : Bd x7 6 6 := (Bd.add e8 (Bd.lit 0 0 (by decide)) (Bd.lit 6 6 (by decide)) (by decide)).w _ _ (by decide)
  refine J_iload E dX8_add_18 0 rfl ?_
  refine J_iadd E dX8_add_20 (fun x10 e11 => ?_)
  have b12 : Bd x10 6 12 := (Bd.add e11 b9 pre0 (by decide)).w _ _ (by decide)
  refine J_iload_n E dX8_add_21 3 rfl ?_
  refine J_iast1 E (S_X8.f1 S0) (Bd.in b12 (by decide)) dX8_add_22 (fun v13 e14 => ?_)
  have o15 : Ok G v13 w := by rw [e14]; exact Ok.sv hOk (S_X8.f1 S0) b12 bx_1 6 7 (by decide) (by decide +kernel)
  have k16 : Kp G v v13 := by rw [e14]; exact Kp.sv Kp.rf (S_X8.f1 S0) b12 6 7 0 5 (by decide) (by decide +kernel)
  have f17 : Fr G [1084] v v13 := Fr.st Fr.rf e14 (S_X8.f1 S0) rfl
  have e18 : z_0 = v13 (rf G h0 1) 0 := by rw [e14, stv_k (Bd.nix b12 0 (by decide))]; exact ez_0
  refine J_aload_n E dX8_add_23 1 rfl ?_
  refine J_getR E in_X8 rfl (S_X8.h S0) 1 (by decide) wd936 rfl dX8_add_24 ?_
  refine J_iload_n E dX8_add_27 2 rfl ?_
  refine J_bipush E 13 dX8_add_28 (by decide) ?_
  refine J_iadd E dX8_add_30 (fun x19 e20 => ?_)
  have b21 : Bd x19 13 13 := (Bd.add e20 (Bd.lit 0 0 (by decide)) (Bd.lit 13 13 (by decide)) (by decide)).w _ _ (by decide)
  refine J_iload E dX8_add_31 0 rfl ?_
  refine J_iadd E dX8_add_33 (fun x22 e23 => ?_)
  have b24 : Bd x22 13 19 := (Bd.add e23 b21 pre0 (by decide)).w _ _ (by decide)
  refine J_iload_n E dX8_add_34 4 rfl ?_
  refine J_iast1 E (S_X8.f1 S0) (Bd.in b24 (by decide)) dX8_add_35 (fun v25 e26 => ?_)
  have o27 : Ok G v25 w := by rw [e26]; exact Ok.sv o15 (S_X8.f1 S0) b24 bx_2 13 7 (by decide) (by decide +kernel)
  have k28 : Kp G v v25 := by rw [e26]; exact Kp.sv k16 (S_X8.f1 S0) b24 13 7 1 30 (by decide) (by decide +kernel)
  have f29 : Fr G [1084] v v25 := Fr.st f17 e26 (S_X8.f1 S0) rfl
  have e30 : z_0 = v25 (rf G h0 1) 0 := by rw [e26, stv_k (Bd.nix b24 0 (by decide))]; exact e18
  refine J_aload_n E dX8_add_36 1 rfl ?_
  refine J_getR E in_X8 rfl (S_X8.h S0) 1 (by decide) wd936 rfl dX8_add_37 ?_
  refine J_iload_n E dX8_add_40 2 rfl ?_
  refine J_iconst E 0 dX8_add_41 (by decide) ?_
  refine J_iadd E dX8_add_42 (fun x31 e32 => ?_)
  have b33 : Bd x31 0 0 := (Bd.add e32 (Bd.lit 0 0 (by decide)) (Bd.lit 0 0 (by decide)) (by decide)).w _ _ (by decide)
  refine J_dup2 E dX8_add_43 rfl rfl ?_
  refine J_iald1 E (S_X8.f1 S0) (Bd.in b33 (by decide)) dX8_add_44 (fun x34 e35 => ?_)
  have b36 : Bd x34 0 7 := Bd.e (Ok.ld o27 (S_X8.f1 S0) b33 0 1 0 7 (by decide) (by decide +kernel)) e35
  have e35q : x34 = z_0 := by rw [e35, Bd.ix b33 0 rfl]; exact (e30).symm
  rw [e35q]
  refine J_iconst E 1 dX8_add_45 (by decide) ?_
  refine J_iadd E dX8_add_46 (fun x37 e38 => ?_)
  have b39 : Bd x37 1 7 := (Bd.add e38 pre0 (Bd.lit 1 1 (by decide)) (by decide)).w _ _ (by decide)
  refine J_iast1 E (S_X8.f1 S0) (Bd.in b33 (by decide)) dX8_add_47 (fun v40 e41 => ?_)
  have o42 : Ok G v40 w := by rw [e41]; exact Ok.sv o27 (S_X8.f1 S0) b33 b39 0 1 (by decide) (by decide +kernel)
  have k43 : Kp G v v40 := by rw [e41]; exact Kp.sv k28 (S_X8.f1 S0) b33 0 1 1 7 (by decide) (by decide +kernel)
  have f44 : Fr G [1084] v v40 := Fr.st f29 e41 (S_X8.f1 S0) rfl
  have e45 : (x37 : Int32) = v40 (rf G h0 1) 0 := by rw [e41, Bd.ix b33 0 rfl, stv_s]
  refine J_aload_n E dX8_add_48 1 rfl ?_
  refine J_getR E in_X8 rfl (S_X8.h S0) 1 (by decide) wd936 rfl dX8_add_49 ?_
  refine J_iload_n E dX8_add_52 2 rfl ?_
  refine J_iconst E 5 dX8_add_53 (by decide) ?_
  refine J_iadd E dX8_add_54 (fun x46 e47 => ?_)
  have b48 : Bd x46 5 5 := (Bd.add e47 (Bd.lit 0 0 (by decide)) (Bd.lit 5 5 (by decide)) (by decide)).w _ _ (by decide)
  refine J_iconst E 0 dX8_add_55 (by decide) ?_
  refine J_iast1 E (S_X8.f1 S0) (Bd.in b48 (by decide)) dX8_add_56 (fun v49 e50 => ?_)
  have o51 : Ok G v49 w := by rw [e50]; exact Ok.sv o42 (S_X8.f1 S0) b48 (Bd.lit 0 0 (by decide)) 5 1 (by decide) (by decide +kernel)
  have k52 : Kp G v v49 := by rw [e50]; exact Kp.sv k43 (S_X8.f1 S0) b48 5 1 0 0 (by decide) (by decide +kernel)
  have f53 : Fr G [1084] v v49 := Fr.st f44 e50 (S_X8.f1 S0) rfl
  have e54 : x37 = v49 (rf G h0 1) 0 := by rw [e50, stv_k (Bd.nix b48 0 (by decide))]; exact e45
  have e55 : (0 : Int32) = v49 (rf G h0 1) 5 := by rw [e50, Bd.ix b48 5 rfl, stv_s]
  refine J_iload E dX8_add_57 0 rfl ?_
  exact J_iret E hr dX8_add_59 ⟨o51, k52, pre0, f53⟩

abbrev rm_X8_add_738 : Room := { frames := 0, cells := 0, slots := 0, locals := 0 }
set_option maxHeartbeats 4000000 in
set_option maxRecDepth 100000 in
theorem ct_X8_add_738 (l : Launch) (D : va_G) (dA : Nat → ClassId) (G : Gm) (v : Mv) (w : Mw) (hOk : Ok G v w) (h0 : Nat) (S0 : S_X8 G h0) (x_1 : Int32) (bx_1 : Bd x_1 0 999) (x_2 : Int32) (bx_2 : Bd x_2 0 999) (z_0 : Int32) (ez_0 : z_0 = v (rf G h0 1) 738) (pre0 : Bd z_0 0 6) : CtI l yX8_add cX8_add 5 (some .int) rm_X8_add_738 D dA G [.ref h0, .int 738, .int x_1, .int x_2] v w (fun r v1 w1 => Ok G v1 w1 ∧ Kp G v v1 ∧ Bd r 0 6 ∧ Fr G [1084] v v1) := by
  refine CtI.of RX8 [(0, .ref h0), (1, .int 738), (2, .int x_1), (3, .int x_2)] (Nat.le_of_ble_eq_true rfl) rfl (by decide) rfl ?_
  intro p e s m args below meth c E hr
  refine J_aload_n E dX8_add_0 0 rfl ?_
  refine J_getR E in_X8 rfl (S_X8.h S0) 1 (by decide) wd936 rfl dX8_add_1 ?_
  refine J_iload_n E dX8_add_4 1 rfl ?_
  refine J_iconst E 0 dX8_add_5 (by decide) ?_
  refine J_iadd E dX8_add_6 (fun x1 e2 => ?_)
  have b3 : Bd x1 738 738 := (Bd.add e2 (Bd.lit 738 738 (by decide)) (Bd.lit 0 0 (by decide)) (by decide)).w _ _ (by decide)
  refine J_iald1 E (S_X8.f1 S0) (Bd.in b3 (by decide)) dX8_add_7 (fun x4 e5 => ?_)
  have b6 : Bd x4 0 7 := Bd.e (Ok.ld hOk (S_X8.f1 S0) b3 738 1 0 7 (by decide) (by decide +kernel)) e5
  have e5q : x4 = z_0 := by rw [e5, Bd.ix b3 738 rfl]; exact (ez_0).symm
  rw [e5q]
  refine J_istore E [(4, .int z_0), (0, .ref h0), (1, .int 738), (2, .int x_1), (3, .int x_2)] dX8_add_8 (by decide) rfl ?_
  refine J_aload_n E dX8_add_10 1 rfl ?_
  refine J_getR E in_X8 rfl (S_X8.h S0) 1 (by decide) wd936 rfl dX8_add_11 ?_
  refine J_iload_n E dX8_add_14 2 rfl ?_
  refine J_bipush E 6 dX8_add_15 (by decide) ?_
  refine J_iadd E dX8_add_17 (fun x7 e8 => ?_)
  have b9 : Bd x7 744 744 := (Bd.add e8 (Bd.lit 738 738 (by decide)) (Bd.lit 6 6 (by decide)) (by decide)).w _ _ (by decide)
  refine J_iload E dX8_add_18 0 rfl ?_
  refine J_iadd E dX8_add_20 (fun x10 e11 => ?_)
  have b12 : Bd x10 744 750 := (Bd.add e11 b9 pre0 (by decide)).w _ _ (by decide)
  refine J_iload_n E dX8_add_21 3 rfl ?_
  refine J_iast1 E (S_X8.f1 S0) (Bd.in b12 (by decide)) dX8_add_22 (fun v13 e14 => ?_)
  have o15 : Ok G v13 w := by rw [e14]; exact Ok.sv hOk (S_X8.f1 S0) b12 bx_1 744 7 (by decide) (by decide +kernel)
  have k16 : Kp G v v13 := by rw [e14]; exact Kp.sv Kp.rf (S_X8.f1 S0) b12 744 7 0 999 (by decide) (by decide +kernel)
  have f17 : Fr G [1084] v v13 := Fr.st Fr.rf e14 (S_X8.f1 S0) rfl
  have e18 : z_0 = v13 (rf G h0 1) 738 := by rw [e14, stv_k (Bd.nix b12 738 (by decide))]; exact ez_0
  refine J_aload_n E dX8_add_23 1 rfl ?_
  refine J_getR E in_X8 rfl (S_X8.h S0) 1 (by decide) wd936 rfl dX8_add_24 ?_
  refine J_iload_n E dX8_add_27 2 rfl ?_
  refine J_bipush E 13 dX8_add_28 (by decide) ?_
  refine J_iadd E dX8_add_30 (fun x19 e20 => ?_)
  have b21 : Bd x19 751 751 := (Bd.add e20 (Bd.lit 738 738 (by decide)) (Bd.lit 13 13 (by decide)) (by decide)).w _ _ (by decide)
  refine J_iload E dX8_add_31 0 rfl ?_
  refine J_iadd E dX8_add_33 (fun x22 e23 => ?_)
  have b24 : Bd x22 751 757 := (Bd.add e23 b21 pre0 (by decide)).w _ _ (by decide)
  refine J_iload_n E dX8_add_34 4 rfl ?_
  refine J_iast1 E (S_X8.f1 S0) (Bd.in b24 (by decide)) dX8_add_35 (fun v25 e26 => ?_)
  have o27 : Ok G v25 w := by rw [e26]; exact Ok.sv o15 (S_X8.f1 S0) b24 bx_2 751 7 (by decide) (by decide +kernel)
  have k28 : Kp G v v25 := by rw [e26]; exact Kp.sv k16 (S_X8.f1 S0) b24 751 7 0 999 (by decide) (by decide +kernel)
  have f29 : Fr G [1084] v v25 := Fr.st f17 e26 (S_X8.f1 S0) rfl
  have e30 : z_0 = v25 (rf G h0 1) 738 := by rw [e26, stv_k (Bd.nix b24 738 (by decide))]; exact e18
  refine J_aload_n E dX8_add_36 1 rfl ?_
  refine J_getR E in_X8 rfl (S_X8.h S0) 1 (by decide) wd936 rfl dX8_add_37 ?_
  refine J_iload_n E dX8_add_40 2 rfl ?_
  refine J_iconst E 0 dX8_add_41 (by decide) ?_
  refine J_iadd E dX8_add_42 (fun x31 e32 => ?_)
  have b33 : Bd x31 738 738 := (Bd.add e32 (Bd.lit 738 738 (by decide)) (Bd.lit 0 0 (by decide)) (by decide)).w _ _ (by decide)
  refine J_dup2 E dX8_add_43 rfl rfl ?_
  refine J_iald1 E (S_X8.f1 S0) (Bd.in b33 (by decide)) dX8_add_44 (fun x34 e35 => ?_)
  have b36 : Bd x34 0 7 := Bd.e (Ok.ld o27 (S_X8.f1 S0) b33 738 1 0 7 (by decide) (by decide +kernel)) e35
  have e35q : x34 = z_0 := by rw [e35, Bd.ix b33 738 rfl]; exact (e30).symm
  rw [e35q]
  refine J_iconst E 1 dX8_add_45 (by decide) ?_
  refine J_iadd E dX8_add_46 (fun x37 e38 => ?_)
  have b39 : Bd x37 1 7 := (Bd.add e38 pre0 (Bd.lit 1 1 (by decide)) (by decide)).w _ _ (by decide)
  refine J_iast1 E (S_X8.f1 S0) (Bd.in b33 (by decide)) dX8_add_47 (fun v40 e41 => ?_)
  have o42 : Ok G v40 w := by rw [e41]; exact Ok.sv o27 (S_X8.f1 S0) b33 b39 738 1 (by decide) (by decide +kernel)
  have k43 : Kp G v v40 := by rw [e41]; exact Kp.sv k28 (S_X8.f1 S0) b33 738 1 1 7 (by decide) (by decide +kernel)
  have f44 : Fr G [1084] v v40 := Fr.st f29 e41 (S_X8.f1 S0) rfl
  have e45 : (x37 : Int32) = v40 (rf G h0 1) 738 := by rw [e41, Bd.ix b33 738 rfl, stv_s]
  refine J_aload_n E dX8_add_48 1 rfl ?_
  refine J_getR E in_X8 rfl (S_X8.h S0) 1 (by decide) wd936 rfl dX8_add_49 ?_
  refine J_iload_n E dX8_add_52 2 rfl ?_
  refine J_iconst E 5 dX8_add_53 (by decide) ?_
  refine J_iadd E dX8_add_54 (fun x46 e47 => ?_)
  have b48 : Bd x46 743 743 := (Bd.add e47 (Bd.lit 738 738 (by decide)) (Bd.lit 5 5 (by decide)) (by decide)).w _ _ (by decide)
  refine J_iconst E 0 dX8_add_55 (by decide) ?_
  refine J_iast1 E (S_X8.f1 S0) (Bd.in b48 (by decide)) dX8_add_56 (fun v49 e50 => ?_)
  have o51 : Ok G v49 w := by rw [e50]; exact Ok.sv o42 (S_X8.f1 S0) b48 (Bd.lit 0 0 (by decide)) 743 1 (by decide) (by decide +kernel)
  have k52 : Kp G v v49 := by rw [e50]; exact Kp.sv k43 (S_X8.f1 S0) b48 743 1 0 0 (by decide) (by decide +kernel)
  have f53 : Fr G [1084] v v49 := Fr.st f44 e50 (S_X8.f1 S0) rfl
  have e54 : x37 = v49 (rf G h0 1) 738 := by rw [e50, stv_k (Bd.nix b48 738 (by decide))]; exact e45
  have e55 : (0 : Int32) = v49 (rf G h0 1) 743 := by rw [e50, Bd.ix b48 743 rfl, stv_s]
  refine J_iload E dX8_add_57 0 rfl ?_
  exact J_iret E hr dX8_add_59 ⟨o51, k52, pre0, f53⟩
