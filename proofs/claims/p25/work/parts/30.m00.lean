def K_X8_in_e (G : Gm) (w : Mw) (v : Mv) (x_0 : Int32) (x_1 : Int32) (x_2 : Int32) : Int32 :=
  if x_0 < x_1 then ((0 : Int32)) else (if x_2 < x_0 then ((0 : Int32)) else ((1 : Int32)))
def F_X8_in (G : Gm) (w : Mw) (v : Mv) (x_0 : Int32) (x_1 : Int32) (x_2 : Int32) : Int32 := K_X8_in_e G w v x_0 x_1 x_2
set_option maxRecDepth 100000 in
theorem kx_X8_in_1 {G : Gm} {w : Mw} {v : Mv} {x_0 : Int32} {x_1 : Int32} {x_2 : Int32}  (k0 : x_0 < x_1) : K_X8_in_e G w v x_0 x_1 x_2 = (0 : Int32) := by
  first | rw [K_X8_in_e, if_pos k0] | simp only [K_X8_in_e, if_pos k0]
set_option maxRecDepth 100000 in
theorem kx_X8_in_2 {G : Gm} {w : Mw} {v : Mv} {x_0 : Int32} {x_1 : Int32} {x_2 : Int32}  (k0 : ¬ (x_0 < x_1)) (k1 : x_2 < x_0) : K_X8_in_e G w v x_0 x_1 x_2 = (0 : Int32) := by
  first | rw [K_X8_in_e, if_neg k0, if_pos k1] | simp only [K_X8_in_e, if_neg k0, if_pos k1]
set_option maxRecDepth 100000 in
theorem kx_X8_in_3 {G : Gm} {w : Mw} {v : Mv} {x_0 : Int32} {x_1 : Int32} {x_2 : Int32}  (k0 : ¬ (x_0 < x_1)) (k1 : ¬ (x_2 < x_0)) : K_X8_in_e G w v x_0 x_1 x_2 = (1 : Int32) := by
  first | rw [K_X8_in_e, if_neg k0, if_neg k1] | simp only [K_X8_in_e, if_neg k0, if_neg k1]
abbrev rm_X8_in : Room := { frames := 0, cells := 0, slots := 0, locals := 0 }
set_option maxHeartbeats 4000000 in
set_option maxRecDepth 100000 in
theorem ct_X8_in (l : Launch) (D : va_G) (dA : Nat → ClassId) (G : Gm) (v : Mv) (w : Mw) (hOk : Ok G v w) (x_0 : Int32) (x_1 : Int32) (x_2 : Int32) : CtI l yX8_in cX8_in 3 (some .boolean) rm_X8_in D dA G [.int x_0, .int x_1, .int x_2] v w (fun r v1 w1 => v1 = v ∧ w1 = w ∧ Bd r 0 1 ∧ (r = 0 ∨ (x_1 ≤ x_0 ∧ x_0 ≤ x_2)) ∧ (¬ r = 0 ∨ ¬ (x_1 ≤ x_0 ∧ x_0 ≤ x_2)) ∧ r = F_X8_in G w v x_0 x_1 x_2) := by
  refine CtI.of RX8 [(0, .int x_0), (1, .int x_1), (2, .int x_2)] (Nat.le_of_ble_eq_true rfl) rfl (by decide) rfl ?_
  intro p e s m args below meth c E hr
  have hK : K_X8_in_e G w v x_0 x_1 x_2 = F_X8_in G w v x_0 x_1 x_2 := rfl
  refine J_iload_n E dX8_in_0 0 rfl ?_
  refine J_iload_n E dX8_in_1 1 rfl ?_
  refine J_icmp_lt E 14 dX8_in_2 (by decide) (fun c1 => ?_) (fun c1 => ?_)
  · refine J_iconst E 0 dX8_in_14 (by decide) ?_
    exact J_zret E hr (Bd.z (Bd.lit 0 0 (by decide)) (by decide)) dX8_in_15 ⟨rfl, rfl, ((Bd.lit 0 0 (by decide)).w 0 1 (by decide)), ⟨(Or.inl rfl), (Or.inr (fun h9 => absurd h9.1 (nle_of_lt c1))), ((kx_X8_in_1 (c1)).symm.trans hK)⟩⟩
  · refine J_iload_n E dX8_in_5 0 rfl ?_
    refine J_iload_n E dX8_in_6 2 rfl ?_
    refine J_icmp_gt E 14 dX8_in_7 (by decide) (fun c2 => ?_) (fun c2 => ?_)
    · refine J_iconst E 0 dX8_in_14 (by decide) ?_
      exact J_zret E hr (Bd.z (Bd.lit 0 0 (by decide)) (by decide)) dX8_in_15 ⟨rfl, rfl, ((Bd.lit 0 0 (by decide)).w 0 1 (by decide)), ⟨(Or.inl rfl), (Or.inr (fun h9 => absurd h9.2 (nle_of_lt c2))), ((kx_X8_in_2 (c1) (c2)).symm.trans hK)⟩⟩
    · refine J_iconst E 1 dX8_in_10 (by decide) ?_
      refine J_goto E 15 dX8_in_11 (by decide) ?_
      exact J_zret E hr (Bd.z (Bd.lit 1 1 (by decide)) (by decide)) dX8_in_15 ⟨rfl, rfl, ((Bd.lit 1 1 (by decide)).w 0 1 (by decide)), ⟨(Or.inr ⟨(nlt c1), (nlt c2)⟩), (Or.inl (by decide)), ((kx_X8_in_3 (c1) (c2)).symm.trans hK)⟩⟩

def K_X8_has_e (G : Gm) (w : Mw) (v : Mv) (x_0 : Int32) (x_1 : Int32) : Int32 :=
  if ((x_0 >>> (x_1 &&& 31)) &&& (1 : Int32)) = (1 : Int32) then ((1 : Int32)) else ((0 : Int32))
def F_X8_has (G : Gm) (w : Mw) (v : Mv) (x_0 : Int32) (x_1 : Int32) : Int32 := K_X8_has_e G w v x_0 x_1
set_option maxRecDepth 100000 in
theorem kx_X8_has_1 {G : Gm} {w : Mw} {v : Mv} {x_0 : Int32} {x_1 : Int32} {x1 : Int32} {x3 : Int32} (a0 : x1 = x_0 >>> (x_1 &&& 31)) (a1 : x3 = x1 &&& (1 : Int32)) (k0 : ¬ (x3 = (1 : Int32))) : K_X8_has_e G w v x_0 x_1 = (0 : Int32) := by
  subst a1; subst a0; first | rw [K_X8_has_e, if_neg k0] | simp only [K_X8_has_e, if_neg k0]
set_option maxRecDepth 100000 in
theorem kx_X8_has_2 {G : Gm} {w : Mw} {v : Mv} {x_0 : Int32} {x_1 : Int32} {x1 : Int32} {x3 : Int32} (a0 : x1 = x_0 >>> (x_1 &&& 31)) (a1 : x3 = x1 &&& (1 : Int32)) (k0 : x3 = (1 : Int32)) : K_X8_has_e G w v x_0 x_1 = (1 : Int32) := by
  subst a1; subst a0; first | rw [K_X8_has_e, if_pos k0] | simp only [K_X8_has_e, if_pos k0]
abbrev rm_X8_has : Room := { frames := 0, cells := 0, slots := 0, locals := 0 }
set_option maxHeartbeats 4000000 in
set_option maxRecDepth 100000 in
theorem ct_X8_has (l : Launch) (D : va_G) (dA : Nat → ClassId) (G : Gm) (v : Mv) (w : Mw) (hOk : Ok G v w) (x_0 : Int32) (x_1 : Int32) (bx_1 : Bd x_1 0 9) : CtI l yX8_has cX8_has 2 (some .boolean) rm_X8_has D dA G [.int x_0, .int x_1] v w (fun r v1 w1 => v1 = v ∧ w1 = w ∧ Bd r 0 1 ∧ r = F_X8_has G w v x_0 x_1) := by
  refine CtI.of RX8 [(0, .int x_0), (1, .int x_1)] (Nat.le_of_ble_eq_true rfl) rfl (by decide) rfl ?_
  intro p e s m args below meth c E hr
  have hK : K_X8_has_e G w v x_0 x_1 = F_X8_has G w v x_0 x_1 := rfl
  refine J_iload_n E dX8_has_0 0 rfl ?_
  refine J_iload_n E dX8_has_1 1 rfl ?_
  refine J_ishr E dX8_has_2 (fun x1 e2 => ?_)
  refine J_iconst E 1 dX8_has_3 (by decide) ?_
  refine J_iand E dX8_has_4 (fun x3 e4 => ?_)
  have b5 : Bd x3 0 1 := Bd.and_r e4 (Bd.lit 1 1 (by decide)) (by decide)
  refine J_iconst E 1 dX8_has_5 (by decide) ?_
  refine J_icmp_ne E 13 dX8_has_6 (by decide) (fun c6 => ?_) (fun c6 => ?_)
  · have b7 : Bd x3 0 0 := (Bd.ne_hi c6 b5 (Bd.lit 1 1 (by decide))).w _ _ (by decide)
    refine J_iconst E 0 dX8_has_13 (by decide) ?_
    exact J_zret E hr (Bd.z (Bd.lit 0 0 (by decide)) (by decide)) dX8_has_14 ⟨rfl, rfl, ((Bd.lit 0 0 (by decide)).w 0 1 (by decide)), ((kx_X8_has_1 (e2) (e4) (c6)).symm.trans hK)⟩
  · have b8 : Bd x3 1 1 := Bd.eq_l c6 b5 (Bd.lit 1 1 (by decide)) 1 1 (by decide)
    refine J_iconst E 1 dX8_has_9 (by decide) ?_
    refine J_goto E 14 dX8_has_10 (by decide) ?_
    exact J_zret E hr (Bd.z (Bd.lit 1 1 (by decide)) (by decide)) dX8_has_14 ⟨rfl, rfl, ((Bd.lit 1 1 (by decide)).w 0 1 (by decide)), ((kx_X8_has_2 (e2) (e4) (c6)).symm.trans hK)⟩

def K_X8_bitsOf_4 (G : Gm) (w : Mw) : Nat → Mv → Int32 → Int32 → Int32 → Int32
  | 0, _, _, _, _ => (0 : Int32)
  | n4 + 1, v, x_0, x1, x2 =>
    if (10 : Int32) ≤ x2 then (x1) else ((K_X8_bitsOf_4 G w n4) v x_0 (x1 + ((x_0 >>> (x2 &&& 31)) &&& (1 : Int32))) (x2 + (1 : Int32)))
def K_X8_bitsOf_e (G : Gm) (w : Mw) (v : Mv) (x_0 : Int32) : Int32 :=
  K_X8_bitsOf_4 G w 11 v x_0 (0 : Int32) (0 : Int32)
def F_X8_bitsOf (G : Gm) (w : Mw) (v : Mv) (x_0 : Int32) : Int32 := K_X8_bitsOf_e G w v x_0
set_option maxRecDepth 100000 in
theorem kx_X8_bitsOf_1 {G : Gm} {w : Mw} {n4 : Nat} {v : Mv} {x_0 : Int32} {x1 : Int32} {x2 : Int32}  (k0 : (10 : Int32) ≤ x2) : K_X8_bitsOf_4 G w (n4 + 1) v x_0 x1 x2 = x1 := by
  first | rw [K_X8_bitsOf_4, if_pos k0] | simp only [K_X8_bitsOf_4, if_pos k0]
set_option maxRecDepth 100000 in
theorem kx_X8_bitsOf_2 {G : Gm} {w : Mw} {n4 : Nat} {v : Mv} {x_0 : Int32} {x1 : Int32} {x2 : Int32} {x12 : Int32} {x14 : Int32} {x7 : Int32} {x9 : Int32} (a0 : x7 = x_0 >>> (x2 &&& 31)) (a1 : x9 = x7 &&& (1 : Int32)) (a2 : x12 = x1 + x9) (a3 : x14 = x2 + (1 : Int32)) (k0 : ¬ ((10 : Int32) ≤ x2)) : K_X8_bitsOf_4 G w (n4 + 1) v x_0 x1 x2 = (K_X8_bitsOf_4 G w n4) v x_0 x12 x14 := by
  subst a3; subst a2; subst a1; subst a0; first | rw [K_X8_bitsOf_4, if_neg k0] | simp only [K_X8_bitsOf_4, if_neg k0]
set_option maxRecDepth 100000 in
theorem kx_X8_bitsOf_3 {G : Gm} {w : Mw} {v : Mv} {x_0 : Int32}   : K_X8_bitsOf_e G w v x_0 = K_X8_bitsOf_4 G w 11 v x_0 (0 : Int32) (0 : Int32) := by
  first | rw [K_X8_bitsOf_e] | simp only [K_X8_bitsOf_e]
abbrev rm_X8_bitsOf : Room := { frames := 0, cells := 0, slots := 0, locals := 0 }
set_option maxHeartbeats 4000000 in
set_option maxRecDepth 100000 in
theorem ct_X8_bitsOf (l : Launch) (D : va_G) (dA : Nat → ClassId) (G : Gm) (v : Mv) (w : Mw) (hOk : Ok G v w) (x_0 : Int32) : CtI l yX8_bitsOf cX8_bitsOf 3 (some .int) rm_X8_bitsOf D dA G [.int x_0] v w (fun r v1 w1 => v1 = v ∧ w1 = w ∧ True ∧ r = F_X8_bitsOf G w v x_0) := by
  refine CtI.of RX8 [(0, .int x_0)] (Nat.le_of_ble_eq_true rfl) rfl (by decide) rfl ?_
  intro p e s m args below meth c E hr
  have J4 : ∀ n4 : Nat, ∀ x1 : Int32, ∀ x2 : Int32, Bd x2 0 10 → Mu x2 10 n4 → K_X8_bitsOf_4 G w n4 v x_0 x1 x2 = F_X8_bitsOf G w v x_0 → J p l e rm_X8_bitsOf s m args below meth c 0 0 (MQ below (QcI D dA G (fun r v1 w1 => v1 = v ∧ w1 = w ∧ True ∧ r = F_X8_bitsOf G w v x_0)) args s 0 0 (dm G)) D dA G (dm G) s.heap 3 v w [(0, .int x_0), (1, .int x1), (2, .int x2)] 4 [] := by
    intro n4
    induction n4 with
    | zero => intro x1 x2 b3 hm hK; exact hm.zero b3 (by decide)
    | succ n4 ih4 =>
      intro x1 x2 b3 hmu4 hK
      refine J_iload_n E dX8_bitsOf_4 2 rfl ?_
      refine J_bipush E 10 dX8_bitsOf_5 (by decide) ?_
      refine J_icmp_ge E 24 dX8_bitsOf_7 (by decide) (fun c4 => ?_) (fun c4 => ?_)
      · have b5 : Bd x2 10 10 := Bd.le_r c4 (Bd.lit 10 10 (by decide)) b3 10 (by decide)
        refine J_iload_n E dX8_bitsOf_24 1 rfl ?_
        exact J_iret E hr dX8_bitsOf_25 ⟨rfl, rfl, trivial, ((kx_X8_bitsOf_1 (c4)).symm.trans hK)⟩
      · have b6 : Bd x2 0 9 := Bd.lt_l (nle c4) b3 (Bd.lit 10 10 (by decide)) 9 (by decide)
        refine J_iload_n E dX8_bitsOf_10 1 rfl ?_
        refine J_iload_n E dX8_bitsOf_11 0 rfl ?_
        refine J_iload_n E dX8_bitsOf_12 2 rfl ?_
        refine J_ishr E dX8_bitsOf_13 (fun x7 e8 => ?_)
        refine J_iconst E 1 dX8_bitsOf_14 (by decide) ?_
        refine J_iand E dX8_bitsOf_15 (fun x9 e10 => ?_)
        have b11 : Bd x9 0 1 := Bd.and_r e10 (Bd.lit 1 1 (by decide)) (by decide)
        refine J_iadd E dX8_bitsOf_16 (fun x12 e13 => ?_)
        refine J_istore_n E [(1, .int x12), (0, .int x_0), (2, .int x2)] dX8_bitsOf_17 rfl (by decide) rfl ?_
        refine J_iinc E 2 1 (fun z => [(2, .int z), (1, .int x12), (0, .int x_0)]) dX8_bitsOf_18 rfl (by decide) (by decide) (fun _ => rfl) (fun x14 e15 => ?_)
        have b16 : Bd x14 1 10 := (Bd.add e15 b6 (Bd.lit 1 1 (by decide)) (by decide)).w _ _ (by decide)
        refine J_goto E 4 dX8_bitsOf_21 (by decide) ?_
        exact J.sub [2, 1, 0] rfl (ih4 x12 x14 (b16.w 0 10 (by decide)) (Mu.step hmu4 e15 b6 (Bd.lit 1 1 (by decide)) (by decide)) ((kx_X8_bitsOf_2 (e8) (e10) (e13) (e15) (c4)).symm.trans hK))
  have hK : K_X8_bitsOf_e G w v x_0 = F_X8_bitsOf G w v x_0 := rfl
  refine J_iconst E 0 dX8_bitsOf_0 (by decide) ?_
  refine J_istore_n E [(1, .int 0), (0, .int x_0)] dX8_bitsOf_1 rfl (by decide) rfl ?_
  refine J_iconst E 0 dX8_bitsOf_2 (by decide) ?_
  refine J_istore_n E [(2, .int 0), (1, .int 0), (0, .int x_0)] dX8_bitsOf_3 rfl (by decide) rfl ?_
  exact J.sub [2, 1, 0] rfl (J4 11 0 0 ((Bd.lit 0 0 (by decide)).w 0 10 (by decide)) (Mu.start _ (Bd.lit 0 0 (by decide)) (by decide)) ((kx_X8_bitsOf_3).symm.trans hK))

def K_X8_bad_e (G : Gm) (w : Mw) (v : Mv) (h0 : Nat) : Int32 × Mv :=
  ((-2 : Int32), (stv v (rf G h0 0) (Int32.toNatClampNeg (0 : Int32)) ((v (rf G h0 0) (Int32.toNatClampNeg (0 : Int32))) + (1 : Int32))))
def F_X8_bad (G : Gm) (w : Mw) (v : Mv) (h0 : Nat) : Int32 × Mv := K_X8_bad_e G w v h0
set_option maxRecDepth 100000 in
theorem kx_X8_bad_1 {G : Gm} {w : Mw} {v : Mv} {h0 : Nat} {v6 : Mv} {x1 : Int32} {x4 : Int32} (a0 : x1 = v (rf G h0 0) (Int32.toNatClampNeg (0 : Int32))) (a1 : x4 = x1 + (1 : Int32)) (a2 : v6 = stv v (rf G h0 0) (Int32.toNatClampNeg (0 : Int32)) x4)  : K_X8_bad_e G w v h0 = ((-2 : Int32), v6) := by
  subst a2; subst a1; subst a0; first | rw [K_X8_bad_e] | simp only [K_X8_bad_e]
abbrev rm_X8_bad : Room := { frames := 0, cells := 0, slots := 0, locals := 0 }
set_option maxHeartbeats 4000000 in
set_option maxRecDepth 100000 in
theorem ct_X8_bad (l : Launch) (D : va_G) (dA : Nat → ClassId) (G : Gm) (v : Mv) (w : Mw) (hOk : Ok G v w) (h0 : Nat) (S0 : S_X8 G h0) : CtI l yX8_bad cX8_bad 1 (some .int) rm_X8_bad D dA G [.ref h0] v w (fun r v1 w1 => Ok G v1 w1 ∧ Kp G v v1 ∧ Bd r (-2) (-2) ∧ (w1 = w ∧ (r, v1) = F_X8_bad G w v h0) ∧ Fr G [103] v v1) := by
  refine CtI.of RX8 [(0, .ref h0)] (Nat.le_of_ble_eq_true rfl) rfl (by decide) rfl ?_
  intro p e s m args below meth c E hr
  have hK : K_X8_bad_e G w v h0 = F_X8_bad G w v h0 := rfl
  refine J_aload_n E dX8_bad_0 0 rfl ?_
  refine J_getR E in_X8 rfl (S_X8.h S0) 0 (by decide) wd935 rfl dX8_bad_1 ?_
  refine J_iconst E 0 dX8_bad_4 (by decide) ?_
  refine J_dup2 E dX8_bad_5 rfl rfl ?_
  refine J_iald1 E (S_X8.f0 S0) (Bd.in (Bd.lit 0 0 (by decide)) (by decide)) dX8_bad_6 (fun x1 e2 => ?_)
  have e3 : x1 = v (rf G h0 0) 0 := by rw [e2, Bd.ix (Bd.lit 0 0 (by decide)) 0 rfl]
  refine J_iconst E 1 dX8_bad_7 (by decide) ?_
  refine J_iadd E dX8_bad_8 (fun x4 e5 => ?_)
  refine J_iast1 E (S_X8.f0 S0) (Bd.in (Bd.lit 0 0 (by decide)) (by decide)) dX8_bad_9 (fun v6 e7 => ?_)
  have o8 : Ok G v6 w := by rw [e7]; exact Ok.sv hOk (S_X8.f0 S0) (Bd.lit 0 0 (by decide)) (Bd.any x4) 0 1 (by decide) (by decide +kernel)
  have k9 : Kp G v v6 := by rw [e7]; exact Kp.sv Kp.rf (S_X8.f0 S0) (Bd.lit 0 0 (by decide)) 0 1 I0 I1 (by decide) (by decide +kernel)
  have f10 : Fr G [103] v v6 := Fr.st Fr.rf e7 (S_X8.f0 S0) rfl
  have e11 : (x4 : Int32) = v6 (rf G h0 0) 0 := by rw [e7, Bd.ix (Bd.lit 0 0 (by decide)) 0 rfl, stv_s]
  refine J_bipush E (-2) dX8_bad_10 (by decide) ?_
  exact J_iret E hr dX8_bad_12 ⟨o8, k9, (Bd.lit (-2) (-2) (by decide)), ⟨⟨rfl, ((kx_X8_bad_1 (e2) (e5) (e7)).symm.trans hK)⟩, f10⟩⟩

def K_X8_no_e (G : Gm) (w : Mw) (v : Mv) (h0 : Nat) : Int32 × Mv :=
  ((-3 : Int32), (stv v (rf G h0 0) (Int32.toNatClampNeg (1 : Int32)) ((v (rf G h0 0) (Int32.toNatClampNeg (1 : Int32))) + (1 : Int32))))
def F_X8_no (G : Gm) (w : Mw) (v : Mv) (h0 : Nat) : Int32 × Mv := K_X8_no_e G w v h0
set_option maxRecDepth 100000 in
theorem kx_X8_no_1 {G : Gm} {w : Mw} {v : Mv} {h0 : Nat} {v6 : Mv} {x1 : Int32} {x4 : Int32} (a0 : x1 = v (rf G h0 0) (Int32.toNatClampNeg (1 : Int32))) (a1 : x4 = x1 + (1 : Int32)) (a2 : v6 = stv v (rf G h0 0) (Int32.toNatClampNeg (1 : Int32)) x4)  : K_X8_no_e G w v h0 = ((-3 : Int32), v6) := by
  subst a2; subst a1; subst a0; first | rw [K_X8_no_e] | simp only [K_X8_no_e]
abbrev rm_X8_no : Room := { frames := 0, cells := 0, slots := 0, locals := 0 }
set_option maxHeartbeats 4000000 in
set_option maxRecDepth 100000 in
theorem ct_X8_no (l : Launch) (D : va_G) (dA : Nat → ClassId) (G : Gm) (v : Mv) (w : Mw) (hOk : Ok G v w) (h0 : Nat) (S0 : S_X8 G h0) : CtI l yX8_no cX8_no 1 (some .int) rm_X8_no D dA G [.ref h0] v w (fun r v1 w1 => Ok G v1 w1 ∧ Kp G v v1 ∧ Bd r (-3) (-3) ∧ (w1 = w ∧ (r, v1) = F_X8_no G w v h0) ∧ Fr G [103] v v1) := by
  refine CtI.of RX8 [(0, .ref h0)] (Nat.le_of_ble_eq_true rfl) rfl (by decide) rfl ?_
  intro p e s m args below meth c E hr
  have hK : K_X8_no_e G w v h0 = F_X8_no G w v h0 := rfl
  refine J_aload_n E dX8_no_0 0 rfl ?_
  refine J_getR E in_X8 rfl (S_X8.h S0) 0 (by decide) wd935 rfl dX8_no_1 ?_
  refine J_iconst E 1 dX8_no_4 (by decide) ?_
  refine J_dup2 E dX8_no_5 rfl rfl ?_
  refine J_iald1 E (S_X8.f0 S0) (Bd.in (Bd.lit 1 1 (by decide)) (by decide)) dX8_no_6 (fun x1 e2 => ?_)
  have e3 : x1 = v (rf G h0 0) 1 := by rw [e2, Bd.ix (Bd.lit 1 1 (by decide)) 1 rfl]
  refine J_iconst E 1 dX8_no_7 (by decide) ?_
  refine J_iadd E dX8_no_8 (fun x4 e5 => ?_)
  refine J_iast1 E (S_X8.f0 S0) (Bd.in (Bd.lit 1 1 (by decide)) (by decide)) dX8_no_9 (fun v6 e7 => ?_)
  have o8 : Ok G v6 w := by rw [e7]; exact Ok.sv hOk (S_X8.f0 S0) (Bd.lit 1 1 (by decide)) (Bd.any x4) 1 1 (by decide) (by decide +kernel)
  have k9 : Kp G v v6 := by rw [e7]; exact Kp.sv Kp.rf (S_X8.f0 S0) (Bd.lit 1 1 (by decide)) 1 1 I0 I1 (by decide) (by decide +kernel)
  have f10 : Fr G [103] v v6 := Fr.st Fr.rf e7 (S_X8.f0 S0) rfl
  have e11 : (x4 : Int32) = v6 (rf G h0 0) 1 := by rw [e7, Bd.ix (Bd.lit 1 1 (by decide)) 1 rfl, stv_s]
  refine J_bipush E (-3) dX8_no_10 (by decide) ?_
  exact J_iret E hr dX8_no_12 ⟨o8, k9, (Bd.lit (-3) (-3) (by decide)), ⟨⟨rfl, ((kx_X8_no_1 (e2) (e5) (e7)).symm.trans hK)⟩, f10⟩⟩

def K_X8_full_e (G : Gm) (w : Mw) (v : Mv) (h0 : Nat) : Int32 × Mv :=
  ((-4 : Int32), (stv v (rf G h0 0) (Int32.toNatClampNeg (2 : Int32)) ((v (rf G h0 0) (Int32.toNatClampNeg (2 : Int32))) + (1 : Int32))))
def F_X8_full (G : Gm) (w : Mw) (v : Mv) (h0 : Nat) : Int32 × Mv := K_X8_full_e G w v h0
set_option maxRecDepth 100000 in
theorem kx_X8_full_1 {G : Gm} {w : Mw} {v : Mv} {h0 : Nat} {v6 : Mv} {x1 : Int32} {x4 : Int32} (a0 : x1 = v (rf G h0 0) (Int32.toNatClampNeg (2 : Int32))) (a1 : x4 = x1 + (1 : Int32)) (a2 : v6 = stv v (rf G h0 0) (Int32.toNatClampNeg (2 : Int32)) x4)  : K_X8_full_e G w v h0 = ((-4 : Int32), v6) := by
  subst a2; subst a1; subst a0; first | rw [K_X8_full_e] | simp only [K_X8_full_e]
abbrev rm_X8_full : Room := { frames := 0, cells := 0, slots := 0, locals := 0 }
set_option maxHeartbeats 4000000 in
set_option maxRecDepth 100000 in
theorem ct_X8_full (l : Launch) (D : va_G) (dA : Nat → ClassId) (G : Gm) (v : Mv) (w : Mw) (hOk : Ok G v w) (h0 : Nat) (S0 : S_X8 G h0) : CtI l yX8_full cX8_full 1 (some .int) rm_X8_full D dA G [.ref h0] v w (fun r v1 w1 => Ok G v1 w1 ∧ Kp G v v1 ∧ Bd r (-4) (-4) ∧ (w1 = w ∧ (r, v1) = F_X8_full G w v h0) ∧ Fr G [103] v v1) := by
  refine CtI.of RX8 [(0, .ref h0)] (Nat.le_of_ble_eq_true rfl) rfl (by decide) rfl ?_
  intro p e s m args below meth c E hr
  have hK : K_X8_full_e G w v h0 = F_X8_full G w v h0 := rfl
  refine J_aload_n E dX8_full_0 0 rfl ?_
  refine J_getR E in_X8 rfl (S_X8.h S0) 0 (by decide) wd935 rfl dX8_full_1 ?_
  refine J_iconst E 2 dX8_full_4 (by decide) ?_
  refine J_dup2 E dX8_full_5 rfl rfl ?_
  refine J_iald1 E (S_X8.f0 S0) (Bd.in (Bd.lit 2 2 (by decide)) (by decide)) dX8_full_6 (fun x1 e2 => ?_)
  have e3 : x1 = v (rf G h0 0) 2 := by rw [e2, Bd.ix (Bd.lit 2 2 (by decide)) 2 rfl]
  refine J_iconst E 1 dX8_full_7 (by decide) ?_
  refine J_iadd E dX8_full_8 (fun x4 e5 => ?_)
  refine J_iast1 E (S_X8.f0 S0) (Bd.in (Bd.lit 2 2 (by decide)) (by decide)) dX8_full_9 (fun v6 e7 => ?_)
  have o8 : Ok G v6 w := by rw [e7]; exact Ok.sv hOk (S_X8.f0 S0) (Bd.lit 2 2 (by decide)) (Bd.any x4) 2 1 (by decide) (by decide +kernel)
  have k9 : Kp G v v6 := by rw [e7]; exact Kp.sv Kp.rf (S_X8.f0 S0) (Bd.lit 2 2 (by decide)) 2 1 I0 I1 (by decide) (by decide +kernel)
  have f10 : Fr G [103] v v6 := Fr.st Fr.rf e7 (S_X8.f0 S0) rfl
  have e11 : (x4 : Int32) = v6 (rf G h0 0) 2 := by rw [e7, Bd.ix (Bd.lit 2 2 (by decide)) 2 rfl, stv_s]
  refine J_bipush E (-4) dX8_full_10 (by decide) ?_
  exact J_iret E hr dX8_full_12 ⟨o8, k9, (Bd.lit (-4) (-4) (by decide)), ⟨⟨rfl, ((kx_X8_full_1 (e2) (e5) (e7)).symm.trans hK)⟩, f10⟩⟩

def K_X8_begin_0_26 (G : Gm) (w : Mw) (h0 : Nat) : Nat → Mv → Int32 → Int32 → Mv
  | 0, _, _, _ => (fun _ _ => 0 : Mv)
  | n26 + 1, v1, x8, x6 =>
    if (7 : Int32) ≤ x6 then (v1) else ((K_X8_begin_0_26 G w h0 n26) (stv v1 (rf G h0 1) (Int32.toNatClampNeg ((((0 : Int32) + (34 : Int32)) + (9 : Int32)) + x6)) (-1 : Int32)) (0 : Int32) (x6 + (1 : Int32)))
def K_X8_begin_0_2 (G : Gm) (w : Mw) (h0 : Nat) : Nat → Mv → Int32 → Int32 → Mv
  | 0, _, _, _ => (fun _ _ => 0 : Mv)
  | n2 + 1, v29, x36, x34 =>
    if (246 : Int32) ≤ x34 then (K_X8_begin_0_26 G w h0 8 v29 (0 : Int32) (0 : Int32)) else ((K_X8_begin_0_2 G w h0 n2) (stv v29 (rf G h0 1) (Int32.toNatClampNeg ((0 : Int32) + x34)) (0 : Int32)) (0 : Int32) (x34 + (1 : Int32)))
def K_X8_begin_0_e (G : Gm) (w : Mw) (v : Mv) (h0 : Nat) : Mv :=
  K_X8_begin_0_2 G w h0 247 v (0 : Int32) (0 : Int32)
def F_X8_begin_0 (G : Gm) (w : Mw) (v : Mv) (h0 : Nat) : Mv := K_X8_begin_0_e G w v h0
set_option maxRecDepth 100000 in
theorem kx_X8_begin_0_1 {G : Gm} {w : Mw} {h0 : Nat} {n26 : Nat} {v1 : Mv} {x6 : Int32}  (k0 : (7 : Int32) ≤ x6) : K_X8_begin_0_26 G w h0 (n26 + 1) v1 (0 : Int32) x6 = v1 := by
  first | rw [K_X8_begin_0_26, if_pos k0] | simp only [K_X8_begin_0_26, if_pos k0]
set_option maxRecDepth 100000 in
theorem kx_X8_begin_0_2 {G : Gm} {w : Mw} {h0 : Nat} {n26 : Nat} {v1 : Mv} {x6 : Int32} {v21 : Mv} {x26 : Int32} {x12 : Int32} {x15 : Int32} {x18 : Int32} (a0 : x12 = (0 : Int32) + (34 : Int32)) (a1 : x15 = x12 + (9 : Int32)) (a2 : x18 = x15 + x6) (a3 : v21 = stv v1 (rf G h0 1) (Int32.toNatClampNeg x18) (-1 : Int32)) (a4 : x26 = x6 + (1 : Int32)) (k0 : ¬ ((7 : Int32) ≤ x6)) : K_X8_begin_0_26 G w h0 (n26 + 1) v1 (0 : Int32) x6 = (K_X8_begin_0_26 G w h0 n26) v21 (0 : Int32) x26 := by
  subst a4; subst a3; subst a2; subst a1; subst a0; first | rw [K_X8_begin_0_26, if_neg k0] | simp only [K_X8_begin_0_26, if_neg k0]
set_option maxRecDepth 100000 in
theorem kx_X8_begin_0_3 {G : Gm} {w : Mw} {h0 : Nat} {n2 : Nat} {v29 : Mv} {x34 : Int32}  (k0 : (246 : Int32) ≤ x34) : K_X8_begin_0_2 G w h0 (n2 + 1) v29 (0 : Int32) x34 = K_X8_begin_0_26 G w h0 8 v29 (0 : Int32) (0 : Int32) := by
  first | rw [K_X8_begin_0_2, if_pos k0] | simp only [K_X8_begin_0_2, if_pos k0]
set_option maxRecDepth 100000 in
theorem kx_X8_begin_0_4 {G : Gm} {w : Mw} {h0 : Nat} {n2 : Nat} {v29 : Mv} {x34 : Int32} {v43 : Mv} {x48 : Int32} {x40 : Int32} (a0 : x40 = (0 : Int32) + x34) (a1 : v43 = stv v29 (rf G h0 1) (Int32.toNatClampNeg x40) (0 : Int32)) (a2 : x48 = x34 + (1 : Int32)) (k0 : ¬ ((246 : Int32) ≤ x34)) : K_X8_begin_0_2 G w h0 (n2 + 1) v29 (0 : Int32) x34 = (K_X8_begin_0_2 G w h0 n2) v43 (0 : Int32) x48 := by
  subst a2; subst a1; subst a0; first | rw [K_X8_begin_0_2, if_neg k0] | simp only [K_X8_begin_0_2, if_neg k0]
set_option maxRecDepth 100000 in
theorem kx_X8_begin_0_5 {G : Gm} {w : Mw} {v : Mv} {h0 : Nat}   : K_X8_begin_0_e G w v h0 = K_X8_begin_0_2 G w h0 247 v (0 : Int32) (0 : Int32) := by
  first | rw [K_X8_begin_0_e] | simp only [K_X8_begin_0_e]
abbrev rm_X8_begin_0 : Room := { frames := 0, cells := 0, slots := 0, locals := 0 }
set_option maxHeartbeats 4000000 in
set_option maxRecDepth 100000 in
theorem ct_X8_begin_0 (l : Launch) (D : va_G) (dA : Nat → ClassId) (G : Gm) (v : Mv) (w : Mw) (hOk : Ok G v w) (h0 : Nat) (S0 : S_X8 G h0) : CtV l yX8_begin cX8_begin 3 none rm_X8_begin_0 D dA G [.ref h0, .int 0] v w (fun v1 w1 => Ok G v1 w1 ∧ True ∧ (w1 = w ∧ v1 = F_X8_begin_0 G w v h0) ∧ Fr G [1084] v v1) := by
  refine CtV.of RX8 [(0, .ref h0), (1, .int 0)] (Nat.le_of_ble_eq_true rfl) rfl (by decide) rfl ?_
  intro p e s m args below meth c E hr
  have J26 : ∀ n26 : Nat, ∀ (v1 : Mv), Ok G v1 w → True → Fr G [1084] v v1 → Bd 0 0 0 → ∀ x6 : Int32, Bd x6 0 7 → Mu x6 7 n26 → K_X8_begin_0_26 G w h0 n26 v1 (0 : Int32) x6 = F_X8_begin_0 G w v h0 → J p l e rm_X8_begin_0 s m args below meth c 0 0 (MQ below (QcV D dA G (fun v1 w1 => Ok G v1 w1 ∧ True ∧ (w1 = w ∧ v1 = F_X8_begin_0 G w v h0) ∧ Fr G [1084] v v1)) args s 0 0 (dm G)) D dA G (dm G) s.heap 3 v1 w [(0, .ref h0), (1, .int 0), (2, .int x6)] 26 [] := by
    intro n26
    induction n26 with
    | zero => intro v1 o2 k3 f4 b5 x6 b7 hm hK; exact hm.zero b7 (by decide)
    | succ n26 ih26 =>
      intro v1 o2 k3 f4 b5 x6 b7 hmu26 hK
      refine J_iload_n E dX8_begin_26 2 rfl ?_
      refine J_bipush E 7 dX8_begin_27 (by decide) ?_
      refine J_icmp_ge E 53 dX8_begin_29 (by decide) (fun c9 => ?_) (fun c9 => ?_)
      · have b10 : Bd x6 7 7 := Bd.le_r c9 (Bd.lit 7 7 (by decide)) b7 7 (by decide)
        exact J_vret E hr dX8_begin_53 ⟨o2, k3, ⟨⟨rfl, ((kx_X8_begin_0_1 (c9)).symm.trans hK)⟩, f4⟩⟩
      · have b11 : Bd x6 0 6 := Bd.lt_l (nle c9) b7 (Bd.lit 7 7 (by decide)) 6 (by decide)
        refine J_aload_n E dX8_begin_32 0 rfl ?_
        refine J_getR E in_X8 rfl (S_X8.h S0) 1 (by decide) wd936 rfl dX8_begin_33 ?_
        refine J_iload_n E dX8_begin_36 1 rfl ?_
        refine J_bipush E 34 dX8_begin_37 (by decide) ?_
        refine J_iadd E dX8_begin_39 (fun x12 e13 => ?_)
        have b14 : Bd x12 34 34 := (Bd.add e13 (Bd.lit 0 0 (by decide)) (Bd.lit 34 34 (by decide)) (by decide)).w _ _ (by decide)
        refine J_bipush E 9 dX8_begin_40 (by decide) ?_
        refine J_iadd E dX8_begin_42 (fun x15 e16 => ?_)
        have b17 : Bd x15 43 43 := (Bd.add e16 b14 (Bd.lit 9 9 (by decide)) (by decide)).w _ _ (by decide)
        refine J_iload_n E dX8_begin_43 2 rfl ?_
        refine J_iadd E dX8_begin_44 (fun x18 e19 => ?_)
        have b20 : Bd x18 43 49 := (Bd.add e19 b17 b11 (by decide)).w _ _ (by decide)
        refine J_iconst E (-1) dX8_begin_45 (by decide) ?_
        refine J_iast1 E (S_X8.f1 S0) (Bd.in b20 (by decide)) dX8_begin_46 (fun v21 e22 => ?_)
        have o23 : Ok G v21 w := by rw [e22]; exact Ok.sw o2 (S_X8.f1 S0) b20 (Bd.lit (-1) (-1) (by decide)) 43 7 (by decide) (by decide +kernel)
        have k24 : True := trivial
        have f25 : Fr G [1084] v v21 := Fr.st f4 e22 (S_X8.f1 S0) rfl
        refine J_iinc E 2 1 (fun z => [(2, .int z), (0, .ref h0), (1, .int 0)]) dX8_begin_47 rfl (by decide) (by decide) (fun _ => rfl) (fun x26 e27 => ?_)
        have b28 : Bd x26 1 7 := (Bd.add e27 b11 (Bd.lit 1 1 (by decide)) (by decide)).w _ _ (by decide)
        refine J_goto E 26 dX8_begin_50 (by decide) ?_
        exact J.sub [1, 2, 0] rfl (ih26 v21 (o23) (k24) f25 (Bd.lit 0 0 (by decide)) x26 (b28.w 0 7 (by decide)) (Mu.step hmu26 e27 b11 (Bd.lit 1 1 (by decide)) (by decide)) ((kx_X8_begin_0_2 (e13) (e16) (e19) (e22) (e27) (c9)).symm.trans hK))
  have J2 : ∀ n2 : Nat, ∀ (v29 : Mv), Ok G v29 w → True → Fr G [1084] v v29 → Bd 0 0 0 → ∀ x34 : Int32, Bd x34 0 246 → Mu x34 246 n2 → K_X8_begin_0_2 G w h0 n2 v29 (0 : Int32) x34 = F_X8_begin_0 G w v h0 → J p l e rm_X8_begin_0 s m args below meth c 0 0 (MQ below (QcV D dA G (fun v1 w1 => Ok G v1 w1 ∧ True ∧ (w1 = w ∧ v1 = F_X8_begin_0 G w v h0) ∧ Fr G [1084] v v1)) args s 0 0 (dm G)) D dA G (dm G) s.heap 3 v29 w [(0, .ref h0), (1, .int 0), (2, .int x34)] 2 [] := by
    intro n2
    induction n2 with
    | zero => intro v29 o30 k31 f32 b33 x34 b35 hm hK; exact hm.zero b35 (by decide)
    | succ n2 ih2 =>
      intro v29 o30 k31 f32 b33 x34 b35 hmu2 hK
      refine J_iload_n E dX8_begin_2 2 rfl ?_
      refine J_sipush E 246 dX8_begin_3 (by decide) ?_
      refine J_icmp_ge E 24 dX8_begin_6 (by decide) (fun c37 => ?_) (fun c37 => ?_)
      · have b38 : Bd x34 246 246 := Bd.le_r c37 (Bd.lit 246 246 (by decide)) b35 246 (by decide)
        refine J_iconst E 0 dX8_begin_24 (by decide) ?_
        refine J_istore_n E [(2, .int 0), (0, .ref h0), (1, .int 0)] dX8_begin_25 rfl (by decide) rfl ?_
        exact J.sub [1, 2, 0] rfl (J26 8 v29 (o30) (k31) f32 (Bd.lit 0 0 (by decide)) 0 ((Bd.lit 0 0 (by decide)).w 0 7 (by decide)) (Mu.start _ (Bd.lit 0 0 (by decide)) (by decide)) ((kx_X8_begin_0_3 (c37)).symm.trans hK))
      · have b39 : Bd x34 0 245 := Bd.lt_l (nle c37) b35 (Bd.lit 246 246 (by decide)) 245 (by decide)
        refine J_aload_n E dX8_begin_9 0 rfl ?_
        refine J_getR E in_X8 rfl (S_X8.h S0) 1 (by decide) wd936 rfl dX8_begin_10 ?_
        refine J_iload_n E dX8_begin_13 1 rfl ?_
        refine J_iload_n E dX8_begin_14 2 rfl ?_
        refine J_iadd E dX8_begin_15 (fun x40 e41 => ?_)
        have b42 : Bd x40 0 245 := (Bd.add e41 (Bd.lit 0 0 (by decide)) b39 (by decide)).w _ _ (by decide)
        refine J_iconst E 0 dX8_begin_16 (by decide) ?_
        refine J_iast1 E (S_X8.f1 S0) (Bd.in b42 (by decide)) dX8_begin_17 (fun v43 e44 => ?_)
        have o45 : Ok G v43 w := by rw [e44]; exact Ok.sw o30 (S_X8.f1 S0) b42 (Bd.lit 0 0 (by decide)) 0 246 (by decide) (by decide +kernel)
        have k46 : True := trivial
        have f47 : Fr G [1084] v v43 := Fr.st f32 e44 (S_X8.f1 S0) rfl
        refine J_iinc E 2 1 (fun z => [(2, .int z), (0, .ref h0), (1, .int 0)]) dX8_begin_18 rfl (by decide) (by decide) (fun _ => rfl) (fun x48 e49 => ?_)
        have b50 : Bd x48 1 246 := (Bd.add e49 b39 (Bd.lit 1 1 (by decide)) (by decide)).w _ _ (by decide)
        refine J_goto E 2 dX8_begin_21 (by decide) ?_
        exact J.sub [1, 2, 0] rfl (ih2 v43 (o45) (k46) f47 (Bd.lit 0 0 (by decide)) x48 (b50.w 0 246 (by decide)) (Mu.step hmu2 e49 b39 (Bd.lit 1 1 (by decide)) (by decide)) ((kx_X8_begin_0_4 (e41) (e44) (e49) (c37)).symm.trans hK))
  have hK : K_X8_begin_0_e G w v h0 = F_X8_begin_0 G w v h0 := rfl
  refine J_iconst E 0 dX8_begin_0 (by decide) ?_
  refine J_istore_n E [(2, .int 0), (0, .ref h0), (1, .int 0)] dX8_begin_1 rfl (by decide) rfl ?_
  exact J.sub [1, 2, 0] rfl (J2 247 v (hOk) (trivial) Fr.rf (Bd.lit 0 0 (by decide)) 0 ((Bd.lit 0 0 (by decide)).w 0 246 (by decide)) (Mu.start _ (Bd.lit 0 0 (by decide)) (by decide)) ((kx_X8_begin_0_5).symm.trans hK))

def K_X8_begin_738_26 (G : Gm) (w : Mw) (h0 : Nat) : Nat → Mv → Int32 → Int32 → Mv
  | 0, _, _, _ => (fun _ _ => 0 : Mv)
  | n26 + 1, v1, x8, x6 =>
    if (7 : Int32) ≤ x6 then (v1) else ((K_X8_begin_738_26 G w h0 n26) (stv v1 (rf G h0 1) (Int32.toNatClampNeg ((((738 : Int32) + (34 : Int32)) + (9 : Int32)) + x6)) (-1 : Int32)) (738 : Int32) (x6 + (1 : Int32)))
def K_X8_begin_738_2 (G : Gm) (w : Mw) (h0 : Nat) : Nat → Mv → Int32 → Int32 → Mv
  | 0, _, _, _ => (fun _ _ => 0 : Mv)
  | n2 + 1, v29, x36, x34 =>
    if (246 : Int32) ≤ x34 then (K_X8_begin_738_26 G w h0 8 v29 (738 : Int32) (0 : Int32)) else ((K_X8_begin_738_2 G w h0 n2) (stv v29 (rf G h0 1) (Int32.toNatClampNeg ((738 : Int32) + x34)) (0 : Int32)) (738 : Int32) (x34 + (1 : Int32)))
def K_X8_begin_738_e (G : Gm) (w : Mw) (v : Mv) (h0 : Nat) : Mv :=
  K_X8_begin_738_2 G w h0 247 v (738 : Int32) (0 : Int32)
def F_X8_begin_738 (G : Gm) (w : Mw) (v : Mv) (h0 : Nat) : Mv := K_X8_begin_738_e G w v h0
set_option maxRecDepth 100000 in
theorem kx_X8_begin_738_1 {G : Gm} {w : Mw} {h0 : Nat} {n26 : Nat} {v1 : Mv} {x6 : Int32}  (k0 : (7 : Int32) ≤ x6) : K_X8_begin_738_26 G w h0 (n26 + 1) v1 (738 : Int32) x6 = v1 := by
  first | rw [K_X8_begin_738_26, if_pos k0] | simp only [K_X8_begin_738_26, if_pos k0]
set_option maxRecDepth 100000 in
theorem kx_X8_begin_738_2 {G : Gm} {w : Mw} {h0 : Nat} {n26 : Nat} {v1 : Mv} {x6 : Int32} {v21 : Mv} {x26 : Int32} {x12 : Int32} {x15 : Int32} {x18 : Int32} (a0 : x12 = (738 : Int32) + (34 : Int32)) (a1 : x15 = x12 + (9 : Int32)) (a2 : x18 = x15 + x6) (a3 : v21 = stv v1 (rf G h0 1) (Int32.toNatClampNeg x18) (-1 : Int32)) (a4 : x26 = x6 + (1 : Int32)) (k0 : ¬ ((7 : Int32) ≤ x6)) : K_X8_begin_738_26 G w h0 (n26 + 1) v1 (738 : Int32) x6 = (K_X8_begin_738_26 G w h0 n26) v21 (738 : Int32) x26 := by
  subst a4; subst a3; subst a2; subst a1; subst a0; first | rw [K_X8_begin_738_26, if_neg k0] | simp only [K_X8_begin_738_26, if_neg k0]
set_option maxRecDepth 100000 in
theorem kx_X8_begin_738_3 {G : Gm} {w : Mw} {h0 : Nat} {n2 : Nat} {v29 : Mv} {x34 : Int32}  (k0 : (246 : Int32) ≤ x34) : K_X8_begin_738_2 G w h0 (n2 + 1) v29 (738 : Int32) x34 = K_X8_begin_738_26 G w h0 8 v29 (738 : Int32) (0 : Int32) := by
  first | rw [K_X8_begin_738_2, if_pos k0] | simp only [K_X8_begin_738_2, if_pos k0]
set_option maxRecDepth 100000 in
theorem kx_X8_begin_738_4 {G : Gm} {w : Mw} {h0 : Nat} {n2 : Nat} {v29 : Mv} {x34 : Int32} {v43 : Mv} {x48 : Int32} {x40 : Int32} (a0 : x40 = (738 : Int32) + x34) (a1 : v43 = stv v29 (rf G h0 1) (Int32.toNatClampNeg x40) (0 : Int32)) (a2 : x48 = x34 + (1 : Int32)) (k0 : ¬ ((246 : Int32) ≤ x34)) : K_X8_begin_738_2 G w h0 (n2 + 1) v29 (738 : Int32) x34 = (K_X8_begin_738_2 G w h0 n2) v43 (738 : Int32) x48 := by
  subst a2; subst a1; subst a0; first | rw [K_X8_begin_738_2, if_neg k0] | simp only [K_X8_begin_738_2, if_neg k0]
set_option maxRecDepth 100000 in
theorem kx_X8_begin_738_5 {G : Gm} {w : Mw} {v : Mv} {h0 : Nat}   : K_X8_begin_738_e G w v h0 = K_X8_begin_738_2 G w h0 247 v (738 : Int32) (0 : Int32) := by
  first | rw [K_X8_begin_738_e] | simp only [K_X8_begin_738_e]
abbrev rm_X8_begin_738 : Room := { frames := 0, cells := 0, slots := 0, locals := 0 }
set_option maxHeartbeats 4000000 in
set_option maxRecDepth 100000 in
theorem ct_X8_begin_738 (l : Launch) (D : va_G) (dA : Nat → ClassId) (G : Gm) (v : Mv) (w : Mw) (hOk : Ok G v w) (h0 : Nat) (S0 : S_X8 G h0) : CtV l yX8_begin cX8_begin 3 none rm_X8_begin_738 D dA G [.ref h0, .int 738] v w (fun v1 w1 => Ok G v1 w1 ∧ True ∧ (w1 = w ∧ v1 = F_X8_begin_738 G w v h0) ∧ Fr G [1084] v v1) := by
  refine CtV.of RX8 [(0, .ref h0), (1, .int 738)] (Nat.le_of_ble_eq_true rfl) rfl (by decide) rfl ?_
  intro p e s m args below meth c E hr
  have J26 : ∀ n26 : Nat, ∀ (v1 : Mv), Ok G v1 w → True → Fr G [1084] v v1 → Bd 738 738 738 → ∀ x6 : Int32, Bd x6 0 7 → Mu x6 7 n26 → K_X8_begin_738_26 G w h0 n26 v1 (738 : Int32) x6 = F_X8_begin_738 G w v h0 → J p l e rm_X8_begin_738 s m args below meth c 0 0 (MQ below (QcV D dA G (fun v1 w1 => Ok G v1 w1 ∧ True ∧ (w1 = w ∧ v1 = F_X8_begin_738 G w v h0) ∧ Fr G [1084] v v1)) args s 0 0 (dm G)) D dA G (dm G) s.heap 3 v1 w [(0, .ref h0), (1, .int 738), (2, .int x6)] 26 [] := by
    intro n26
    induction n26 with
    | zero => intro v1 o2 k3 f4 b5 x6 b7 hm hK; exact hm.zero b7 (by decide)
    | succ n26 ih26 =>
      intro v1 o2 k3 f4 b5 x6 b7 hmu26 hK
      refine J_iload_n E dX8_begin_26 2 rfl ?_
      refine J_bipush E 7 dX8_begin_27 (by decide) ?_
      refine J_icmp_ge E 53 dX8_begin_29 (by decide) (fun c9 => ?_) (fun c9 => ?_)
      · have b10 : Bd x6 7 7 := Bd.le_r c9 (Bd.lit 7 7 (by decide)) b7 7 (by decide)
        exact J_vret E hr dX8_begin_53 ⟨o2, k3, ⟨⟨rfl, ((kx_X8_begin_738_1 (c9)).symm.trans hK)⟩, f4⟩⟩
      · have b11 : Bd x6 0 6 := Bd.lt_l (nle c9) b7 (Bd.lit 7 7 (by decide)) 6 (by decide)
        refine J_aload_n E dX8_begin_32 0 rfl ?_
        refine J_getR E in_X8 rfl (S_X8.h S0) 1 (by decide) wd936 rfl dX8_begin_33 ?_
        refine J_iload_n E dX8_begin_36 1 rfl ?_
        refine J_bipush E 34 dX8_begin_37 (by decide) ?_
        refine J_iadd E dX8_begin_39 (fun x12 e13 => ?_)
        have b14 : Bd x12 772 772 := (Bd.add e13 (Bd.lit 738 738 (by decide)) (Bd.lit 34 34 (by decide)) (by decide)).w _ _ (by decide)
        refine J_bipush E 9 dX8_begin_40 (by decide) ?_
        refine J_iadd E dX8_begin_42 (fun x15 e16 => ?_)
        have b17 : Bd x15 781 781 := (Bd.add e16 b14 (Bd.lit 9 9 (by decide)) (by decide)).w _ _ (by decide)
        refine J_iload_n E dX8_begin_43 2 rfl ?_
        refine J_iadd E dX8_begin_44 (fun x18 e19 => ?_)
        have b20 : Bd x18 781 787 := (Bd.add e19 b17 b11 (by decide)).w _ _ (by decide)
        refine J_iconst E (-1) dX8_begin_45 (by decide) ?_
        refine J_iast1 E (S_X8.f1 S0) (Bd.in b20 (by decide)) dX8_begin_46 (fun v21 e22 => ?_)
        have o23 : Ok G v21 w := by rw [e22]; exact Ok.sw o2 (S_X8.f1 S0) b20 (Bd.lit (-1) (-1) (by decide)) 781 7 (by decide) (by decide +kernel)
        have k24 : True := trivial
        have f25 : Fr G [1084] v v21 := Fr.st f4 e22 (S_X8.f1 S0) rfl
        refine J_iinc E 2 1 (fun z => [(2, .int z), (0, .ref h0), (1, .int 738)]) dX8_begin_47 rfl (by decide) (by decide) (fun _ => rfl) (fun x26 e27 => ?_)
        have b28 : Bd x26 1 7 := (Bd.add e27 b11 (Bd.lit 1 1 (by decide)) (by decide)).w _ _ (by decide)
        refine J_goto E 26 dX8_begin_50 (by decide) ?_
        exact J.sub [1, 2, 0] rfl (ih26 v21 (o23) (k24) f25 (Bd.lit 738 738 (by decide)) x26 (b28.w 0 7 (by decide)) (Mu.step hmu26 e27 b11 (Bd.lit 1 1 (by decide)) (by decide)) ((kx_X8_begin_738_2 (e13) (e16) (e19) (e22) (e27) (c9)).symm.trans hK))
  have J2 : ∀ n2 : Nat, ∀ (v29 : Mv), Ok G v29 w → True → Fr G [1084] v v29 → Bd 738 738 738 → ∀ x34 : Int32, Bd x34 0 246 → Mu x34 246 n2 → K_X8_begin_738_2 G w h0 n2 v29 (738 : Int32) x34 = F_X8_begin_738 G w v h0 → J p l e rm_X8_begin_738 s m args below meth c 0 0 (MQ below (QcV D dA G (fun v1 w1 => Ok G v1 w1 ∧ True ∧ (w1 = w ∧ v1 = F_X8_begin_738 G w v h0) ∧ Fr G [1084] v v1)) args s 0 0 (dm G)) D dA G (dm G) s.heap 3 v29 w [(0, .ref h0), (1, .int 738), (2, .int x34)] 2 [] := by
    intro n2
    induction n2 with
    | zero => intro v29 o30 k31 f32 b33 x34 b35 hm hK; exact hm.zero b35 (by decide)
    | succ n2 ih2 =>
      intro v29 o30 k31 f32 b33 x34 b35 hmu2 hK
      refine J_iload_n E dX8_begin_2 2 rfl ?_
      refine J_sipush E 246 dX8_begin_3 (by decide) ?_
      refine J_icmp_ge E 24 dX8_begin_6 (by decide) (fun c37 => ?_) (fun c37 => ?_)
      · have b38 : Bd x34 246 246 := Bd.le_r c37 (Bd.lit 246 246 (by decide)) b35 246 (by decide)
        refine J_iconst E 0 dX8_begin_24 (by decide) ?_
        refine J_istore_n E [(2, .int 0), (0, .ref h0), (1, .int 738)] dX8_begin_25 rfl (by decide) rfl ?_
        exact J.sub [1, 2, 0] rfl (J26 8 v29 (o30) (k31) f32 (Bd.lit 738 738 (by decide)) 0 ((Bd.lit 0 0 (by decide)).w 0 7 (by decide)) (Mu.start _ (Bd.lit 0 0 (by decide)) (by decide)) ((kx_X8_begin_738_3 (c37)).symm.trans hK))
      · have b39 : Bd x34 0 245 := Bd.lt_l (nle c37) b35 (Bd.lit 246 246 (by decide)) 245 (by decide)
        refine J_aload_n E dX8_begin_9 0 rfl ?_
        refine J_getR E in_X8 rfl (S_X8.h S0) 1 (by decide) wd936 rfl dX8_begin_10 ?_
        refine J_iload_n E dX8_begin_13 1 rfl ?_
        refine J_iload_n E dX8_begin_14 2 rfl ?_
        refine J_iadd E dX8_begin_15 (fun x40 e41 => ?_)
        have b42 : Bd x40 738 983 := (Bd.add e41 (Bd.lit 738 738 (by decide)) b39 (by decide)).w _ _ (by decide)
        refine J_iconst E 0 dX8_begin_16 (by decide) ?_
        refine J_iast1 E (S_X8.f1 S0) (Bd.in b42 (by decide)) dX8_begin_17 (fun v43 e44 => ?_)
        have o45 : Ok G v43 w := by rw [e44]; exact Ok.sw o30 (S_X8.f1 S0) b42 (Bd.lit 0 0 (by decide)) 738 246 (by decide) (by decide +kernel)
        have k46 : True := trivial
        have f47 : Fr G [1084] v v43 := Fr.st f32 e44 (S_X8.f1 S0) rfl
        refine J_iinc E 2 1 (fun z => [(2, .int z), (0, .ref h0), (1, .int 738)]) dX8_begin_18 rfl (by decide) (by decide) (fun _ => rfl) (fun x48 e49 => ?_)
        have b50 : Bd x48 1 246 := (Bd.add e49 b39 (Bd.lit 1 1 (by decide)) (by decide)).w _ _ (by decide)
        refine J_goto E 2 dX8_begin_21 (by decide) ?_
        exact J.sub [1, 2, 0] rfl (ih2 v43 (o45) (k46) f47 (Bd.lit 738 738 (by decide)) x48 (b50.w 0 246 (by decide)) (Mu.step hmu2 e49 b39 (Bd.lit 1 1 (by decide)) (by decide)) ((kx_X8_begin_738_4 (e41) (e44) (e49) (c37)).symm.trans hK))
  have hK : K_X8_begin_738_e G w v h0 = F_X8_begin_738 G w v h0 := rfl
  refine J_iconst E 0 dX8_begin_0 (by decide) ?_
  refine J_istore_n E [(2, .int 0), (0, .ref h0), (1, .int 738)] dX8_begin_1 rfl (by decide) rfl ?_
  exact J.sub [1, 2, 0] rfl (J2 247 v (hOk) (trivial) Fr.rf (Bd.lit 738 738 (by decide)) 0 ((Bd.lit 0 0 (by decide)).w 0 246 (by decide)) (Mu.start _ (Bd.lit 0 0 (by decide)) (by decide)) ((kx_X8_begin_738_5).symm.trans hK))

def K_X8_copyRow_2 (G : Gm) (w : Mw) (h0 : Nat) : Nat → Mv → Int32 → Int32 → Int32 → Mv
  | 0, _, _, _, _ => (fun _ _ => 0 : Mv)
  | n2 + 1, v1, x_0, x_1, x7 =>
    if (246 : Int32) ≤ x7 then (v1) else ((K_X8_copyRow_2 G w h0 n2) (stv v1 (rf G h0 1) (Int32.toNatClampNeg (x_1 + x7)) (v1 (rf G h0 1) (Int32.toNatClampNeg (x_0 + x7)))) x_0 x_1 (x7 + (1 : Int32)))
def K_X8_copyRow_e (G : Gm) (w : Mw) (v : Mv) (h0 : Nat) (x_0 : Int32) (x_1 : Int32) : Mv :=
  K_X8_copyRow_2 G w h0 247 v x_0 x_1 (0 : Int32)
def F_X8_copyRow (G : Gm) (w : Mw) (v : Mv) (h0 : Nat) (x_0 : Int32) (x_1 : Int32) : Mv := K_X8_copyRow_e G w v h0 x_0 x_1
set_option maxRecDepth 100000 in
theorem kx_X8_copyRow_1 {G : Gm} {w : Mw} {h0 : Nat} {n2 : Nat} {v1 : Mv} {x_0 : Int32} {x_1 : Int32} {x7 : Int32}  (k0 : (246 : Int32) ≤ x7) : K_X8_copyRow_2 G w h0 (n2 + 1) v1 x_0 x_1 x7 = v1 := by
  first | rw [K_X8_copyRow_2, if_pos k0] | simp only [K_X8_copyRow_2, if_pos k0]
set_option maxRecDepth 100000 in
theorem kx_X8_copyRow_2 {G : Gm} {w : Mw} {h0 : Nat} {n2 : Nat} {v1 : Mv} {x_0 : Int32} {x_1 : Int32} {x7 : Int32} {v20 : Mv} {x25 : Int32} {x15 : Int32} {x12 : Int32} {x18 : Int32} (a0 : x12 = x_1 + x7) (a1 : x15 = x_0 + x7) (a2 : x18 = v1 (rf G h0 1) (Int32.toNatClampNeg x15)) (a3 : v20 = stv v1 (rf G h0 1) (Int32.toNatClampNeg x12) x18) (a4 : x25 = x7 + (1 : Int32)) (k0 : ¬ ((246 : Int32) ≤ x7)) : K_X8_copyRow_2 G w h0 (n2 + 1) v1 x_0 x_1 x7 = (K_X8_copyRow_2 G w h0 n2) v20 x_0 x_1 x25 := by
  subst a4; subst a3; subst a2; subst a1; subst a0; first | rw [K_X8_copyRow_2, if_neg k0] | simp only [K_X8_copyRow_2, if_neg k0]
set_option maxRecDepth 100000 in
theorem kx_X8_copyRow_3 {G : Gm} {w : Mw} {v : Mv} {h0 : Nat} {x_0 : Int32} {x_1 : Int32}   : K_X8_copyRow_e G w v h0 x_0 x_1 = K_X8_copyRow_2 G w h0 247 v x_0 x_1 (0 : Int32) := by
  first | rw [K_X8_copyRow_e] | simp only [K_X8_copyRow_e]
abbrev rm_X8_copyRow : Room := { frames := 0, cells := 0, slots := 0, locals := 0 }
set_option maxHeartbeats 4000000 in
set_option maxRecDepth 100000 in
theorem ct_X8_copyRow (l : Launch) (D : va_G) (dA : Nat → ClassId) (G : Gm) (v : Mv) (w : Mw) (hOk : Ok G v w) (h0 : Nat) (S0 : S_X8 G h0) (x_0 : Int32) (bx_0 : Bd x_0 0 738) (x_1 : Int32) (bx_1 : Bd x_1 0 738) (hfr : Row x_0) (hto : Row x_1) : CtV l yX8_copyRow cX8_copyRow 4 none rm_X8_copyRow D dA G [.ref h0, .int x_0, .int x_1] v w (fun v1 w1 => Ok G v1 w1 ∧ True ∧ (w1 = w ∧ v1 = F_X8_copyRow G w v h0 x_0 x_1) ∧ Fr G [1084] v v1) := by
  refine CtV.of RX8 [(0, .ref h0), (1, .int x_0), (2, .int x_1)] (Nat.le_of_ble_eq_true rfl) rfl (by decide) rfl ?_
  intro p e s m args below meth c E hr
  have J2 : ∀ n2 : Nat, ∀ (v1 : Mv), Ok G v1 w → True → Fr G [1084] v v1 → Bd x_0 0 738 → Bd x_1 0 738 → ∀ x7 : Int32, Bd x7 0 246 → Mu x7 246 n2 → K_X8_copyRow_2 G w h0 n2 v1 x_0 x_1 x7 = F_X8_copyRow G w v h0 x_0 x_1 → J p l e rm_X8_copyRow s m args below meth c 0 0 (MQ below (QcV D dA G (fun v1 w1 => Ok G v1 w1 ∧ True ∧ (w1 = w ∧ v1 = F_X8_copyRow G w v h0 x_0 x_1) ∧ Fr G [1084] v v1)) args s 0 0 (dm G)) D dA G (dm G) s.heap 4 v1 w [(0, .ref h0), (1, .int x_0), (2, .int x_1), (3, .int x7)] 2 [] := by
    intro n2
    induction n2 with
    | zero => intro v1 o2 k3 f4 b5 b6 x7 b8 hm hK; exact hm.zero b8 (by decide)
    | succ n2 ih2 =>
      intro v1 o2 k3 f4 b5 b6 x7 b8 hmu2 hK
      refine J_iload_n E dX8_copyRow_2 3 rfl ?_
      refine J_sipush E 246 dX8_copyRow_3 (by decide) ?_
      refine J_icmp_ge E 31 dX8_copyRow_6 (by decide) (fun c9 => ?_) (fun c9 => ?_)
      · have b10 : Bd x7 246 246 := Bd.le_r c9 (Bd.lit 246 246 (by decide)) b8 246 (by decide)
        exact J_vret E hr dX8_copyRow_31 ⟨o2, k3, ⟨⟨rfl, ((kx_X8_copyRow_1 (c9)).symm.trans hK)⟩, f4⟩⟩
      · have b11 : Bd x7 0 245 := Bd.lt_l (nle c9) b8 (Bd.lit 246 246 (by decide)) 245 (by decide)
        refine J_aload_n E dX8_copyRow_9 0 rfl ?_
        refine J_getR E in_X8 rfl (S_X8.h S0) 1 (by decide) wd936 rfl dX8_copyRow_10 ?_
        refine J_iload_n E dX8_copyRow_13 2 rfl ?_
        refine J_iload_n E dX8_copyRow_14 3 rfl ?_
        refine J_iadd E dX8_copyRow_15 (fun x12 e13 => ?_)
        have b14 : Bd x12 0 983 := (Bd.add e13 b6 b11 (by decide)).w _ _ (by decide)
        refine J_aload_n E dX8_copyRow_16 0 rfl ?_
        refine J_getR E in_X8 rfl (S_X8.h S0) 1 (by decide) wd936 rfl dX8_copyRow_17 ?_
        refine J_iload_n E dX8_copyRow_20 1 rfl ?_
        refine J_iload_n E dX8_copyRow_21 3 rfl ?_
        refine J_iadd E dX8_copyRow_22 (fun x15 e16 => ?_)
        have b17 : Bd x15 0 983 := (Bd.add e16 b5 b11 (by decide)).w _ _ (by decide)
        refine J_iald1 E (S_X8.f1 S0) (Bd.in b17 (by decide)) dX8_copyRow_23 (fun x18 e19 => ?_)
        refine J_iast1 E (S_X8.f1 S0) (Bd.in b14 (by decide)) dX8_copyRow_24 (fun v20 e21 => ?_)
        have o22 : Ok G v20 w := by rw [e21]; exact Ok.cp o2 (S_X8.f1 S0) (S_X8.f1 S0) e19 (Bd.in b17 (by decide)) (Row.same hto hfr e13 e16 b11)
        have k23 : True := trivial
        have f24 : Fr G [1084] v v20 := Fr.st f4 e21 (S_X8.f1 S0) rfl
        refine J_iinc E 3 1 (fun z => [(3, .int z), (0, .ref h0), (1, .int x_0), (2, .int x_1)]) dX8_copyRow_25 rfl (by decide) (by decide) (fun _ => rfl) (fun x25 e26 => ?_)
        have b27 : Bd x25 1 246 := (Bd.add e26 b11 (Bd.lit 1 1 (by decide)) (by decide)).w _ _ (by decide)
        refine J_goto E 2 dX8_copyRow_28 (by decide) ?_
        exact J.sub [1, 2, 3, 0] rfl (ih2 v20 (o22) (k23) f24 b5 b6 x25 (b27.w 0 246 (by decide)) (Mu.step hmu2 e26 b11 (Bd.lit 1 1 (by decide)) (by decide)) ((kx_X8_copyRow_2 (e13) (e16) (e19) (e21) (e26) (c9)).symm.trans hK))
  have hK : K_X8_copyRow_e G w v h0 x_0 x_1 = F_X8_copyRow G w v h0 x_0 x_1 := rfl
  refine J_iconst E 0 dX8_copyRow_0 (by decide) ?_
  refine J_istore_n E [(3, .int 0), (0, .ref h0), (1, .int x_0), (2, .int x_1)] dX8_copyRow_1 rfl (by decide) rfl ?_
  exact J.sub [1, 2, 3, 0] rfl (J2 247 v (hOk) (trivial) Fr.rf bx_0 bx_1 0 ((Bd.lit 0 0 (by decide)).w 0 246 (by decide)) (Mu.start _ (Bd.lit 0 0 (by decide)) (by decide)) ((kx_X8_copyRow_3).symm.trans hK))

abbrev rm_X8_take : Room := { frames := 0, cells := 0, slots := 0, locals := 0 }
set_option maxHeartbeats 4000000 in
set_option maxRecDepth 100000 in
theorem ct_X8_take (l : Launch) (D : va_G) (dA : Nat → ClassId) (G : Gm) (v : Mv) (w : Mw) (hOk : Ok G v w) (h0 : Nat) (S0 : S_X8 G h0) : CtV l yX8_take cX8_take 2 none rm_X8_take D dA G [.ref h0] v w (fun v1 w1 => Ok G v1 w1 ∧ Kp G v v1 ∧ Fr G [116] v v1) := by
  refine CtV.of RX8 [(0, .ref h0)] (Nat.le_of_ble_eq_true rfl) rfl (by decide) rfl ?_
  intro p e s m args below meth c E hr
  have J2 : ∀ n2 : Nat, ∀ (v1 : Mv) (w2 : Mw), Ok G v1 w2 → Kp G v v1 → Fr G [116] v v1 → ∀ x6 : Int32, Bd x6 0 16 → Mu x6 16 n2 → J p l e rm_X8_take s m args below meth c 0 0 (MQ below (QcV D dA G (fun v1 w1 => Ok G v1 w1 ∧ Kp G v v1 ∧ Fr G [116] v v1)) args s 0 0 (dm G)) D dA G (dm G) s.heap 2 v1 w2 [(0, .ref h0), (1, .int x6)] 2 [] := by
    intro n2
    induction n2 with
    | zero => intro v1 w2 o3 k4 f5 x6 b7 hm; exact hm.zero b7 (by decide)
    | succ n2 ih2 =>
      intro v1 w2 o3 k4 f5 x6 b7 hmu2
      refine J_iload_n E dX8_take_2 1 rfl ?_
      refine J_bipush E 16 dX8_take_3 (by decide) ?_
      refine J_icmp_ge E 29 dX8_take_5 (by decide) (fun c8 => ?_) (fun c8 => ?_)
      · have b9 : Bd x6 16 16 := Bd.le_r c8 (Bd.lit 16 16 (by decide)) b7 16 (by decide)
        exact J_vret E hr dX8_take_29 ⟨o3, k4, f5⟩
      · have b10 : Bd x6 0 15 := Bd.lt_l (nle c8) b7 (Bd.lit 16 16 (by decide)) 15 (by decide)
        refine J_aload_n E dX8_take_8 0 rfl ?_
        refine J_getR E in_X8 rfl (S_X8.h S0) 3 (by decide) wd938 rfl dX8_take_9 ?_
        refine J_iload_n E dX8_take_12 1 rfl ?_
        refine J_aload_n E dX8_take_13 0 rfl ?_
        refine J_getR E in_X8 rfl (S_X8.h S0) 1 (by decide) wd936 rfl dX8_take_14 ?_
        refine J_bipush E 34 dX8_take_17 (by decide) ?_
        refine J_iload_n E dX8_take_19 1 rfl ?_
        refine J_iadd E dX8_take_20 (fun x11 e12 => ?_)
        have b13 : Bd x11 34 49 := (Bd.add e12 (Bd.lit 34 34 (by decide)) b10 (by decide)).w _ _ (by decide)
        refine J_iald1 E (S_X8.f1 S0) (Bd.in b13 (by decide)) dX8_take_21 (fun x14 e15 => ?_)
        refine J_iast1 E (S_X8.f3 S0) (Bd.in b10 (by decide)) dX8_take_22 (fun v16 e17 => ?_)
        have o18 : Ok G v16 w2 := by rw [e17]; exact Ok.cp o3 (S_X8.f3 S0) (S_X8.f1 S0) e15 (Bd.in b13 (by decide)) (by rw [ix_add e12 (Bd.lit 34 34 (by decide)) b10 (by decide)]; exact tb_take _ (ix_le b10 16 (by decide)))
        have k19 : Kp G v v16 := by rw [e17]; exact Kp.cp k4 (S_X8.f3 S0) gst_nk
        have f20 : Fr G [116] v v16 := Fr.st f5 e17 (S_X8.f3 S0) rfl
        refine J_iinc E 1 1 (fun z => [(1, .int z), (0, .ref h0)]) dX8_take_23 rfl (by decide) (by decide) (fun _ => rfl) (fun x21 e22 => ?_)
        have b23 : Bd x21 1 16 := (Bd.add e22 b10 (Bd.lit 1 1 (by decide)) (by decide)).w _ _ (by decide)
        refine J_goto E 2 dX8_take_26 (by decide) ?_
        exact J.sub [1, 0] rfl (ih2 v16 w2 (o18) (k19) f20 x21 (b23.w 0 16 (by decide)) (Mu.step hmu2 e22 b10 (Bd.lit 1 1 (by decide)) (by decide)))
  refine J_iconst E 0 dX8_take_0 (by decide) ?_
  refine J_istore_n E [(1, .int 0), (0, .ref h0)] dX8_take_1 rfl (by decide) rfl ?_
  exact J.sub [1, 0] rfl (J2 17 v w (hOk) (Kp.rf) Fr.rf 0 ((Bd.lit 0 0 (by decide)).w 0 16 (by decide)) (Mu.start _ (Bd.lit 0 0 (by decide)) (by decide)))

def K_X8_isThing_e (G : Gm) (w : Mw) (v : Mv) (h0 : Nat) (x_0 : Int32) : Int32 :=
  (F_X8_in G w v x_0 (0 : Int32) ((v (rf G h0 1) (Int32.toNatClampNeg (0 : Int32))) - (1 : Int32)))
def F_X8_isThing (G : Gm) (w : Mw) (v : Mv) (h0 : Nat) (x_0 : Int32) : Int32 := K_X8_isThing_e G w v h0 x_0
set_option maxRecDepth 100000 in
theorem kx_X8_isThing_1 {G : Gm} {w : Mw} {v : Mv} {h0 : Nat} {x_0 : Int32} {x11 : Int32} {x1 : Int32} {x5 : Int32} (a0 : x1 = v (rf G h0 1) (Int32.toNatClampNeg (0 : Int32))) (a1 : x5 = x1 - (1 : Int32)) (a2 : x11 = F_X8_in G w v x_0 (0 : Int32) x5)  : K_X8_isThing_e G w v h0 x_0 = x11 := by
  subst a2; subst a1; subst a0; first | rw [K_X8_isThing_e] | simp only [K_X8_isThing_e]
abbrev rm_X8_isThing : Room := { frames := 1, cells := 0, slots := 0, locals := 22 }
set_option maxHeartbeats 4000000 in
set_option maxRecDepth 100000 in
theorem ct_X8_isThing (l : Launch) (D : va_G) (dA : Nat → ClassId) (G : Gm) (v : Mv) (w : Mw) (hOk : Ok G v w) (h0 : Nat) (S0 : S_X8 G h0) (x_0 : Int32) : CtI l yX8_isThing cX8_isThing 2 (some .boolean) rm_X8_isThing D dA G [.ref h0, .int x_0] v w (fun r v1 w1 => v1 = v ∧ w1 = w ∧ Bd r 0 1 ∧ (r = 0 ∨ Bd x_0 0 6) ∧ r = F_X8_isThing G w v h0 x_0) := by
  refine CtI.of RX8 [(0, .ref h0), (1, .int x_0)] (Nat.le_of_ble_eq_true rfl) rfl (by decide) rfl ?_
  intro p e s m args below meth c E hr
  have hK : K_X8_isThing_e G w v h0 x_0 = F_X8_isThing G w v h0 x_0 := rfl
  refine J_iload_n E dX8_isThing_0 1 rfl ?_
  refine J_iconst E 0 dX8_isThing_1 (by decide) ?_
  refine J_aload_n E dX8_isThing_2 0 rfl ?_
  refine J_getR E in_X8 rfl (S_X8.h S0) 1 (by decide) wd936 rfl dX8_isThing_3 ?_
  refine J_iconst E 0 dX8_isThing_6 (by decide) ?_
  refine J_iald1 E (S_X8.f1 S0) (Bd.in (Bd.lit 0 0 (by decide)) (by decide)) dX8_isThing_7 (fun x1 e2 => ?_)
  have b3 : Bd x1 0 7 := Bd.e (Ok.ld hOk (S_X8.f1 S0) (Bd.lit 0 0 (by decide)) 0 1 0 7 (by decide) (by decide +kernel)) e2
  have e4 : x1 = v (rf G h0 1) 0 := by rw [e2, Bd.ix (Bd.lit 0 0 (by decide)) 0 rfl]
  refine J_iconst E 1 dX8_isThing_8 (by decide) ?_
  refine J_isub E dX8_isThing_9 (fun x5 e6 => ?_)
  have b7 : Bd x5 (-1) 6 := (Bd.sub e6 b3 (Bd.lit 1 1 (by decide)) (by decide)).w _ _ (by decide)
  refine J_callSI E cal_X8_in wd996 [.int x_0, .int 0, .int x5] [] (ct_X8_in l D dA G v w (hOk) x_0 0 x5) rfl rfl (Nat.le_of_ble_eq_true rfl) ⟨rfl, rfl⟩ ⟨Nat.le_of_ble_eq_true rfl, Nat.le_of_ble_eq_true rfl⟩ dX8_isThing_10 (fun x11 v8 w9 p10 => ?_)
  rw [p10.1, p10.2.1]
  have b12 : Bd x11 0 1 := p10.2.2.1
  have e13 : x11 = F_X8_in G w v x_0 (0 : Int32) x5 := (p10.2.2.2.2.2)
  exact J_zret E hr (Bd.z b12 (by decide)) dX8_isThing_13 ⟨rfl, rfl, b12, ⟨((p10.2.2.2.1).imp_right (fun g9 => Bd.le_l g9.2 (Bd.le_r g9.1 (Bd.lit 0 0 (by decide)) (Bd.any x_0) 0 (by decide)) b7 6 (by decide))), ((kx_X8_isThing_1 (e2) (e6) (e13)).symm.trans hK)⟩⟩

def K_X8_isOne_e (G : Gm) (w : Mw) (v : Mv) (h0 : Nat) (x_0 : Int32) : Int32 :=
  (F_X8_in G w v x_0 (0 : Int32) ((v (rf G h0 1) (Int32.toNatClampNeg (1 : Int32))) - (1 : Int32)))
def F_X8_isOne (G : Gm) (w : Mw) (v : Mv) (h0 : Nat) (x_0 : Int32) : Int32 := K_X8_isOne_e G w v h0 x_0
set_option maxRecDepth 100000 in
theorem kx_X8_isOne_1 {G : Gm} {w : Mw} {v : Mv} {h0 : Nat} {x_0 : Int32} {x11 : Int32} {x1 : Int32} {x5 : Int32} (a0 : x1 = v (rf G h0 1) (Int32.toNatClampNeg (1 : Int32))) (a1 : x5 = x1 - (1 : Int32)) (a2 : x11 = F_X8_in G w v x_0 (0 : Int32) x5)  : K_X8_isOne_e G w v h0 x_0 = x11 := by
  subst a2; subst a1; subst a0; first | rw [K_X8_isOne_e] | simp only [K_X8_isOne_e]
abbrev rm_X8_isOne : Room := { frames := 1, cells := 0, slots := 0, locals := 22 }
set_option maxHeartbeats 4000000 in
set_option maxRecDepth 100000 in
theorem ct_X8_isOne (l : Launch) (D : va_G) (dA : Nat → ClassId) (G : Gm) (v : Mv) (w : Mw) (hOk : Ok G v w) (h0 : Nat) (S0 : S_X8 G h0) (x_0 : Int32) : CtI l yX8_isOne cX8_isOne 2 (some .boolean) rm_X8_isOne D dA G [.ref h0, .int x_0] v w (fun r v1 w1 => v1 = v ∧ w1 = w ∧ Bd r 0 1 ∧ (r = 0 ∨ Bd x_0 0 6) ∧ r = F_X8_isOne G w v h0 x_0) := by
  refine CtI.of RX8 [(0, .ref h0), (1, .int x_0)] (Nat.le_of_ble_eq_true rfl) rfl (by decide) rfl ?_
  intro p e s m args below meth c E hr
  have hK : K_X8_isOne_e G w v h0 x_0 = F_X8_isOne G w v h0 x_0 := rfl
  refine J_iload_n E dX8_isOne_0 1 rfl ?_
  refine J_iconst E 0 dX8_isOne_1 (by decide) ?_
  refine J_aload_n E dX8_isOne_2 0 rfl ?_
  refine J_getR E in_X8 rfl (S_X8.h S0) 1 (by decide) wd936 rfl dX8_isOne_3 ?_
  refine J_iconst E 1 dX8_isOne_6 (by decide) ?_
  refine J_iald1 E (S_X8.f1 S0) (Bd.in (Bd.lit 1 1 (by decide)) (by decide)) dX8_isOne_7 (fun x1 e2 => ?_)
  have b3 : Bd x1 0 7 := Bd.e (Ok.ld hOk (S_X8.f1 S0) (Bd.lit 1 1 (by decide)) 1 1 0 7 (by decide) (by decide +kernel)) e2
  have e4 : x1 = v (rf G h0 1) 1 := by rw [e2, Bd.ix (Bd.lit 1 1 (by decide)) 1 rfl]
  refine J_iconst E 1 dX8_isOne_8 (by decide) ?_
  refine J_isub E dX8_isOne_9 (fun x5 e6 => ?_)
  have b7 : Bd x5 (-1) 6 := (Bd.sub e6 b3 (Bd.lit 1 1 (by decide)) (by decide)).w _ _ (by decide)
  refine J_callSI E cal_X8_in wd996 [.int x_0, .int 0, .int x5] [] (ct_X8_in l D dA G v w (hOk) x_0 0 x5) rfl rfl (Nat.le_of_ble_eq_true rfl) ⟨rfl, rfl⟩ ⟨Nat.le_of_ble_eq_true rfl, Nat.le_of_ble_eq_true rfl⟩ dX8_isOne_10 (fun x11 v8 w9 p10 => ?_)
  rw [p10.1, p10.2.1]
  have b12 : Bd x11 0 1 := p10.2.2.1
  have e13 : x11 = F_X8_in G w v x_0 (0 : Int32) x5 := (p10.2.2.2.2.2)
  exact J_zret E hr (Bd.z b12 (by decide)) dX8_isOne_13 ⟨rfl, rfl, b12, ⟨((p10.2.2.2.1).imp_right (fun g9 => Bd.le_l g9.2 (Bd.le_r g9.1 (Bd.lit 0 0 (by decide)) (Bd.any x_0) 0 (by decide)) b7 6 (by decide))), ((kx_X8_isOne_1 (e2) (e6) (e13)).symm.trans hK)⟩⟩

def K_X8_weighsBy_e (G : Gm) (w : Mw) (v : Mv) (x_0 : Int32) (x_1 : Int32) (x_2 : Int32) : Int32 :=
  if Int32.toInt x_0 = 0 then (x_1) else if Int32.toInt x_0 = 1 then ((x_1 + (6 : Int32))) else if Int32.toInt x_0 = 2 then (((x_1 + (1 : Int32)) / (2 : Int32))) else if Int32.toInt x_0 = 3 then (if (x_2 / (10 : Int32)) ≤ (20 : Int32) then (((x_1 + (6 : Int32)) + (x_2 / (10 : Int32)))) else (((x_1 + (6 : Int32)) + (20 : Int32)))) else if Int32.toInt x_0 = 4 then (if (x_2 - x_2 / (2 : Int32) * (2 : Int32)) = (1 : Int32) then ((((x_1 + (1 : Int32)) / (2 : Int32)) + (9 : Int32))) else ((((x_1 + (1 : Int32)) / (2 : Int32)) + (0 : Int32)))) else ((((2 : Int32) * ((x_1 + (1 : Int32)) / (2 : Int32))) - (1 : Int32)))
def F_X8_weighsBy (G : Gm) (w : Mw) (v : Mv) (x_0 : Int32) (x_1 : Int32) (x_2 : Int32) : Int32 := K_X8_weighsBy_e G w v x_0 x_1 x_2
set_option maxRecDepth 100000 in
theorem kx_X8_weighsBy_1 {G : Gm} {w : Mw} {v : Mv} {x_0 : Int32} {x_1 : Int32} {x_2 : Int32}  (k0 : Int32.toInt x_0 = 0) : K_X8_weighsBy_e G w v x_0 x_1 x_2 = x_1 := by
  first | rw [K_X8_weighsBy_e, if_pos k0] | simp only [K_X8_weighsBy_e, if_pos k0]
set_option maxRecDepth 100000 in
theorem kx_X8_weighsBy_2 {G : Gm} {w : Mw} {v : Mv} {x_0 : Int32} {x_1 : Int32} {x_2 : Int32} {x9 : Int32} (a0 : x9 = x_1 + (6 : Int32)) (k0 : ¬ (Int32.toInt x_0 = 0)) (k1 : Int32.toInt x_0 = 1) : K_X8_weighsBy_e G w v x_0 x_1 x_2 = x9 := by
  subst a0; first | rw [K_X8_weighsBy_e, if_neg k0, if_pos k1] | simp only [K_X8_weighsBy_e, if_neg k0, if_pos k1]
set_option maxRecDepth 100000 in
theorem kx_X8_weighsBy_3 {G : Gm} {w : Mw} {v : Mv} {x_0 : Int32} {x_1 : Int32} {x_2 : Int32} {x3 : Int32} {x1 : Int32} (a0 : x1 = x_1 + (1 : Int32)) (a1 : x3 = x1 / (2 : Int32)) (k0 : ¬ (Int32.toInt x_0 = 0)) (k1 : ¬ (Int32.toInt x_0 = 1)) (k2 : Int32.toInt x_0 = 2) : K_X8_weighsBy_e G w v x_0 x_1 x_2 = x3 := by
  subst a1; subst a0; first | rw [K_X8_weighsBy_e, if_neg k0, if_neg k1, if_pos k2] | simp only [K_X8_weighsBy_e, if_neg k0, if_neg k1, if_pos k2]
set_option maxRecDepth 100000 in
theorem kx_X8_weighsBy_4 {G : Gm} {w : Mw} {v : Mv} {x_0 : Int32} {x_1 : Int32} {x_2 : Int32} {x23 : Int32} {x15 : Int32} {x21 : Int32} {x17 : Int32} (a0 : x15 = x_1 + (6 : Int32)) (a1 : x17 = x_2 / (10 : Int32)) (a2 : x21 = x_2 / (10 : Int32)) (a3 : x23 = x15 + x21) (k0 : ¬ (Int32.toInt x_0 = 0)) (k1 : ¬ (Int32.toInt x_0 = 1)) (k2 : ¬ (Int32.toInt x_0 = 2)) (k3 : Int32.toInt x_0 = 3) (k4 : x17 ≤ (20 : Int32)) : K_X8_weighsBy_e G w v x_0 x_1 x_2 = x23 := by
  subst a3; subst a2; subst a1; subst a0; first | rw [K_X8_weighsBy_e, if_neg k0, if_neg k1, if_neg k2, if_pos k3, if_pos k4] | simp only [K_X8_weighsBy_e, if_neg k0, if_neg k1, if_neg k2, if_pos k3, if_pos k4]
set_option maxRecDepth 100000 in
theorem kx_X8_weighsBy_5 {G : Gm} {w : Mw} {v : Mv} {x_0 : Int32} {x_1 : Int32} {x_2 : Int32} {x26 : Int32} {x15 : Int32} {x17 : Int32} (a0 : x15 = x_1 + (6 : Int32)) (a1 : x17 = x_2 / (10 : Int32)) (a2 : x26 = x15 + (20 : Int32)) (k0 : ¬ (Int32.toInt x_0 = 0)) (k1 : ¬ (Int32.toInt x_0 = 1)) (k2 : ¬ (Int32.toInt x_0 = 2)) (k3 : Int32.toInt x_0 = 3) (k4 : ¬ (x17 ≤ (20 : Int32))) : K_X8_weighsBy_e G w v x_0 x_1 x_2 = x26 := by
  subst a2; subst a1; subst a0; first | rw [K_X8_weighsBy_e, if_neg k0, if_neg k1, if_neg k2, if_pos k3, if_neg k4] | simp only [K_X8_weighsBy_e, if_neg k0, if_neg k1, if_neg k2, if_pos k3, if_neg k4]
set_option maxRecDepth 100000 in
theorem kx_X8_weighsBy_6 {G : Gm} {w : Mw} {v : Mv} {x_0 : Int32} {x_1 : Int32} {x_2 : Int32} {x35 : Int32} {x1 : Int32} {x3 : Int32} {x30 : Int32} (a0 : x1 = x_1 + (1 : Int32)) (a1 : x3 = x1 / (2 : Int32)) (a2 : x30 = x_2 - x_2 / (2 : Int32) * (2 : Int32)) (a3 : x35 = x3 + (0 : Int32)) (k0 : ¬ (Int32.toInt x_0 = 0)) (k1 : ¬ (Int32.toInt x_0 = 1)) (k2 : ¬ (Int32.toInt x_0 = 2)) (k3 : ¬ (Int32.toInt x_0 = 3)) (k4 : Int32.toInt x_0 = 4) (k5 : ¬ (x30 = (1 : Int32))) : K_X8_weighsBy_e G w v x_0 x_1 x_2 = x35 := by
  subst a3; subst a2; subst a1; subst a0; first | rw [K_X8_weighsBy_e, if_neg k0, if_neg k1, if_neg k2, if_neg k3, if_pos k4, if_neg k5] | simp only [K_X8_weighsBy_e, if_neg k0, if_neg k1, if_neg k2, if_neg k3, if_pos k4, if_neg k5]
set_option maxRecDepth 100000 in
theorem kx_X8_weighsBy_7 {G : Gm} {w : Mw} {v : Mv} {x_0 : Int32} {x_1 : Int32} {x_2 : Int32} {x38 : Int32} {x1 : Int32} {x3 : Int32} {x30 : Int32} (a0 : x1 = x_1 + (1 : Int32)) (a1 : x3 = x1 / (2 : Int32)) (a2 : x30 = x_2 - x_2 / (2 : Int32) * (2 : Int32)) (a3 : x38 = x3 + (9 : Int32)) (k0 : ¬ (Int32.toInt x_0 = 0)) (k1 : ¬ (Int32.toInt x_0 = 1)) (k2 : ¬ (Int32.toInt x_0 = 2)) (k3 : ¬ (Int32.toInt x_0 = 3)) (k4 : Int32.toInt x_0 = 4) (k5 : x30 = (1 : Int32)) : K_X8_weighsBy_e G w v x_0 x_1 x_2 = x38 := by
  subst a3; subst a2; subst a1; subst a0; first | rw [K_X8_weighsBy_e, if_neg k0, if_neg k1, if_neg k2, if_neg k3, if_pos k4, if_pos k5] | simp only [K_X8_weighsBy_e, if_neg k0, if_neg k1, if_neg k2, if_neg k3, if_pos k4, if_pos k5]
set_option maxRecDepth 100000 in
theorem kx_X8_weighsBy_8 {G : Gm} {w : Mw} {v : Mv} {x_0 : Int32} {x_1 : Int32} {x_2 : Int32} {x42 : Int32} {x1 : Int32} {x3 : Int32} {x40 : Int32} (a0 : x1 = x_1 + (1 : Int32)) (a1 : x3 = x1 / (2 : Int32)) (a2 : x40 = (2 : Int32) * x3) (a3 : x42 = x40 - (1 : Int32)) (k0 : ¬ (Int32.toInt x_0 = 0)) (k1 : ¬ (Int32.toInt x_0 = 1)) (k2 : ¬ (Int32.toInt x_0 = 2)) (k3 : ¬ (Int32.toInt x_0 = 3)) (k4 : ¬ (Int32.toInt x_0 = 4)) : K_X8_weighsBy_e G w v x_0 x_1 x_2 = x42 := by
  subst a3; subst a2; subst a1; subst a0; first | rw [K_X8_weighsBy_e, if_neg k0, if_neg k1, if_neg k2, if_neg k3, if_neg k4] | simp only [K_X8_weighsBy_e, if_neg k0, if_neg k1, if_neg k2, if_neg k3, if_neg k4]
abbrev rm_X8_weighsBy : Room := { frames := 0, cells := 0, slots := 0, locals := 0 }
set_option maxHeartbeats 4000000 in
set_option maxRecDepth 100000 in
theorem ct_X8_weighsBy (l : Launch) (D : va_G) (dA : Nat → ClassId) (G : Gm) (v : Mv) (w : Mw) (hOk : Ok G v w) (x_0 : Int32) (x_1 : Int32) (x_2 : Int32) : CtI l yX8_weighsBy cX8_weighsBy 4 (some .int) rm_X8_weighsBy D dA G [.int x_0, .int x_1, .int x_2] v w (fun r v1 w1 => v1 = v ∧ w1 = w ∧ True ∧ r = F_X8_weighsBy G w v x_0 x_1 x_2) := by
  refine CtI.of RX8 [(0, .int x_0), (1, .int x_1), (2, .int x_2)] (Nat.le_of_ble_eq_true rfl) rfl (by decide) rfl ?_
  intro p e s m args below meth c E hr
  have hK : K_X8_weighsBy_e G w v x_0 x_1 x_2 = F_X8_weighsBy G w v x_0 x_1 x_2 := rfl
  refine J_iload_n E dX8_weighsBy_0 1 rfl ?_
  refine J_iconst E 1 dX8_weighsBy_1 (by decide) ?_
  refine J_iadd E dX8_weighsBy_2 (fun x1 e2 => ?_)
  refine J_iconst E 2 dX8_weighsBy_3 (by decide) ?_
  refine J_idiv E dX8_weighsBy_4 (Bd.nz (Bd.lit 2 2 (by decide)) (by decide)) (fun x3 e4 => ?_)
  refine J_istore_n E [(3, .int x3), (0, .int x_0), (1, .int x_1), (2, .int x_2)] dX8_weighsBy_5 rfl (by decide) rfl ?_
  refine J_iload_n E dX8_weighsBy_6 1 rfl ?_
  by_cases h5 : x_0.toInt = 0
  · refine J_tabIn E 0 40 dX8_weighsBy_7 h5 (by decide) (by decide) rfl (by decide) ?_
    have b6 : Bd x_0 0 0 := ⟨by omega, by omega⟩
    refine J_iload_n E dX8_weighsBy_40 2 rfl ?_
    exact J_iret E hr dX8_weighsBy_41 ⟨rfl, rfl, trivial, ((kx_X8_weighsBy_1 (h5)).symm.trans hK)⟩
  by_cases h7 : x_0.toInt = 1
  · refine J_tabIn E 1 42 dX8_weighsBy_7 h7 (by decide) (by decide) rfl (by decide) ?_
    have b8 : Bd x_0 1 1 := ⟨by omega, by omega⟩
    refine J_iload_n E dX8_weighsBy_42 2 rfl ?_
    refine J_bipush E 6 dX8_weighsBy_43 (by decide) ?_
    refine J_iadd E dX8_weighsBy_45 (fun x9 e10 => ?_)
    exact J_iret E hr dX8_weighsBy_46 ⟨rfl, rfl, trivial, ((kx_X8_weighsBy_2 (e10) (h5) (h7)).symm.trans hK)⟩
  by_cases h11 : x_0.toInt = 2
  · refine J_tabIn E 2 47 dX8_weighsBy_7 h11 (by decide) (by decide) rfl (by decide) ?_
    have b12 : Bd x_0 2 2 := ⟨by omega, by omega⟩
    refine J_iload_n E dX8_weighsBy_47 0 rfl ?_
    exact J_iret E hr dX8_weighsBy_48 ⟨rfl, rfl, trivial, ((kx_X8_weighsBy_3 (e2) (e4) (h5) (h7) (h11)).symm.trans hK)⟩
  by_cases h13 : x_0.toInt = 3
  · refine J_tabIn E 3 49 dX8_weighsBy_7 h13 (by decide) (by decide) rfl (by decide) ?_
    have b14 : Bd x_0 3 3 := ⟨by omega, by omega⟩
    refine J_iload_n E dX8_weighsBy_49 2 rfl ?_
    refine J_bipush E 6 dX8_weighsBy_50 (by decide) ?_
    refine J_iadd E dX8_weighsBy_52 (fun x15 e16 => ?_)
    refine J_iload_n E dX8_weighsBy_53 3 rfl ?_
    refine J_bipush E 10 dX8_weighsBy_54 (by decide) ?_
    refine J_idiv E dX8_weighsBy_56 (Bd.nz (Bd.lit 10 10 (by decide)) (by decide)) (fun x17 e18 => ?_)
    refine J_bipush E 20 dX8_weighsBy_57 (by decide) ?_
    refine J_icmp_le E 67 dX8_weighsBy_59 (by decide) (fun c19 => ?_) (fun c19 => ?_)
    · have b20 : Bd x17 I0 20 := Bd.le_l c19 (Bd.any x17) (Bd.lit 20 20 (by decide)) 20 (by decide)
      refine J_iload_n E dX8_weighsBy_67 3 rfl ?_
      refine J_bipush E 10 dX8_weighsBy_68 (by decide) ?_
      refine J_idiv E dX8_weighsBy_70 (Bd.nz (Bd.lit 10 10 (by decide)) (by decide)) (fun x21 e22 => ?_)
      refine J_iadd E dX8_weighsBy_71 (fun x23 e24 => ?_)
      exact J_iret E hr dX8_weighsBy_72 ⟨rfl, rfl, trivial, ((kx_X8_weighsBy_4 (e16) (e18) (e22) (e24) (h5) (h7) (h11) (h13) (c19)).symm.trans hK)⟩
    · have b25 : Bd x17 21 I1 := Bd.lt_r (nle c19) (Bd.lit 20 20 (by decide)) (Bd.any x17) 21 (by decide)
      refine J_bipush E 20 dX8_weighsBy_62 (by decide) ?_
      refine J_goto E 71 dX8_weighsBy_64 (by decide) ?_
      refine J_iadd E dX8_weighsBy_71 (fun x26 e27 => ?_)
      exact J_iret E hr dX8_weighsBy_72 ⟨rfl, rfl, trivial, ((kx_X8_weighsBy_5 (e16) (e18) (e27) (h5) (h7) (h11) (h13) (c19)).symm.trans hK)⟩
  by_cases h28 : x_0.toInt = 4
  · refine J_tabIn E 4 73 dX8_weighsBy_7 h28 (by decide) (by decide) rfl (by decide) ?_
    have b29 : Bd x_0 4 4 := ⟨by omega, by omega⟩
    refine J_iload_n E dX8_weighsBy_73 0 rfl ?_
    refine J_iload_n E dX8_weighsBy_74 3 rfl ?_
    refine J_iconst E 2 dX8_weighsBy_75 (by decide) ?_
    refine J_irem E dX8_weighsBy_76 (Bd.nz (Bd.lit 2 2 (by decide)) (by decide)) (fun x30 e31 => ?_)
    have b32 : Bd x30 (-1) 1 := (Bd.rem e31 (Bd.lit 2 2 (by decide)) (by decide)).w _ _ (by decide)
    refine J_iconst E 1 dX8_weighsBy_77 (by decide) ?_
    refine J_icmp_ne E 86 dX8_weighsBy_78 (by decide) (fun c33 => ?_) (fun c33 => ?_)
    · have b34 : Bd x30 (-1) 0 := (Bd.ne_hi c33 b32 (Bd.lit 1 1 (by decide))).w _ _ (by decide)
      refine J_iconst E 0 dX8_weighsBy_86 (by decide) ?_
      refine J_iadd E dX8_weighsBy_87 (fun x35 e36 => ?_)
      exact J_iret E hr dX8_weighsBy_88 ⟨rfl, rfl, trivial, ((kx_X8_weighsBy_6 (e2) (e4) (e31) (e36) (h5) (h7) (h11) (h13) (h28) (c33)).symm.trans hK)⟩
    · have b37 : Bd x30 1 1 := Bd.eq_l c33 b32 (Bd.lit 1 1 (by decide)) 1 1 (by decide)
      refine J_bipush E 9 dX8_weighsBy_81 (by decide) ?_
      refine J_goto E 87 dX8_weighsBy_83 (by decide) ?_
      refine J_iadd E dX8_weighsBy_87 (fun x38 e39 => ?_)
      exact J_iret E hr dX8_weighsBy_88 ⟨rfl, rfl, trivial, ((kx_X8_weighsBy_7 (e2) (e4) (e31) (e39) (h5) (h7) (h11) (h13) (h28) (c33)).symm.trans hK)⟩
  refine J_tabOut (x := x_0) E 89 dX8_weighsBy_7 (by have := (Bd.any x_0); simp only [Bd, I0, I1] at this; omega) (by decide) ?_
  refine J_iconst E 2 dX8_weighsBy_89 (by decide) ?_
  refine J_iload_n E dX8_weighsBy_90 0 rfl ?_
  refine J_imul E dX8_weighsBy_91 (fun x40 e41 => ?_)
  refine J_iconst E 1 dX8_weighsBy_92 (by decide) ?_
  refine J_isub E dX8_weighsBy_93 (fun x42 e43 => ?_)
  exact J_iret E hr dX8_weighsBy_94 ⟨rfl, rfl, trivial, ((kx_X8_weighsBy_8 (e2) (e4) (e41) (e43) (h5) (h7) (h11) (h13) (h28)).symm.trans hK)⟩

def K_X8_liftsBy_136 (G : Gm) (w : Mw) (v : Mv) (x1 : Int32) (x3 : Int32) : Int32 :=
  if (0 : Int32) ≤ (x3 - x1) then ((x3 - x1)) else ((0 : Int32))
def K_X8_liftsBy_81 (G : Gm) (w : Mw) (v : Mv) (x9 : Int32) : Int32 :=
  if (0 : Int32) ≤ x9 then (x9) else ((0 : Int32))
def K_X8_liftsBy_15 (G : Gm) (w : Mw) (v : Mv) (x_0 : Int32) (x_2 : Int32) (x13 : Int32) (x15 : Int32) : Int32 :=
  if Int32.toInt x_0 = 0 then ((x15 + (x13 / (3 : Int32)))) else if Int32.toInt x_0 = 1 then (((x15 + (x13 / (3 : Int32))) + (8 : Int32))) else if Int32.toInt x_0 = 2 then (((x15 + (x13 / (3 : Int32))) / (2 : Int32))) else if Int32.toInt x_0 = 3 then (if (18 : Int32) ≤ x_2 then (K_X8_liftsBy_81 G w v (x15 + (x13 / (3 : Int32)))) else (K_X8_liftsBy_81 G w v ((x15 + (x13 / (3 : Int32))) - (6 : Int32)))) else if Int32.toInt x_0 = 4 then (if (x_2 - x_2 / (10 : Int32) * (10 : Int32)) = (5 : Int32) then (((2 : Int32) * ((x15 + (x13 / (3 : Int32))) + (8 : Int32)))) else (((x15 + (x13 / (3 : Int32))) + (8 : Int32)))) else (if x_2 ≤ (60 : Int32) then (K_X8_liftsBy_136 G w v (0 : Int32) ((x15 + (x13 / (3 : Int32))) / (2 : Int32))) else (K_X8_liftsBy_136 G w v ((x_2 - (60 : Int32)) / (5 : Int32)) ((x15 + (x13 / (3 : Int32))) / (2 : Int32))))
def K_X8_liftsBy_e (G : Gm) (w : Mw) (v : Mv) (x_0 : Int32) (x_1 : Int32) (x_2 : Int32) : Int32 :=
  if x_2 ≤ (30 : Int32) then (K_X8_liftsBy_15 G w v x_0 x_2 x_2 ((2 : Int32) * x_1)) else (K_X8_liftsBy_15 G w v x_0 x_2 (30 : Int32) ((2 : Int32) * x_1))
def F_X8_liftsBy (G : Gm) (w : Mw) (v : Mv) (x_0 : Int32) (x_1 : Int32) (x_2 : Int32) : Int32 := K_X8_liftsBy_e G w v x_0 x_1 x_2
set_option maxRecDepth 100000 in
theorem kx_X8_liftsBy_1 {G : Gm} {w : Mw} {v : Mv} {x1 : Int32} {x3 : Int32} {x4 : Int32} (a0 : x4 = x3 - x1) (k0 : (0 : Int32) ≤ x4) : K_X8_liftsBy_136 G w v x1 x3 = x4 := by
  subst a0; first | rw [K_X8_liftsBy_136, if_pos k0] | simp only [K_X8_liftsBy_136, if_pos k0]
set_option maxRecDepth 100000 in
theorem kx_X8_liftsBy_2 {G : Gm} {w : Mw} {v : Mv} {x1 : Int32} {x3 : Int32} {x4 : Int32} (a0 : x4 = x3 - x1) (k0 : ¬ ((0 : Int32) ≤ x4)) : K_X8_liftsBy_136 G w v x1 x3 = (0 : Int32) := by
  subst a0; first | rw [K_X8_liftsBy_136, if_neg k0] | simp only [K_X8_liftsBy_136, if_neg k0]
set_option maxRecDepth 100000 in
theorem kx_X8_liftsBy_3 {G : Gm} {w : Mw} {v : Mv} {x9 : Int32}  (k0 : (0 : Int32) ≤ x9) : K_X8_liftsBy_81 G w v x9 = x9 := by
  first | rw [K_X8_liftsBy_81, if_pos k0] | simp only [K_X8_liftsBy_81, if_pos k0]
set_option maxRecDepth 100000 in
theorem kx_X8_liftsBy_4 {G : Gm} {w : Mw} {v : Mv} {x9 : Int32}  (k0 : ¬ ((0 : Int32) ≤ x9)) : K_X8_liftsBy_81 G w v x9 = (0 : Int32) := by
  first | rw [K_X8_liftsBy_81, if_neg k0] | simp only [K_X8_liftsBy_81, if_neg k0]
set_option maxRecDepth 100000 in
theorem kx_X8_liftsBy_5 {G : Gm} {w : Mw} {v : Mv} {x_0 : Int32} {x_2 : Int32} {x13 : Int32} {x15 : Int32} {x18 : Int32} {x16 : Int32} (a0 : x16 = x13 / (3 : Int32)) (a1 : x18 = x15 + x16) (k0 : Int32.toInt x_0 = 0) : K_X8_liftsBy_15 G w v x_0 x_2 x13 x15 = x18 := by
  subst a1; subst a0; first | rw [K_X8_liftsBy_15, if_pos k0] | simp only [K_X8_liftsBy_15, if_pos k0]
set_option maxRecDepth 100000 in
theorem kx_X8_liftsBy_6 {G : Gm} {w : Mw} {v : Mv} {x_0 : Int32} {x_2 : Int32} {x13 : Int32} {x15 : Int32} {x24 : Int32} {x16 : Int32} {x18 : Int32} (a0 : x16 = x13 / (3 : Int32)) (a1 : x18 = x15 + x16) (a2 : x24 = x18 + (8 : Int32)) (k0 : ¬ (Int32.toInt x_0 = 0)) (k1 : Int32.toInt x_0 = 1) : K_X8_liftsBy_15 G w v x_0 x_2 x13 x15 = x24 := by
  subst a2; subst a1; subst a0; first | rw [K_X8_liftsBy_15, if_neg k0, if_pos k1] | simp only [K_X8_liftsBy_15, if_neg k0, if_pos k1]
set_option maxRecDepth 100000 in
theorem kx_X8_liftsBy_7 {G : Gm} {w : Mw} {v : Mv} {x_0 : Int32} {x_2 : Int32} {x13 : Int32} {x15 : Int32} {x28 : Int32} {x16 : Int32} {x18 : Int32} (a0 : x16 = x13 / (3 : Int32)) (a1 : x18 = x15 + x16) (a2 : x28 = x18 / (2 : Int32)) (k0 : ¬ (Int32.toInt x_0 = 0)) (k1 : ¬ (Int32.toInt x_0 = 1)) (k2 : Int32.toInt x_0 = 2) : K_X8_liftsBy_15 G w v x_0 x_2 x13 x15 = x28 := by
  subst a2; subst a1; subst a0; first | rw [K_X8_liftsBy_15, if_neg k0, if_neg k1, if_pos k2] | simp only [K_X8_liftsBy_15, if_neg k0, if_neg k1, if_pos k2]
set_option maxRecDepth 100000 in
theorem kx_X8_liftsBy_8 {G : Gm} {w : Mw} {v : Mv} {x_0 : Int32} {x_2 : Int32} {x13 : Int32} {x15 : Int32} {x18 : Int32} {x16 : Int32} (a0 : x16 = x13 / (3 : Int32)) (a1 : x18 = x15 + x16) (k0 : ¬ (Int32.toInt x_0 = 0)) (k1 : ¬ (Int32.toInt x_0 = 1)) (k2 : ¬ (Int32.toInt x_0 = 2)) (k3 : Int32.toInt x_0 = 3) (k4 : (18 : Int32) ≤ x_2) : K_X8_liftsBy_15 G w v x_0 x_2 x13 x15 = K_X8_liftsBy_81 G w v x18 := by
  subst a1; subst a0; first | rw [K_X8_liftsBy_15, if_neg k0, if_neg k1, if_neg k2, if_pos k3, if_pos k4] | simp only [K_X8_liftsBy_15, if_neg k0, if_neg k1, if_neg k2, if_pos k3, if_pos k4]
set_option maxRecDepth 100000 in
theorem kx_X8_liftsBy_9 {G : Gm} {w : Mw} {v : Mv} {x_0 : Int32} {x_2 : Int32} {x13 : Int32} {x15 : Int32} {x35 : Int32} {x16 : Int32} {x18 : Int32} (a0 : x16 = x13 / (3 : Int32)) (a1 : x18 = x15 + x16) (a2 : x35 = x18 - (6 : Int32)) (k0 : ¬ (Int32.toInt x_0 = 0)) (k1 : ¬ (Int32.toInt x_0 = 1)) (k2 : ¬ (Int32.toInt x_0 = 2)) (k3 : Int32.toInt x_0 = 3) (k4 : ¬ ((18 : Int32) ≤ x_2)) : K_X8_liftsBy_15 G w v x_0 x_2 x13 x15 = K_X8_liftsBy_81 G w v x35 := by
  subst a2; subst a1; subst a0; first | rw [K_X8_liftsBy_15, if_neg k0, if_neg k1, if_neg k2, if_pos k3, if_neg k4] | simp only [K_X8_liftsBy_15, if_neg k0, if_neg k1, if_neg k2, if_pos k3, if_neg k4]
set_option maxRecDepth 100000 in
theorem kx_X8_liftsBy_10 {G : Gm} {w : Mw} {v : Mv} {x_0 : Int32} {x_2 : Int32} {x13 : Int32} {x15 : Int32} {x43 : Int32} {x16 : Int32} {x18 : Int32} {x39 : Int32} (a0 : x16 = x13 / (3 : Int32)) (a1 : x18 = x15 + x16) (a2 : x39 = x_2 - x_2 / (10 : Int32) * (10 : Int32)) (a3 : x43 = x18 + (8 : Int32)) (k0 : ¬ (Int32.toInt x_0 = 0)) (k1 : ¬ (Int32.toInt x_0 = 1)) (k2 : ¬ (Int32.toInt x_0 = 2)) (k3 : ¬ (Int32.toInt x_0 = 3)) (k4 : Int32.toInt x_0 = 4) (k5 : ¬ (x39 = (5 : Int32))) : K_X8_liftsBy_15 G w v x_0 x_2 x13 x15 = x43 := by
  subst a3; subst a2; subst a1; subst a0; first | rw [K_X8_liftsBy_15, if_neg k0, if_neg k1, if_neg k2, if_neg k3, if_pos k4, if_neg k5] | simp only [K_X8_liftsBy_15, if_neg k0, if_neg k1, if_neg k2, if_neg k3, if_pos k4, if_neg k5]
set_option maxRecDepth 100000 in
theorem kx_X8_liftsBy_11 {G : Gm} {w : Mw} {v : Mv} {x_0 : Int32} {x_2 : Int32} {x13 : Int32} {x15 : Int32} {x48 : Int32} {x16 : Int32} {x18 : Int32} {x46 : Int32} {x39 : Int32} (a0 : x16 = x13 / (3 : Int32)) (a1 : x18 = x15 + x16) (a2 : x39 = x_2 - x_2 / (10 : Int32) * (10 : Int32)) (a3 : x46 = x18 + (8 : Int32)) (a4 : x48 = (2 : Int32) * x46) (k0 : ¬ (Int32.toInt x_0 = 0)) (k1 : ¬ (Int32.toInt x_0 = 1)) (k2 : ¬ (Int32.toInt x_0 = 2)) (k3 : ¬ (Int32.toInt x_0 = 3)) (k4 : Int32.toInt x_0 = 4) (k5 : x39 = (5 : Int32)) : K_X8_liftsBy_15 G w v x_0 x_2 x13 x15 = x48 := by
  subst a4; subst a3; subst a2; subst a1; subst a0; first | rw [K_X8_liftsBy_15, if_neg k0, if_neg k1, if_neg k2, if_neg k3, if_pos k4, if_pos k5] | simp only [K_X8_liftsBy_15, if_neg k0, if_neg k1, if_neg k2, if_neg k3, if_pos k4, if_pos k5]
set_option maxRecDepth 100000 in
theorem kx_X8_liftsBy_12 {G : Gm} {w : Mw} {v : Mv} {x_0 : Int32} {x_2 : Int32} {x13 : Int32} {x15 : Int32} {x50 : Int32} {x16 : Int32} {x18 : Int32} (a0 : x16 = x13 / (3 : Int32)) (a1 : x18 = x15 + x16) (a2 : x50 = x18 / (2 : Int32)) (k0 : ¬ (Int32.toInt x_0 = 0)) (k1 : ¬ (Int32.toInt x_0 = 1)) (k2 : ¬ (Int32.toInt x_0 = 2)) (k3 : ¬ (Int32.toInt x_0 = 3)) (k4 : ¬ (Int32.toInt x_0 = 4)) (k5 : x_2 ≤ (60 : Int32)) : K_X8_liftsBy_15 G w v x_0 x_2 x13 x15 = K_X8_liftsBy_136 G w v (0 : Int32) x50 := by
  subst a2; subst a1; subst a0; first | rw [K_X8_liftsBy_15, if_neg k0, if_neg k1, if_neg k2, if_neg k3, if_neg k4, if_pos k5] | simp only [K_X8_liftsBy_15, if_neg k0, if_neg k1, if_neg k2, if_neg k3, if_neg k4, if_pos k5]
set_option maxRecDepth 100000 in
theorem kx_X8_liftsBy_13 {G : Gm} {w : Mw} {v : Mv} {x_0 : Int32} {x_2 : Int32} {x13 : Int32} {x15 : Int32} {x58 : Int32} {x50 : Int32} {x16 : Int32} {x18 : Int32} {x55 : Int32} (a0 : x16 = x13 / (3 : Int32)) (a1 : x18 = x15 + x16) (a2 : x50 = x18 / (2 : Int32)) (a3 : x55 = x_2 - (60 : Int32)) (a4 : x58 = x55 / (5 : Int32)) (k0 : ¬ (Int32.toInt x_0 = 0)) (k1 : ¬ (Int32.toInt x_0 = 1)) (k2 : ¬ (Int32.toInt x_0 = 2)) (k3 : ¬ (Int32.toInt x_0 = 3)) (k4 : ¬ (Int32.toInt x_0 = 4)) (k5 : ¬ (x_2 ≤ (60 : Int32))) : K_X8_liftsBy_15 G w v x_0 x_2 x13 x15 = K_X8_liftsBy_136 G w v x58 x50 := by
  subst a4; subst a3; subst a2; subst a1; subst a0; first | rw [K_X8_liftsBy_15, if_neg k0, if_neg k1, if_neg k2, if_neg k3, if_neg k4, if_neg k5] | simp only [K_X8_liftsBy_15, if_neg k0, if_neg k1, if_neg k2, if_neg k3, if_neg k4, if_neg k5]
set_option maxRecDepth 100000 in
theorem kx_X8_liftsBy_14 {G : Gm} {w : Mw} {v : Mv} {x_0 : Int32} {x_1 : Int32} {x_2 : Int32} {x61 : Int32} (a0 : x61 = (2 : Int32) * x_1) (k0 : x_2 ≤ (30 : Int32)) : K_X8_liftsBy_e G w v x_0 x_1 x_2 = K_X8_liftsBy_15 G w v x_0 x_2 x_2 x61 := by
  subst a0; first | rw [K_X8_liftsBy_e, if_pos k0] | simp only [K_X8_liftsBy_e, if_pos k0]
set_option maxRecDepth 100000 in
theorem kx_X8_liftsBy_15 {G : Gm} {w : Mw} {v : Mv} {x_0 : Int32} {x_1 : Int32} {x_2 : Int32} {x61 : Int32} (a0 : x61 = (2 : Int32) * x_1) (k0 : ¬ (x_2 ≤ (30 : Int32))) : K_X8_liftsBy_e G w v x_0 x_1 x_2 = K_X8_liftsBy_15 G w v x_0 x_2 (30 : Int32) x61 := by
  subst a0; first | rw [K_X8_liftsBy_e, if_neg k0] | simp only [K_X8_liftsBy_e, if_neg k0]
abbrev rm_X8_liftsBy : Room := { frames := 0, cells := 0, slots := 0, locals := 0 }
set_option maxHeartbeats 4000000 in
set_option maxRecDepth 100000 in
theorem ct_X8_liftsBy (l : Launch) (D : va_G) (dA : Nat → ClassId) (G : Gm) (v : Mv) (w : Mw) (hOk : Ok G v w) (x_0 : Int32) (x_1 : Int32) (x_2 : Int32) : CtI l yX8_liftsBy cX8_liftsBy 5 (some .int) rm_X8_liftsBy D dA G [.int x_0, .int x_1, .int x_2] v w (fun r v1 w1 => v1 = v ∧ w1 = w ∧ True ∧ r = F_X8_liftsBy G w v x_0 x_1 x_2) := by
  refine CtI.of RX8 [(0, .int x_0), (1, .int x_1), (2, .int x_2)] (Nat.le_of_ble_eq_true rfl) rfl (by decide) rfl ?_
  intro p e s m args below meth c E hr
  have J136 : ∀ x1 : Int32, Bd x1 0 2147483587 → ∀ x3 : Int32, K_X8_liftsBy_136 G w v x1 x3 = F_X8_liftsBy G w v x_0 x_1 x_2 → J p l e rm_X8_liftsBy s m args below meth c 0 0 (MQ below (QcI D dA G (fun r v1 w1 => v1 = v ∧ w1 = w ∧ True ∧ r = F_X8_liftsBy G w v x_0 x_1 x_2)) args s 0 0 (dm G)) D dA G (dm G) s.heap 5 v w [] 136 [.int x1, .int x3] := by
    intro x1 b2 x3 hK
    refine J_isub E dX8_liftsBy_136 (fun x4 e5 => ?_)
    refine J_istore E [(4, .int x4)] dX8_liftsBy_137 (by decide) rfl ?_
    refine J_iload E dX8_liftsBy_139 0 rfl ?_
    refine J_if_ge E 148 dX8_liftsBy_141 (by decide) (fun c6 => ?_) (fun c6 => ?_)
    · have b7 : Bd x4 0 I1 := Bd.le_r c6 (Bd.lit 0 0 (by decide)) (Bd.any x4) 0 (by decide)
      refine J_iload E dX8_liftsBy_148 0 rfl ?_
      exact J_iret E hr dX8_liftsBy_150 ⟨rfl, rfl, trivial, ((kx_X8_liftsBy_1 (e5) (c6)).symm.trans hK)⟩
    · have b8 : Bd x4 I0 (-1) := Bd.lt_l (nle c6) (Bd.any x4) (Bd.lit 0 0 (by decide)) (-1) (by decide)
      refine J_iconst E 0 dX8_liftsBy_144 (by decide) ?_
      refine J_goto E 150 dX8_liftsBy_145 (by decide) ?_
      exact J_iret E hr dX8_liftsBy_150 ⟨rfl, rfl, trivial, ((kx_X8_liftsBy_2 (e5) (c6)).symm.trans hK)⟩
  have J81 : ∀ x9 : Int32, K_X8_liftsBy_81 G w v x9 = F_X8_liftsBy G w v x_0 x_1 x_2 → J p l e rm_X8_liftsBy s m args below meth c 0 0 (MQ below (QcI D dA G (fun r v1 w1 => v1 = v ∧ w1 = w ∧ True ∧ r = F_X8_liftsBy G w v x_0 x_1 x_2)) args s 0 0 (dm G)) D dA G (dm G) s.heap 5 v w [] 81 [.int x9] := by
    intro x9 hK
    refine J_istore E [(4, .int x9)] dX8_liftsBy_81 (by decide) rfl ?_
    refine J_iload E dX8_liftsBy_83 0 rfl ?_
    refine J_if_ge E 92 dX8_liftsBy_85 (by decide) (fun c10 => ?_) (fun c10 => ?_)
    · have b11 : Bd x9 0 I1 := Bd.le_r c10 (Bd.lit 0 0 (by decide)) (Bd.any x9) 0 (by decide)
      refine J_iload E dX8_liftsBy_92 0 rfl ?_
      exact J_iret E hr dX8_liftsBy_94 ⟨rfl, rfl, trivial, ((kx_X8_liftsBy_3 (c10)).symm.trans hK)⟩
    · have b12 : Bd x9 I0 (-1) := Bd.lt_l (nle c10) (Bd.any x9) (Bd.lit 0 0 (by decide)) (-1) (by decide)
      refine J_iconst E 0 dX8_liftsBy_88 (by decide) ?_
      refine J_goto E 94 dX8_liftsBy_89 (by decide) ?_
      exact J_iret E hr dX8_liftsBy_94 ⟨rfl, rfl, trivial, ((kx_X8_liftsBy_4 (c10)).symm.trans hK)⟩
  have J15 : ∀ x13 : Int32, Bd x13 I0 30 → ∀ x15 : Int32, K_X8_liftsBy_15 G w v x_0 x_2 x13 x15 = F_X8_liftsBy G w v x_0 x_1 x_2 → J p l e rm_X8_liftsBy s m args below meth c 0 0 (MQ below (QcI D dA G (fun r v1 w1 => v1 = v ∧ w1 = w ∧ True ∧ r = F_X8_liftsBy G w v x_0 x_1 x_2)) args s 0 0 (dm G)) D dA G (dm G) s.heap 5 v w [(0, .int x_0), (2, .int x_2)] 15 [.int x13, .int x15] := by
    intro x13 b14 x15 hK
    refine J_iconst E 3 dX8_liftsBy_15 (by decide) ?_
    refine J_idiv E dX8_liftsBy_16 (Bd.nz (Bd.lit 3 3 (by decide)) (by decide)) (fun x16 e17 => ?_)
    refine J_iadd E dX8_liftsBy_17 (fun x18 e19 => ?_)
    refine J_istore_n E [(3, .int x18), (0, .int x_0), (2, .int x_2)] dX8_liftsBy_18 rfl (by decide) rfl ?_
    refine J_iload_n E dX8_liftsBy_19 0 rfl ?_
    refine J_istore E [(4, .int x18), (3, .int x18), (0, .int x_0), (2, .int x_2)] dX8_liftsBy_20 (by decide) rfl ?_
    refine J_iload_n E dX8_liftsBy_22 2 rfl ?_
    by_cases h20 : x_0.toInt = 0
    · refine J_tabIn E 0 56 dX8_liftsBy_23 h20 (by decide) (by decide) rfl (by decide) ?_
      have b21 : Bd x_0 0 0 := ⟨by omega, by omega⟩
      refine J_iload_n E dX8_liftsBy_56 1 rfl ?_
      exact J_iret E hr dX8_liftsBy_57 ⟨rfl, rfl, trivial, ((kx_X8_liftsBy_5 (e17) (e19) (h20)).symm.trans hK)⟩
    by_cases h22 : x_0.toInt = 1
    · refine J_tabIn E 1 58 dX8_liftsBy_23 h22 (by decide) (by decide) rfl (by decide) ?_
      have b23 : Bd x_0 1 1 := ⟨by omega, by omega⟩
      refine J_iload_n E dX8_liftsBy_58 1 rfl ?_
      refine J_bipush E 8 dX8_liftsBy_59 (by decide) ?_
      refine J_iadd E dX8_liftsBy_61 (fun x24 e25 => ?_)
      exact J_iret E hr dX8_liftsBy_62 ⟨rfl, rfl, trivial, ((kx_X8_liftsBy_6 (e17) (e19) (e25) (h20) (h22)).symm.trans hK)⟩
    by_cases h26 : x_0.toInt = 2
    · refine J_tabIn E 2 63 dX8_liftsBy_23 h26 (by decide) (by decide) rfl (by decide) ?_
      have b27 : Bd x_0 2 2 := ⟨by omega, by omega⟩
      refine J_iload_n E dX8_liftsBy_63 1 rfl ?_
      refine J_iconst E 2 dX8_liftsBy_64 (by decide) ?_
      refine J_idiv E dX8_liftsBy_65 (Bd.nz (Bd.lit 2 2 (by decide)) (by decide)) (fun x28 e29 => ?_)
      exact J_iret E hr dX8_liftsBy_66 ⟨rfl, rfl, trivial, ((kx_X8_liftsBy_7 (e17) (e19) (e29) (h20) (h22) (h26)).symm.trans hK)⟩
    by_cases h30 : x_0.toInt = 3
    · refine J_tabIn E 3 67 dX8_liftsBy_23 h30 (by decide) (by decide) rfl (by decide) ?_
      have b31 : Bd x_0 3 3 := ⟨by omega, by omega⟩
      refine J_iload_n E dX8_liftsBy_67 3 rfl ?_
      refine J_bipush E 18 dX8_liftsBy_68 (by decide) ?_
      refine J_icmp_ge E 80 dX8_liftsBy_70 (by decide) (fun c32 => ?_) (fun c32 => ?_)
      · have b33 : Bd x_2 18 I1 := Bd.le_r c32 (Bd.lit 18 18 (by decide)) (Bd.any x_2) 18 (by decide)
        refine J_iload_n E dX8_liftsBy_80 1 rfl ?_
        exact J.sub [] rfl (J81 x18 ((kx_X8_liftsBy_8 (e17) (e19) (h20) (h22) (h26) (h30) (c32)).symm.trans hK))
      · have b34 : Bd x_2 I0 17 := Bd.lt_l (nle c32) (Bd.any x_2) (Bd.lit 18 18 (by decide)) 17 (by decide)
        refine J_iload_n E dX8_liftsBy_73 1 rfl ?_
        refine J_bipush E 6 dX8_liftsBy_74 (by decide) ?_
        refine J_isub E dX8_liftsBy_76 (fun x35 e36 => ?_)
        refine J_goto E 81 dX8_liftsBy_77 (by decide) ?_
        exact J.sub [] rfl (J81 x35 ((kx_X8_liftsBy_9 (e17) (e19) (e36) (h20) (h22) (h26) (h30) (c32)).symm.trans hK))
    by_cases h37 : x_0.toInt = 4
    · refine J_tabIn E 4 95 dX8_liftsBy_23 h37 (by decide) (by decide) rfl (by decide) ?_
      have b38 : Bd x_0 4 4 := ⟨by omega, by omega⟩
      refine J_iload_n E dX8_liftsBy_95 3 rfl ?_
      refine J_bipush E 10 dX8_liftsBy_96 (by decide) ?_
      refine J_irem E dX8_liftsBy_98 (Bd.nz (Bd.lit 10 10 (by decide)) (by decide)) (fun x39 e40 => ?_)
      have b41 : Bd x39 (-9) 9 := (Bd.rem e40 (Bd.lit 10 10 (by decide)) (by decide)).w _ _ (by decide)
      refine J_iconst E 5 dX8_liftsBy_99 (by decide) ?_
      refine J_icmp_ne E 112 dX8_liftsBy_100 (by decide) (fun c42 => ?_) (fun c42 => ?_)
      · refine J_iload_n E dX8_liftsBy_112 1 rfl ?_
        refine J_bipush E 8 dX8_liftsBy_113 (by decide) ?_
        refine J_iadd E dX8_liftsBy_115 (fun x43 e44 => ?_)
        exact J_iret E hr dX8_liftsBy_116 ⟨rfl, rfl, trivial, ((kx_X8_liftsBy_10 (e17) (e19) (e40) (e44) (h20) (h22) (h26) (h30) (h37) (c42)).symm.trans hK)⟩
      · have b45 : Bd x39 5 5 := Bd.eq_l c42 b41 (Bd.lit 5 5 (by decide)) 5 5 (by decide)
        refine J_iconst E 2 dX8_liftsBy_103 (by decide) ?_
        refine J_iload_n E dX8_liftsBy_104 1 rfl ?_
        refine J_bipush E 8 dX8_liftsBy_105 (by decide) ?_
        refine J_iadd E dX8_liftsBy_107 (fun x46 e47 => ?_)
        refine J_imul E dX8_liftsBy_108 (fun x48 e49 => ?_)
        refine J_goto E 116 dX8_liftsBy_109 (by decide) ?_
        exact J_iret E hr dX8_liftsBy_116 ⟨rfl, rfl, trivial, ((kx_X8_liftsBy_11 (e17) (e19) (e40) (e47) (e49) (h20) (h22) (h26) (h30) (h37) (c42)).symm.trans hK)⟩
    refine J_tabOut (x := x_0) E 117 dX8_liftsBy_23 (by have := (Bd.any x_0); simp only [Bd, I0, I1] at this; omega) (by decide) ?_
    refine J_iload_n E dX8_liftsBy_117 1 rfl ?_
    refine J_iconst E 2 dX8_liftsBy_118 (by decide) ?_
    refine J_idiv E dX8_liftsBy_119 (Bd.nz (Bd.lit 2 2 (by decide)) (by decide)) (fun x50 e51 => ?_)
    refine J_iload_n E dX8_liftsBy_120 3 rfl ?_
    refine J_bipush E 60 dX8_liftsBy_121 (by decide) ?_
    refine J_icmp_le E 135 dX8_liftsBy_123 (by decide) (fun c52 => ?_) (fun c52 => ?_)
    · have b53 : Bd x_2 I0 60 := Bd.le_l c52 (Bd.any x_2) (Bd.lit 60 60 (by decide)) 60 (by decide)
      refine J_iconst E 0 dX8_liftsBy_135 (by decide) ?_
      exact J.sub [] rfl (J136 0 ((Bd.lit 0 0 (by decide)).w 0 2147483587 (by decide)) x50 ((kx_X8_liftsBy_12 (e17) (e19) (e51) (h20) (h22) (h26) (h30) (h37) (c52)).symm.trans hK))
    · have b54 : Bd x_2 61 I1 := Bd.lt_r (nle c52) (Bd.lit 60 60 (by decide)) (Bd.any x_2) 61 (by decide)
      refine J_iload_n E dX8_liftsBy_126 3 rfl ?_
      refine J_bipush E 60 dX8_liftsBy_127 (by decide) ?_
      refine J_isub E dX8_liftsBy_129 (fun x55 e56 => ?_)
      have b57 : Bd x55 1 2147483587 := (Bd.sub e56 b54 (Bd.lit 60 60 (by decide)) (by decide)).w _ _ (by decide)
      refine J_iconst E 5 dX8_liftsBy_130 (by decide) ?_
      refine J_idiv E dX8_liftsBy_131 (Bd.nz (Bd.lit 5 5 (by decide)) (by decide)) (fun x58 e59 => ?_)
      have b60 : Bd x58 0 2147483587 := Bd.div e59 b57 (Bd.lit 5 5 (by decide)) (by decide)
      refine J_goto E 136 dX8_liftsBy_132 (by decide) ?_
      exact J.sub [] rfl (J136 x58 b60 x50 ((kx_X8_liftsBy_13 (e17) (e19) (e51) (e56) (e59) (h20) (h22) (h26) (h30) (h37) (c52)).symm.trans hK))
  have hK : K_X8_liftsBy_e G w v x_0 x_1 x_2 = F_X8_liftsBy G w v x_0 x_1 x_2 := rfl
  refine J_iconst E 2 dX8_liftsBy_0 (by decide) ?_
  refine J_iload_n E dX8_liftsBy_1 1 rfl ?_
  refine J_imul E dX8_liftsBy_2 (fun x61 e62 => ?_)
  refine J_iload_n E dX8_liftsBy_3 2 rfl ?_
  refine J_bipush E 30 dX8_liftsBy_4 (by decide) ?_
  refine J_icmp_le E 14 dX8_liftsBy_6 (by decide) (fun c63 => ?_) (fun c63 => ?_)
  · have b64 : Bd x_2 I0 30 := Bd.le_l c63 (Bd.any x_2) (Bd.lit 30 30 (by decide)) 30 (by decide)
    refine J_iload_n E dX8_liftsBy_14 2 rfl ?_
    exact J.sub [0, 2] rfl (J15 x_2 b64 x61 ((kx_X8_liftsBy_14 (e62) (c63)).symm.trans hK))
  · have b65 : Bd x_2 31 I1 := Bd.lt_r (nle c63) (Bd.lit 30 30 (by decide)) (Bd.any x_2) 31 (by decide)
    refine J_bipush E 30 dX8_liftsBy_9 (by decide) ?_
    refine J_goto E 15 dX8_liftsBy_11 (by decide) ?_
    exact J.sub [0, 2] rfl (J15 30 ((Bd.lit 30 30 (by decide)).w I0 30 (by decide)) x61 ((kx_X8_liftsBy_15 (e62) (c63)).symm.trans hK))

def K_X8_weighsOf_e (G : Gm) (w : Mw) (v : Mv) (h0 : Nat) (x_0 : Int32) (x_1 : Int32) (x_2 : Int32) : Int32 :=
  (F_X8_weighsBy G w v (v (rf G h0 1) (Int32.toNatClampNeg ((x_0 + (6 : Int32)) + x_1))) (v (rf G h0 1) (Int32.toNatClampNeg ((x_0 + (13 : Int32)) + x_1))) x_2)
def F_X8_weighsOf (G : Gm) (w : Mw) (v : Mv) (h0 : Nat) (x_0 : Int32) (x_1 : Int32) (x_2 : Int32) : Int32 := K_X8_weighsOf_e G w v h0 x_0 x_1 x_2
set_option maxRecDepth 100000 in
theorem kx_X8_weighsOf_1 {G : Gm} {w : Mw} {v : Mv} {h0 : Nat} {x_0 : Int32} {x_1 : Int32} {x_2 : Int32} {x20 : Int32} {x1 : Int32} {x4 : Int32} {x9 : Int32} {x12 : Int32} {x7 : Int32} {x15 : Int32} (a0 : x1 = x_0 + (6 : Int32)) (a1 : x4 = x1 + x_1) (a2 : x7 = v (rf G h0 1) (Int32.toNatClampNeg x4)) (a3 : x9 = x_0 + (13 : Int32)) (a4 : x12 = x9 + x_1) (a5 : x15 = v (rf G h0 1) (Int32.toNatClampNeg x12)) (a6 : x20 = F_X8_weighsBy G w v x7 x15 x_2)  : K_X8_weighsOf_e G w v h0 x_0 x_1 x_2 = x20 := by
  subst a6; subst a5; subst a4; subst a3; subst a2; subst a1; subst a0; first | rw [K_X8_weighsOf_e] | simp only [K_X8_weighsOf_e]
abbrev rm_X8_weighsOf : Room := { frames := 1, cells := 0, slots := 0, locals := 23 }
set_option maxHeartbeats 4000000 in
set_option maxRecDepth 100000 in
theorem ct_X8_weighsOf (l : Launch) (D : va_G) (dA : Nat → ClassId) (G : Gm) (v : Mv) (w : Mw) (hOk : Ok G v w) (h0 : Nat) (S0 : S_X8 G h0) (x_0 : Int32) (bx_0 : Bd x_0 0 738) (x_1 : Int32) (bx_1 : Bd x_1 0 6) (x_2 : Int32) : CtI l yX8_weighsOf cX8_weighsOf 4 (some .int) rm_X8_weighsOf D dA G [.ref h0, .int x_0, .int x_1, .int x_2] v w (fun r v1 w1 => v1 = v ∧ w1 = w ∧ True ∧ r = F_X8_weighsOf G w v h0 x_0 x_1 x_2) := by
  refine CtI.of RX8 [(0, .ref h0), (1, .int x_0), (2, .int x_1), (3, .int x_2)] (Nat.le_of_ble_eq_true rfl) rfl (by decide) rfl ?_
  intro p e s m args below meth c E hr
  have hK : K_X8_weighsOf_e G w v h0 x_0 x_1 x_2 = F_X8_weighsOf G w v h0 x_0 x_1 x_2 := rfl
  refine J_aload_n E dX8_weighsOf_0 0 rfl ?_
  refine J_getR E in_X8 rfl (S_X8.h S0) 1 (by decide) wd936 rfl dX8_weighsOf_1 ?_
  refine J_iload_n E dX8_weighsOf_4 1 rfl ?_
  refine J_bipush E 6 dX8_weighsOf_5 (by decide) ?_
  refine J_iadd E dX8_weighsOf_7 (fun x1 e2 => ?_)
  have b3 : Bd x1 6 744 := (Bd.add e2 bx_0 (Bd.lit 6 6 (by decide)) (by decide)).w _ _ (by decide)
  refine J_iload_n E dX8_weighsOf_8 2 rfl ?_
  refine J_iadd E dX8_weighsOf_9 (fun x4 e5 => ?_)
  have b6 : Bd x4 6 750 := (Bd.add e5 b3 bx_1 (by decide)).w _ _ (by decide)
  refine J_iald1 E (S_X8.f1 S0) (Bd.in b6 (by decide)) dX8_weighsOf_10 (fun x7 e8 => ?_)
  refine J_aload_n E dX8_weighsOf_11 0 rfl ?_
  refine J_getR E in_X8 rfl (S_X8.h S0) 1 (by decide) wd936 rfl dX8_weighsOf_12 ?_
  refine J_iload_n E dX8_weighsOf_15 1 rfl ?_
  refine J_bipush E 13 dX8_weighsOf_16 (by decide) ?_
  refine J_iadd E dX8_weighsOf_18 (fun x9 e10 => ?_)
  have b11 : Bd x9 13 751 := (Bd.add e10 bx_0 (Bd.lit 13 13 (by decide)) (by decide)).w _ _ (by decide)
  refine J_iload_n E dX8_weighsOf_19 2 rfl ?_
  refine J_iadd E dX8_weighsOf_20 (fun x12 e13 => ?_)
  have b14 : Bd x12 13 757 := (Bd.add e13 b11 bx_1 (by decide)).w _ _ (by decide)
  refine J_iald1 E (S_X8.f1 S0) (Bd.in b14 (by decide)) dX8_weighsOf_21 (fun x15 e16 => ?_)
  refine J_iload_n E dX8_weighsOf_22 3 rfl ?_
  refine J_callSI E cal_X8_weighsBy wd1102 [.int x7, .int x15, .int x_2] [] (ct_X8_weighsBy l D dA G v w (hOk) x7 x15 x_2) rfl rfl (Nat.le_of_ble_eq_true rfl) ⟨rfl, rfl⟩ ⟨Nat.le_of_ble_eq_true rfl, Nat.le_of_ble_eq_true rfl⟩ dX8_weighsOf_23 (fun x20 v17 w18 p19 => ?_)
  rw [p19.1, p19.2.1]
  have e21 : x20 = F_X8_weighsBy G w v x7 x15 x_2 := (p19.2.2.2)
  exact J_iret E hr dX8_weighsOf_26 ⟨rfl, rfl, trivial, ((kx_X8_weighsOf_1 (e2) (e5) (e8) (e10) (e13) (e16) (e21)).symm.trans hK)⟩

def K_X8_liftsOf_e (G : Gm) (w : Mw) (v : Mv) (h0 : Nat) (x_0 : Int32) (x_1 : Int32) (x_2 : Int32) : Int32 :=
  (F_X8_liftsBy G w v (v (rf G h0 1) (Int32.toNatClampNeg ((x_0 + (20 : Int32)) + x_1))) (v (rf G h0 1) (Int32.toNatClampNeg ((x_0 + (27 : Int32)) + x_1))) x_2)
def F_X8_liftsOf (G : Gm) (w : Mw) (v : Mv) (h0 : Nat) (x_0 : Int32) (x_1 : Int32) (x_2 : Int32) : Int32 := K_X8_liftsOf_e G w v h0 x_0 x_1 x_2
set_option maxRecDepth 100000 in
theorem kx_X8_liftsOf_1 {G : Gm} {w : Mw} {v : Mv} {h0 : Nat} {x_0 : Int32} {x_1 : Int32} {x_2 : Int32} {x20 : Int32} {x1 : Int32} {x4 : Int32} {x9 : Int32} {x12 : Int32} {x7 : Int32} {x15 : Int32} (a0 : x1 = x_0 + (20 : Int32)) (a1 : x4 = x1 + x_1) (a2 : x7 = v (rf G h0 1) (Int32.toNatClampNeg x4)) (a3 : x9 = x_0 + (27 : Int32)) (a4 : x12 = x9 + x_1) (a5 : x15 = v (rf G h0 1) (Int32.toNatClampNeg x12)) (a6 : x20 = F_X8_liftsBy G w v x7 x15 x_2)  : K_X8_liftsOf_e G w v h0 x_0 x_1 x_2 = x20 := by
  subst a6; subst a5; subst a4; subst a3; subst a2; subst a1; subst a0; first | rw [K_X8_liftsOf_e] | simp only [K_X8_liftsOf_e]
abbrev rm_X8_liftsOf : Room := { frames := 1, cells := 0, slots := 0, locals := 24 }
set_option maxHeartbeats 4000000 in
set_option maxRecDepth 100000 in
theorem ct_X8_liftsOf (l : Launch) (D : va_G) (dA : Nat → ClassId) (G : Gm) (v : Mv) (w : Mw) (hOk : Ok G v w) (h0 : Nat) (S0 : S_X8 G h0) (x_0 : Int32) (bx_0 : Bd x_0 0 738) (x_1 : Int32) (bx_1 : Bd x_1 0 6) (x_2 : Int32) : CtI l yX8_liftsOf cX8_liftsOf 4 (some .int) rm_X8_liftsOf D dA G [.ref h0, .int x_0, .int x_1, .int x_2] v w (fun r v1 w1 => v1 = v ∧ w1 = w ∧ True ∧ r = F_X8_liftsOf G w v h0 x_0 x_1 x_2) := by
  refine CtI.of RX8 [(0, .ref h0), (1, .int x_0), (2, .int x_1), (3, .int x_2)] (Nat.le_of_ble_eq_true rfl) rfl (by decide) rfl ?_
  intro p e s m args below meth c E hr
  have hK : K_X8_liftsOf_e G w v h0 x_0 x_1 x_2 = F_X8_liftsOf G w v h0 x_0 x_1 x_2 := rfl
  refine J_aload_n E dX8_liftsOf_0 0 rfl ?_
  refine J_getR E in_X8 rfl (S_X8.h S0) 1 (by decide) wd936 rfl dX8_liftsOf_1 ?_
  refine J_iload_n E dX8_liftsOf_4 1 rfl ?_
  refine J_bipush E 20 dX8_liftsOf_5 (by decide) ?_
  refine J_iadd E dX8_liftsOf_7 (fun x1 e2 => ?_)
  have b3 : Bd x1 20 758 := (Bd.add e2 bx_0 (Bd.lit 20 20 (by decide)) (by decide)).w _ _ (by decide)
  refine J_iload_n E dX8_liftsOf_8 2 rfl ?_
  refine J_iadd E dX8_liftsOf_9 (fun x4 e5 => ?_)
  have b6 : Bd x4 20 764 := (Bd.add e5 b3 bx_1 (by decide)).w _ _ (by decide)
  refine J_iald1 E (S_X8.f1 S0) (Bd.in b6 (by decide)) dX8_liftsOf_10 (fun x7 e8 => ?_)
  refine J_aload_n E dX8_liftsOf_11 0 rfl ?_
  refine J_getR E in_X8 rfl (S_X8.h S0) 1 (by decide) wd936 rfl dX8_liftsOf_12 ?_
  refine J_iload_n E dX8_liftsOf_15 1 rfl ?_
  refine J_bipush E 27 dX8_liftsOf_16 (by decide) ?_
  refine J_iadd E dX8_liftsOf_18 (fun x9 e10 => ?_)
  have b11 : Bd x9 27 765 := (Bd.add e10 bx_0 (Bd.lit 27 27 (by decide)) (by decide)).w _ _ (by decide)
  refine J_iload_n E dX8_liftsOf_19 2 rfl ?_
  refine J_iadd E dX8_liftsOf_20 (fun x12 e13 => ?_)
  have b14 : Bd x12 27 771 := (Bd.add e13 b11 bx_1 (by decide)).w _ _ (by decide)
  refine J_iald1 E (S_X8.f1 S0) (Bd.in b14 (by decide)) dX8_liftsOf_21 (fun x15 e16 => ?_)
  refine J_iload_n E dX8_liftsOf_22 3 rfl ?_
  refine J_callSI E cal_X8_liftsBy wd1109 [.int x7, .int x15, .int x_2] [] (ct_X8_liftsBy l D dA G v w (hOk) x7 x15 x_2) rfl rfl (Nat.le_of_ble_eq_true rfl) ⟨rfl, rfl⟩ ⟨Nat.le_of_ble_eq_true rfl, Nat.le_of_ble_eq_true rfl⟩ dX8_liftsOf_23 (fun x20 v17 w18 p19 => ?_)
  rw [p19.1, p19.2.1]
  have e21 : x20 = F_X8_liftsBy G w v x7 x15 x_2 := (p19.2.2.2)
  exact J_iret E hr dX8_liftsOf_26 ⟨rfl, rfl, trivial, ((kx_X8_liftsOf_1 (e2) (e5) (e8) (e10) (e13) (e16) (e21)).symm.trans hK)⟩

def K_X8_isHeld_0_A_34_e (G : Gm) (w : Mw) (v : Mv) (h0 : Nat) (x_3 : Int32) : Int32 :=
  if (v (rf G h0 1) (Int32.toNatClampNeg (((34 : Int32) + (9 : Int32)) + x_3))) = (-1 : Int32) then ((0 : Int32)) else (if (F_X8_weighsOf G w v h0 (0 : Int32) (v (rf G h0 1) (Int32.toNatClampNeg (((34 : Int32) + (9 : Int32)) + x_3))) (v (rf G h0 1) (Int32.toNatClampNeg ((34 : Int32) + (0 : Int32))))) ≤ (F_X8_liftsOf G w v h0 (0 : Int32) x_3 (v (rf G h0 1) (Int32.toNatClampNeg (((34 : Int32) + (2 : Int32)) + x_3)))) then ((0 : Int32)) else ((1 : Int32)))
def F_X8_isHeld_0_A_34 (G : Gm) (w : Mw) (v : Mv) (h0 : Nat) (x_3 : Int32) : Int32 := K_X8_isHeld_0_A_34_e G w v h0 x_3
set_option maxRecDepth 100000 in
theorem kx_X8_isHeld_0_A_34_1 {G : Gm} {w : Mw} {v : Mv} {h0 : Nat} {x_3 : Int32} {x1 : Int32} {x4 : Int32} {x7 : Int32} (a0 : x1 = (34 : Int32) + (9 : Int32)) (a1 : x4 = x1 + x_3) (a2 : x7 = v (rf G h0 1) (Int32.toNatClampNeg x4)) (k0 : x7 = (-1 : Int32)) : K_X8_isHeld_0_A_34_e G w v h0 x_3 = (0 : Int32) := by
  subst a2; subst a1; subst a0; first | rw [K_X8_isHeld_0_A_34_e, if_pos k0] | simp only [K_X8_isHeld_0_A_34_e, if_pos k0]
set_option maxRecDepth 100000 in
theorem kx_X8_isHeld_0_A_34_2 {G : Gm} {w : Mw} {v : Mv} {h0 : Nat} {x_3 : Int32} {x1 : Int32} {x4 : Int32} {x13 : Int32} {x7 : Int32} {x16 : Int32} {x24 : Int32} {x27 : Int32} {x30 : Int32} {x22 : Int32} {x35 : Int32} (a0 : x1 = (34 : Int32) + (9 : Int32)) (a1 : x4 = x1 + x_3) (a2 : x7 = v (rf G h0 1) (Int32.toNatClampNeg x4)) (a3 : x13 = (34 : Int32) + (0 : Int32)) (a4 : x16 = v (rf G h0 1) (Int32.toNatClampNeg x13)) (a5 : x22 = F_X8_weighsOf G w v h0 (0 : Int32) x7 x16) (a6 : x24 = (34 : Int32) + (2 : Int32)) (a7 : x27 = x24 + x_3) (a8 : x30 = v (rf G h0 1) (Int32.toNatClampNeg x27)) (a9 : x35 = F_X8_liftsOf G w v h0 (0 : Int32) x_3 x30) (k0 : ¬ (x7 = (-1 : Int32))) (k1 : x22 ≤ x35) : K_X8_isHeld_0_A_34_e G w v h0 x_3 = (0 : Int32) := by
  subst a9; subst a8; subst a7; subst a6; subst a5; subst a4; subst a3; subst a2; subst a1; subst a0; first | rw [K_X8_isHeld_0_A_34_e, if_neg k0, if_pos k1] | simp only [K_X8_isHeld_0_A_34_e, if_neg k0, if_pos k1]
set_option maxRecDepth 100000 in
theorem kx_X8_isHeld_0_A_34_3 {G : Gm} {w : Mw} {v : Mv} {h0 : Nat} {x_3 : Int32} {x1 : Int32} {x4 : Int32} {x13 : Int32} {x7 : Int32} {x16 : Int32} {x24 : Int32} {x27 : Int32} {x30 : Int32} {x22 : Int32} {x35 : Int32} (a0 : x1 = (34 : Int32) + (9 : Int32)) (a1 : x4 = x1 + x_3) (a2 : x7 = v (rf G h0 1) (Int32.toNatClampNeg x4)) (a3 : x13 = (34 : Int32) + (0 : Int32)) (a4 : x16 = v (rf G h0 1) (Int32.toNatClampNeg x13)) (a5 : x22 = F_X8_weighsOf G w v h0 (0 : Int32) x7 x16) (a6 : x24 = (34 : Int32) + (2 : Int32)) (a7 : x27 = x24 + x_3) (a8 : x30 = v (rf G h0 1) (Int32.toNatClampNeg x27)) (a9 : x35 = F_X8_liftsOf G w v h0 (0 : Int32) x_3 x30) (k0 : ¬ (x7 = (-1 : Int32))) (k1 : ¬ (x22 ≤ x35)) : K_X8_isHeld_0_A_34_e G w v h0 x_3 = (1 : Int32) := by
  subst a9; subst a8; subst a7; subst a6; subst a5; subst a4; subst a3; subst a2; subst a1; subst a0; first | rw [K_X8_isHeld_0_A_34_e, if_neg k0, if_neg k1] | simp only [K_X8_isHeld_0_A_34_e, if_neg k0, if_neg k1]
abbrev rm_X8_isHeld_0_A_34 : Room := { frames := 2, cells := 0, slots := 0, locals := 47 }
set_option maxHeartbeats 4000000 in
set_option maxRecDepth 100000 in
theorem ct_X8_isHeld_0_A_34 (l : Launch) (D : va_G) (dA : Nat → ClassId) (G : Gm) (v : Mv) (w : Mw) (hOk : Ok G v w) (h0 : Nat) (S0 : S_X8 G h0) (x_3 : Int32) (bx_3 : Bd x_3 0 6) : CtI l yX8_isHeld cX8_isHeld 6 (some .boolean) rm_X8_isHeld_0_A_34 D dA G [.ref h0, .int 0, .ref (rf G h0 1), .int 34, .int x_3] v w (fun r v1 w1 => v1 = v ∧ w1 = w ∧ Bd r 0 1 ∧ r = F_X8_isHeld_0_A_34 G w v h0 x_3) := by
  refine CtI.of RX8 [(0, .ref h0), (1, .int 0), (2, .ref (rf G h0 1)), (3, .int 34), (4, .int x_3)] (Nat.le_of_ble_eq_true rfl) rfl (by decide) rfl ?_
  intro p e s m args below meth c E hr
  have hK : K_X8_isHeld_0_A_34_e G w v h0 x_3 = F_X8_isHeld_0_A_34 G w v h0 x_3 := rfl
  refine J_aload_n E dX8_isHeld_0 2 rfl ?_
  refine J_iload_n E dX8_isHeld_1 3 rfl ?_
  refine J_bipush E 9 dX8_isHeld_2 (by decide) ?_
  refine J_iadd E dX8_isHeld_4 (fun x1 e2 => ?_)
  have b3 : Bd x1 43 43 := (Bd.add e2 (Bd.lit 34 34 (by decide)) (Bd.lit 9 9 (by decide)) (by decide)).w _ _ (by decide)
  refine J_iload E dX8_isHeld_5 4 rfl ?_
  refine J_iadd E dX8_isHeld_7 (fun x4 e5 => ?_)
  have b6 : Bd x4 43 49 := (Bd.add e5 b3 bx_3 (by decide)).w _ _ (by decide)
  refine J_iald1 E (S_X8.f1 S0) (Bd.in b6 (by decide)) dX8_isHeld_8 (fun x7 e8 => ?_)
  have b9 : Bd x7 (-1) 6 := Bd.e (Ok.ld hOk (S_X8.f1 S0) b6 43 7 (-1) 6 (by decide) (by decide +kernel)) e8
  refine J_istore E [(5, .int x7), (0, .ref h0), (1, .int 0), (2, .ref (rf G h0 1)), (3, .int 34), (4, .int x_3)] dX8_isHeld_9 (by decide) rfl ?_
  refine J_iload E dX8_isHeld_11 0 rfl ?_
  refine J_iconst E (-1) dX8_isHeld_13 (by decide) ?_
  refine J_icmp_eq E 51 dX8_isHeld_14 (by decide) (fun c10 => ?_) (fun c10 => ?_)
  · have b11 : Bd x7 (-1) (-1) := Bd.eq_l c10 b9 (Bd.lit (-1) (-1) (by decide)) (-1) (-1) (by decide)
    refine J_iconst E 0 dX8_isHeld_51 (by decide) ?_
    exact J_zret E hr (Bd.z (Bd.lit 0 0 (by decide)) (by decide)) dX8_isHeld_52 ⟨rfl, rfl, ((Bd.lit 0 0 (by decide)).w 0 1 (by decide)), ((kx_X8_isHeld_0_A_34_1 (e2) (e5) (e8) (c10)).symm.trans hK)⟩
  · have b12 : Bd x7 0 6 := (Bd.ne_lo c10 b9 (Bd.lit (-1) (-1) (by decide))).w _ _ (by decide)
    refine J_aload_n E dX8_isHeld_17 1 rfl ?_
    refine J_iload_n E dX8_isHeld_18 2 rfl ?_
    refine J_iload E dX8_isHeld_19 0 rfl ?_
    refine J_aload_n E dX8_isHeld_21 3 rfl ?_
    refine J_iload_n E dX8_isHeld_22 4 rfl ?_
    refine J_iconst E 0 dX8_isHeld_23 (by decide) ?_
    refine J_iadd E dX8_isHeld_24 (fun x13 e14 => ?_)
    have b15 : Bd x13 34 34 := (Bd.add e14 (Bd.lit 34 34 (by decide)) (Bd.lit 0 0 (by decide)) (by decide)).w _ _ (by decide)
    refine J_iald1 E (S_X8.f1 S0) (Bd.in b15 (by decide)) dX8_isHeld_25 (fun x16 e17 => ?_)
    have e18 : x16 = v (rf G h0 1) 34 := by rw [e17, Bd.ix b15 34 rfl]
    refine J_callVI E cal_X8_weighsOf wd1098 rfl (S_X8.h S0) [.int 0, .int x7, .int x16] [] (ct_X8_weighsOf l D dA G v w (hOk) h0 S0 0 ((Bd.lit 0 0 (by decide)).w 0 738 (by decide)) x7 b12 x16) rfl rfl (Nat.le_of_ble_eq_true rfl) ⟨rfl, rfl⟩ ⟨Nat.le_of_ble_eq_true rfl, Nat.le_of_ble_eq_true rfl⟩ dX8_isHeld_26 (fun x22 v19 w20 p21 => ?_)
    rw [p21.1, p21.2.1]
    have e23 : x22 = F_X8_weighsOf G w v h0 (0 : Int32) x7 x16 := (p21.2.2.2)
    refine J_aload_n E dX8_isHeld_29 1 rfl ?_
    refine J_iload_n E dX8_isHeld_30 2 rfl ?_
    refine J_iload E dX8_isHeld_31 5 rfl ?_
    refine J_aload_n E dX8_isHeld_33 3 rfl ?_
    refine J_iload_n E dX8_isHeld_34 4 rfl ?_
    refine J_iconst E 2 dX8_isHeld_35 (by decide) ?_
    refine J_iadd E dX8_isHeld_36 (fun x24 e25 => ?_)
    have b26 : Bd x24 36 36 := (Bd.add e25 (Bd.lit 34 34 (by decide)) (Bd.lit 2 2 (by decide)) (by decide)).w _ _ (by decide)
    refine J_iload E dX8_isHeld_37 5 rfl ?_
    refine J_iadd E dX8_isHeld_39 (fun x27 e28 => ?_)
    have b29 : Bd x27 36 42 := (Bd.add e28 b26 bx_3 (by decide)).w _ _ (by decide)
    refine J_iald1 E (S_X8.f1 S0) (Bd.in b29 (by decide)) dX8_isHeld_40 (fun x30 e31 => ?_)
    refine J_callVI E cal_X8_liftsOf wd1105 rfl (S_X8.h S0) [.int 0, .int x_3, .int x30] [.int x22] (ct_X8_liftsOf l D dA G v w (hOk) h0 S0 0 ((Bd.lit 0 0 (by decide)).w 0 738 (by decide)) x_3 bx_3 x30) rfl rfl (Nat.le_of_ble_eq_true rfl) ⟨rfl, rfl⟩ ⟨Nat.le_of_ble_eq_true rfl, Nat.le_of_ble_eq_true rfl⟩ dX8_isHeld_41 (fun x35 v32 w33 p34 => ?_)
    rw [p34.1, p34.2.1]
    have e36 : x35 = F_X8_liftsOf G w v h0 (0 : Int32) x_3 x30 := (p34.2.2.2)
    refine J_icmp_le E 51 dX8_isHeld_44 (by decide) (fun c37 => ?_) (fun c37 => ?_)
    · refine J_iconst E 0 dX8_isHeld_51 (by decide) ?_
      exact J_zret E hr (Bd.z (Bd.lit 0 0 (by decide)) (by decide)) dX8_isHeld_52 ⟨rfl, rfl, ((Bd.lit 0 0 (by decide)).w 0 1 (by decide)), ((kx_X8_isHeld_0_A_34_2 (e2) (e5) (e8) (e14) (e17) (e23) (e25) (e28) (e31) (e36) (c10) (c37)).symm.trans hK)⟩
    · refine J_iconst E 1 dX8_isHeld_47 (by decide) ?_
      refine J_goto E 52 dX8_isHeld_48 (by decide) ?_
      exact J_zret E hr (Bd.z (Bd.lit 1 1 (by decide)) (by decide)) dX8_isHeld_52 ⟨rfl, rfl, ((Bd.lit 1 1 (by decide)).w 0 1 (by decide)), ((kx_X8_isHeld_0_A_34_3 (e2) (e5) (e8) (e14) (e17) (e23) (e25) (e28) (e31) (e36) (c10) (c37)).symm.trans hK)⟩

def K_X8_isHeld_0_T_0_e (G : Gm) (w : Mw) (v : Mv) (h0 : Nat) (x_3 : Int32) : Int32 :=
  if (v (rf G h0 3) (Int32.toNatClampNeg (((0 : Int32) + (9 : Int32)) + x_3))) = (-1 : Int32) then ((0 : Int32)) else (if (F_X8_weighsOf G w v h0 (0 : Int32) (v (rf G h0 3) (Int32.toNatClampNeg (((0 : Int32) + (9 : Int32)) + x_3))) (v (rf G h0 3) (Int32.toNatClampNeg ((0 : Int32) + (0 : Int32))))) ≤ (F_X8_liftsOf G w v h0 (0 : Int32) x_3 (v (rf G h0 3) (Int32.toNatClampNeg (((0 : Int32) + (2 : Int32)) + x_3)))) then ((0 : Int32)) else ((1 : Int32)))
def F_X8_isHeld_0_T_0 (G : Gm) (w : Mw) (v : Mv) (h0 : Nat) (x_3 : Int32) : Int32 := K_X8_isHeld_0_T_0_e G w v h0 x_3
set_option maxRecDepth 100000 in
theorem kx_X8_isHeld_0_T_0_1 {G : Gm} {w : Mw} {v : Mv} {h0 : Nat} {x_3 : Int32} {x1 : Int32} {x4 : Int32} {x7 : Int32} (a0 : x1 = (0 : Int32) + (9 : Int32)) (a1 : x4 = x1 + x_3) (a2 : x7 = v (rf G h0 3) (Int32.toNatClampNeg x4)) (k0 : x7 = (-1 : Int32)) : K_X8_isHeld_0_T_0_e G w v h0 x_3 = (0 : Int32) := by
  subst a2; subst a1; subst a0; first | rw [K_X8_isHeld_0_T_0_e, if_pos k0] | simp only [K_X8_isHeld_0_T_0_e, if_pos k0]
set_option maxRecDepth 100000 in
theorem kx_X8_isHeld_0_T_0_2 {G : Gm} {w : Mw} {v : Mv} {h0 : Nat} {x_3 : Int32} {x1 : Int32} {x4 : Int32} {x13 : Int32} {x7 : Int32} {x16 : Int32} {x24 : Int32} {x27 : Int32} {x30 : Int32} {x22 : Int32} {x35 : Int32} (a0 : x1 = (0 : Int32) + (9 : Int32)) (a1 : x4 = x1 + x_3) (a2 : x7 = v (rf G h0 3) (Int32.toNatClampNeg x4)) (a3 : x13 = (0 : Int32) + (0 : Int32)) (a4 : x16 = v (rf G h0 3) (Int32.toNatClampNeg x13)) (a5 : x22 = F_X8_weighsOf G w v h0 (0 : Int32) x7 x16) (a6 : x24 = (0 : Int32) + (2 : Int32)) (a7 : x27 = x24 + x_3) (a8 : x30 = v (rf G h0 3) (Int32.toNatClampNeg x27)) (a9 : x35 = F_X8_liftsOf G w v h0 (0 : Int32) x_3 x30) (k0 : ¬ (x7 = (-1 : Int32))) (k1 : x22 ≤ x35) : K_X8_isHeld_0_T_0_e G w v h0 x_3 = (0 : Int32) := by
  subst a9; subst a8; subst a7; subst a6; subst a5; subst a4; subst a3; subst a2; subst a1; subst a0; first | rw [K_X8_isHeld_0_T_0_e, if_neg k0, if_pos k1] | simp only [K_X8_isHeld_0_T_0_e, if_neg k0, if_pos k1]
set_option maxRecDepth 100000 in
theorem kx_X8_isHeld_0_T_0_3 {G : Gm} {w : Mw} {v : Mv} {h0 : Nat} {x_3 : Int32} {x1 : Int32} {x4 : Int32} {x13 : Int32} {x7 : Int32} {x16 : Int32} {x24 : Int32} {x27 : Int32} {x30 : Int32} {x22 : Int32} {x35 : Int32} (a0 : x1 = (0 : Int32) + (9 : Int32)) (a1 : x4 = x1 + x_3) (a2 : x7 = v (rf G h0 3) (Int32.toNatClampNeg x4)) (a3 : x13 = (0 : Int32) + (0 : Int32)) (a4 : x16 = v (rf G h0 3) (Int32.toNatClampNeg x13)) (a5 : x22 = F_X8_weighsOf G w v h0 (0 : Int32) x7 x16) (a6 : x24 = (0 : Int32) + (2 : Int32)) (a7 : x27 = x24 + x_3) (a8 : x30 = v (rf G h0 3) (Int32.toNatClampNeg x27)) (a9 : x35 = F_X8_liftsOf G w v h0 (0 : Int32) x_3 x30) (k0 : ¬ (x7 = (-1 : Int32))) (k1 : ¬ (x22 ≤ x35)) : K_X8_isHeld_0_T_0_e G w v h0 x_3 = (1 : Int32) := by
  subst a9; subst a8; subst a7; subst a6; subst a5; subst a4; subst a3; subst a2; subst a1; subst a0; first | rw [K_X8_isHeld_0_T_0_e, if_neg k0, if_neg k1] | simp only [K_X8_isHeld_0_T_0_e, if_neg k0, if_neg k1]
abbrev rm_X8_isHeld_0_T_0 : Room := { frames := 2, cells := 0, slots := 0, locals := 47 }
set_option maxHeartbeats 4000000 in
set_option maxRecDepth 100000 in
theorem ct_X8_isHeld_0_T_0 (l : Launch) (D : va_G) (dA : Nat → ClassId) (G : Gm) (v : Mv) (w : Mw) (hOk : Ok G v w) (h0 : Nat) (S0 : S_X8 G h0) (x_3 : Int32) (bx_3 : Bd x_3 0 6) : CtI l yX8_isHeld cX8_isHeld 6 (some .boolean) rm_X8_isHeld_0_T_0 D dA G [.ref h0, .int 0, .ref (rf G h0 3), .int 0, .int x_3] v w (fun r v1 w1 => v1 = v ∧ w1 = w ∧ Bd r 0 1 ∧ r = F_X8_isHeld_0_T_0 G w v h0 x_3) := by
  refine CtI.of RX8 [(0, .ref h0), (1, .int 0), (2, .ref (rf G h0 3)), (3, .int 0), (4, .int x_3)] (Nat.le_of_ble_eq_true rfl) rfl (by decide) rfl ?_
  intro p e s m args below meth c E hr
  have hK : K_X8_isHeld_0_T_0_e G w v h0 x_3 = F_X8_isHeld_0_T_0 G w v h0 x_3 := rfl
  refine J_aload_n E dX8_isHeld_0 2 rfl ?_
  refine J_iload_n E dX8_isHeld_1 3 rfl ?_
  refine J_bipush E 9 dX8_isHeld_2 (by decide) ?_
  refine J_iadd E dX8_isHeld_4 (fun x1 e2 => ?_)
  have b3 : Bd x1 9 9 := (Bd.add e2 (Bd.lit 0 0 (by decide)) (Bd.lit 9 9 (by decide)) (by decide)).w _ _ (by decide)
  refine J_iload E dX8_isHeld_5 4 rfl ?_
  refine J_iadd E dX8_isHeld_7 (fun x4 e5 => ?_)
  have b6 : Bd x4 9 15 := (Bd.add e5 b3 bx_3 (by decide)).w _ _ (by decide)
  refine J_iald1 E (S_X8.f3 S0) (Bd.in b6 (by decide)) dX8_isHeld_8 (fun x7 e8 => ?_)
  have b9 : Bd x7 (-1) 6 := Bd.e (Ok.ld hOk (S_X8.f3 S0) b6 9 7 (-1) 6 (by decide) (by decide +kernel)) e8
  refine J_istore E [(5, .int x7), (0, .ref h0), (1, .int 0), (2, .ref (rf G h0 3)), (3, .int 0), (4, .int x_3)] dX8_isHeld_9 (by decide) rfl ?_
  refine J_iload E dX8_isHeld_11 0 rfl ?_
  refine J_iconst E (-1) dX8_isHeld_13 (by decide) ?_
  refine J_icmp_eq E 51 dX8_isHeld_14 (by decide) (fun c10 => ?_) (fun c10 => ?_)
  · have b11 : Bd x7 (-1) (-1) := Bd.eq_l c10 b9 (Bd.lit (-1) (-1) (by decide)) (-1) (-1) (by decide)
    refine J_iconst E 0 dX8_isHeld_51 (by decide) ?_
    exact J_zret E hr (Bd.z (Bd.lit 0 0 (by decide)) (by decide)) dX8_isHeld_52 ⟨rfl, rfl, ((Bd.lit 0 0 (by decide)).w 0 1 (by decide)), ((kx_X8_isHeld_0_T_0_1 (e2) (e5) (e8) (c10)).symm.trans hK)⟩
  · have b12 : Bd x7 0 6 := (Bd.ne_lo c10 b9 (Bd.lit (-1) (-1) (by decide))).w _ _ (by decide)
    refine J_aload_n E dX8_isHeld_17 1 rfl ?_
    refine J_iload_n E dX8_isHeld_18 2 rfl ?_
    refine J_iload E dX8_isHeld_19 0 rfl ?_
    refine J_aload_n E dX8_isHeld_21 3 rfl ?_
    refine J_iload_n E dX8_isHeld_22 4 rfl ?_
    refine J_iconst E 0 dX8_isHeld_23 (by decide) ?_
    refine J_iadd E dX8_isHeld_24 (fun x13 e14 => ?_)
    have b15 : Bd x13 0 0 := (Bd.add e14 (Bd.lit 0 0 (by decide)) (Bd.lit 0 0 (by decide)) (by decide)).w _ _ (by decide)
    refine J_iald1 E (S_X8.f3 S0) (Bd.in b15 (by decide)) dX8_isHeld_25 (fun x16 e17 => ?_)
    have e18 : x16 = v (rf G h0 3) 0 := by rw [e17, Bd.ix b15 0 rfl]
    refine J_callVI E cal_X8_weighsOf wd1098 rfl (S_X8.h S0) [.int 0, .int x7, .int x16] [] (ct_X8_weighsOf l D dA G v w (hOk) h0 S0 0 ((Bd.lit 0 0 (by decide)).w 0 738 (by decide)) x7 b12 x16) rfl rfl (Nat.le_of_ble_eq_true rfl) ⟨rfl, rfl⟩ ⟨Nat.le_of_ble_eq_true rfl, Nat.le_of_ble_eq_true rfl⟩ dX8_isHeld_26 (fun x22 v19 w20 p21 => ?_)
    rw [p21.1, p21.2.1]
    have e23 : x22 = F_X8_weighsOf G w v h0 (0 : Int32) x7 x16 := (p21.2.2.2)
    refine J_aload_n E dX8_isHeld_29 1 rfl ?_
    refine J_iload_n E dX8_isHeld_30 2 rfl ?_
    refine J_iload E dX8_isHeld_31 5 rfl ?_
    refine J_aload_n E dX8_isHeld_33 3 rfl ?_
    refine J_iload_n E dX8_isHeld_34 4 rfl ?_
    refine J_iconst E 2 dX8_isHeld_35 (by decide) ?_
    refine J_iadd E dX8_isHeld_36 (fun x24 e25 => ?_)
    have b26 : Bd x24 2 2 := (Bd.add e25 (Bd.lit 0 0 (by decide)) (Bd.lit 2 2 (by decide)) (by decide)).w _ _ (by decide)
    refine J_iload E dX8_isHeld_37 5 rfl ?_
    refine J_iadd E dX8_isHeld_39 (fun x27 e28 => ?_)
    have b29 : Bd x27 2 8 := (Bd.add e28 b26 bx_3 (by decide)).w _ _ (by decide)
    refine J_iald1 E (S_X8.f3 S0) (Bd.in b29 (by decide)) dX8_isHeld_40 (fun x30 e31 => ?_)
    refine J_callVI E cal_X8_liftsOf wd1105 rfl (S_X8.h S0) [.int 0, .int x_3, .int x30] [.int x22] (ct_X8_liftsOf l D dA G v w (hOk) h0 S0 0 ((Bd.lit 0 0 (by decide)).w 0 738 (by decide)) x_3 bx_3 x30) rfl rfl (Nat.le_of_ble_eq_true rfl) ⟨rfl, rfl⟩ ⟨Nat.le_of_ble_eq_true rfl, Nat.le_of_ble_eq_true rfl⟩ dX8_isHeld_41 (fun x35 v32 w33 p34 => ?_)
    rw [p34.1, p34.2.1]
    have e36 : x35 = F_X8_liftsOf G w v h0 (0 : Int32) x_3 x30 := (p34.2.2.2)
    refine J_icmp_le E 51 dX8_isHeld_44 (by decide) (fun c37 => ?_) (fun c37 => ?_)
    · refine J_iconst E 0 dX8_isHeld_51 (by decide) ?_
      exact J_zret E hr (Bd.z (Bd.lit 0 0 (by decide)) (by decide)) dX8_isHeld_52 ⟨rfl, rfl, ((Bd.lit 0 0 (by decide)).w 0 1 (by decide)), ((kx_X8_isHeld_0_T_0_2 (e2) (e5) (e8) (e14) (e17) (e23) (e25) (e28) (e31) (e36) (c10) (c37)).symm.trans hK)⟩
    · refine J_iconst E 1 dX8_isHeld_47 (by decide) ?_
      refine J_goto E 52 dX8_isHeld_48 (by decide) ?_
      exact J_zret E hr (Bd.z (Bd.lit 1 1 (by decide)) (by decide)) dX8_isHeld_52 ⟨rfl, rfl, ((Bd.lit 1 1 (by decide)).w 0 1 (by decide)), ((kx_X8_isHeld_0_T_0_3 (e2) (e5) (e8) (e14) (e17) (e23) (e25) (e28) (e31) (e36) (c10) (c37)).symm.trans hK)⟩

def K_X8_isHeld_738_A_772_e (G : Gm) (w : Mw) (v : Mv) (h0 : Nat) (x_3 : Int32) : Int32 :=
  if (v (rf G h0 1) (Int32.toNatClampNeg (((772 : Int32) + (9 : Int32)) + x_3))) = (-1 : Int32) then ((0 : Int32)) else (if (F_X8_weighsOf G w v h0 (738 : Int32) (v (rf G h0 1) (Int32.toNatClampNeg (((772 : Int32) + (9 : Int32)) + x_3))) (v (rf G h0 1) (Int32.toNatClampNeg ((772 : Int32) + (0 : Int32))))) ≤ (F_X8_liftsOf G w v h0 (738 : Int32) x_3 (v (rf G h0 1) (Int32.toNatClampNeg (((772 : Int32) + (2 : Int32)) + x_3)))) then ((0 : Int32)) else ((1 : Int32)))
def F_X8_isHeld_738_A_772 (G : Gm) (w : Mw) (v : Mv) (h0 : Nat) (x_3 : Int32) : Int32 := K_X8_isHeld_738_A_772_e G w v h0 x_3
set_option maxRecDepth 100000 in
theorem kx_X8_isHeld_738_A_772_1 {G : Gm} {w : Mw} {v : Mv} {h0 : Nat} {x_3 : Int32} {x1 : Int32} {x4 : Int32} {x7 : Int32} (a0 : x1 = (772 : Int32) + (9 : Int32)) (a1 : x4 = x1 + x_3) (a2 : x7 = v (rf G h0 1) (Int32.toNatClampNeg x4)) (k0 : x7 = (-1 : Int32)) : K_X8_isHeld_738_A_772_e G w v h0 x_3 = (0 : Int32) := by
  subst a2; subst a1; subst a0; first | rw [K_X8_isHeld_738_A_772_e, if_pos k0] | simp only [K_X8_isHeld_738_A_772_e, if_pos k0]
set_option maxRecDepth 100000 in
theorem kx_X8_isHeld_738_A_772_2 {G : Gm} {w : Mw} {v : Mv} {h0 : Nat} {x_3 : Int32} {x1 : Int32} {x4 : Int32} {x13 : Int32} {x7 : Int32} {x16 : Int32} {x24 : Int32} {x27 : Int32} {x30 : Int32} {x22 : Int32} {x35 : Int32} (a0 : x1 = (772 : Int32) + (9 : Int32)) (a1 : x4 = x1 + x_3) (a2 : x7 = v (rf G h0 1) (Int32.toNatClampNeg x4)) (a3 : x13 = (772 : Int32) + (0 : Int32)) (a4 : x16 = v (rf G h0 1) (Int32.toNatClampNeg x13)) (a5 : x22 = F_X8_weighsOf G w v h0 (738 : Int32) x7 x16) (a6 : x24 = (772 : Int32) + (2 : Int32)) (a7 : x27 = x24 + x_3) (a8 : x30 = v (rf G h0 1) (Int32.toNatClampNeg x27)) (a9 : x35 = F_X8_liftsOf G w v h0 (738 : Int32) x_3 x30) (k0 : ¬ (x7 = (-1 : Int32))) (k1 : x22 ≤ x35) : K_X8_isHeld_738_A_772_e G w v h0 x_3 = (0 : Int32) := by
  subst a9; subst a8; subst a7; subst a6; subst a5; subst a4; subst a3; subst a2; subst a1; subst a0; first | rw [K_X8_isHeld_738_A_772_e, if_neg k0, if_pos k1] | simp only [K_X8_isHeld_738_A_772_e, if_neg k0, if_pos k1]
set_option maxRecDepth 100000 in
theorem kx_X8_isHeld_738_A_772_3 {G : Gm} {w : Mw} {v : Mv} {h0 : Nat} {x_3 : Int32} {x1 : Int32} {x4 : Int32} {x13 : Int32} {x7 : Int32} {x16 : Int32} {x24 : Int32} {x27 : Int32} {x30 : Int32} {x22 : Int32} {x35 : Int32} (a0 : x1 = (772 : Int32) + (9 : Int32)) (a1 : x4 = x1 + x_3) (a2 : x7 = v (rf G h0 1) (Int32.toNatClampNeg x4)) (a3 : x13 = (772 : Int32) + (0 : Int32)) (a4 : x16 = v (rf G h0 1) (Int32.toNatClampNeg x13)) (a5 : x22 = F_X8_weighsOf G w v h0 (738 : Int32) x7 x16) (a6 : x24 = (772 : Int32) + (2 : Int32)) (a7 : x27 = x24 + x_3) (a8 : x30 = v (rf G h0 1) (Int32.toNatClampNeg x27)) (a9 : x35 = F_X8_liftsOf G w v h0 (738 : Int32) x_3 x30) (k0 : ¬ (x7 = (-1 : Int32))) (k1 : ¬ (x22 ≤ x35)) : K_X8_isHeld_738_A_772_e G w v h0 x_3 = (1 : Int32) := by
  subst a9; subst a8; subst a7; subst a6; subst a5; subst a4; subst a3; subst a2; subst a1; subst a0; first | rw [K_X8_isHeld_738_A_772_e, if_neg k0, if_neg k1] | simp only [K_X8_isHeld_738_A_772_e, if_neg k0, if_neg k1]
abbrev rm_X8_isHeld_738_A_772 : Room := { frames := 2, cells := 0, slots := 0, locals := 47 }
set_option maxHeartbeats 4000000 in
set_option maxRecDepth 100000 in
theorem ct_X8_isHeld_738_A_772 (l : Launch) (D : va_G) (dA : Nat → ClassId) (G : Gm) (v : Mv) (w : Mw) (hOk : Ok G v w) (h0 : Nat) (S0 : S_X8 G h0) (x_3 : Int32) (bx_3 : Bd x_3 0 6) : CtI l yX8_isHeld cX8_isHeld 6 (some .boolean) rm_X8_isHeld_738_A_772 D dA G [.ref h0, .int 738, .ref (rf G h0 1), .int 772, .int x_3] v w (fun r v1 w1 => v1 = v ∧ w1 = w ∧ Bd r 0 1 ∧ r = F_X8_isHeld_738_A_772 G w v h0 x_3) := by
  refine CtI.of RX8 [(0, .ref h0), (1, .int 738), (2, .ref (rf G h0 1)), (3, .int 772), (4, .int x_3)] (Nat.le_of_ble_eq_true rfl) rfl (by decide) rfl ?_
  intro p e s m args below meth c E hr
  have hK : K_X8_isHeld_738_A_772_e G w v h0 x_3 = F_X8_isHeld_738_A_772 G w v h0 x_3 := rfl
  refine J_aload_n E dX8_isHeld_0 2 rfl ?_
  refine J_iload_n E dX8_isHeld_1 3 rfl ?_
  refine J_bipush E 9 dX8_isHeld_2 (by decide) ?_
  refine J_iadd E dX8_isHeld_4 (fun x1 e2 => ?_)
  have b3 : Bd x1 781 781 := (Bd.add e2 (Bd.lit 772 772 (by decide)) (Bd.lit 9 9 (by decide)) (by decide)).w _ _ (by decide)
  refine J_iload E dX8_isHeld_5 4 rfl ?_
  refine J_iadd E dX8_isHeld_7 (fun x4 e5 => ?_)
  have b6 : Bd x4 781 787 := (Bd.add e5 b3 bx_3 (by decide)).w _ _ (by decide)
  refine J_iald1 E (S_X8.f1 S0) (Bd.in b6 (by decide)) dX8_isHeld_8 (fun x7 e8 => ?_)
  have b9 : Bd x7 (-1) 6 := Bd.e (Ok.ld hOk (S_X8.f1 S0) b6 781 7 (-1) 6 (by decide) (by decide +kernel)) e8
  refine J_istore E [(5, .int x7), (0, .ref h0), (1, .int 738), (2, .ref (rf G h0 1)), (3, .int 772), (4, .int x_3)] dX8_isHeld_9 (by decide) rfl ?_
  refine J_iload E dX8_isHeld_11 0 rfl ?_
  refine J_iconst E (-1) dX8_isHeld_13 (by decide) ?_
  refine J_icmp_eq E 51 dX8_isHeld_14 (by decide) (fun c10 => ?_) (fun c10 => ?_)
  · have b11 : Bd x7 (-1) (-1) := Bd.eq_l c10 b9 (Bd.lit (-1) (-1) (by decide)) (-1) (-1) (by decide)
    refine J_iconst E 0 dX8_isHeld_51 (by decide) ?_
    exact J_zret E hr (Bd.z (Bd.lit 0 0 (by decide)) (by decide)) dX8_isHeld_52 ⟨rfl, rfl, ((Bd.lit 0 0 (by decide)).w 0 1 (by decide)), ((kx_X8_isHeld_738_A_772_1 (e2) (e5) (e8) (c10)).symm.trans hK)⟩
  · have b12 : Bd x7 0 6 := (Bd.ne_lo c10 b9 (Bd.lit (-1) (-1) (by decide))).w _ _ (by decide)
    refine J_aload_n E dX8_isHeld_17 1 rfl ?_
    refine J_iload_n E dX8_isHeld_18 2 rfl ?_
    refine J_iload E dX8_isHeld_19 0 rfl ?_
    refine J_aload_n E dX8_isHeld_21 3 rfl ?_
    refine J_iload_n E dX8_isHeld_22 4 rfl ?_
    refine J_iconst E 0 dX8_isHeld_23 (by decide) ?_
    refine J_iadd E dX8_isHeld_24 (fun x13 e14 => ?_)
    have b15 : Bd x13 772 772 := (Bd.add e14 (Bd.lit 772 772 (by decide)) (Bd.lit 0 0 (by decide)) (by decide)).w _ _ (by decide)
    refine J_iald1 E (S_X8.f1 S0) (Bd.in b15 (by decide)) dX8_isHeld_25 (fun x16 e17 => ?_)
    have e18 : x16 = v (rf G h0 1) 772 := by rw [e17, Bd.ix b15 772 rfl]
    refine J_callVI E cal_X8_weighsOf wd1098 rfl (S_X8.h S0) [.int 738, .int x7, .int x16] [] (ct_X8_weighsOf l D dA G v w (hOk) h0 S0 738 ((Bd.lit 738 738 (by decide)).w 0 738 (by decide)) x7 b12 x16) rfl rfl (Nat.le_of_ble_eq_true rfl) ⟨rfl, rfl⟩ ⟨Nat.le_of_ble_eq_true rfl, Nat.le_of_ble_eq_true rfl⟩ dX8_isHeld_26 (fun x22 v19 w20 p21 => ?_)
    rw [p21.1, p21.2.1]
    have e23 : x22 = F_X8_weighsOf G w v h0 (738 : Int32) x7 x16 := (p21.2.2.2)
    refine J_aload_n E dX8_isHeld_29 1 rfl ?_
    refine J_iload_n E dX8_isHeld_30 2 rfl ?_
    refine J_iload E dX8_isHeld_31 5 rfl ?_
    refine J_aload_n E dX8_isHeld_33 3 rfl ?_
    refine J_iload_n E dX8_isHeld_34 4 rfl ?_
    refine J_iconst E 2 dX8_isHeld_35 (by decide) ?_
    refine J_iadd E dX8_isHeld_36 (fun x24 e25 => ?_)
    have b26 : Bd x24 774 774 := (Bd.add e25 (Bd.lit 772 772 (by decide)) (Bd.lit 2 2 (by decide)) (by decide)).w _ _ (by decide)
    refine J_iload E dX8_isHeld_37 5 rfl ?_
    refine J_iadd E dX8_isHeld_39 (fun x27 e28 => ?_)
    have b29 : Bd x27 774 780 := (Bd.add e28 b26 bx_3 (by decide)).w _ _ (by decide)
    refine J_iald1 E (S_X8.f1 S0) (Bd.in b29 (by decide)) dX8_isHeld_40 (fun x30 e31 => ?_)
    refine J_callVI E cal_X8_liftsOf wd1105 rfl (S_X8.h S0) [.int 738, .int x_3, .int x30] [.int x22] (ct_X8_liftsOf l D dA G v w (hOk) h0 S0 738 ((Bd.lit 738 738 (by decide)).w 0 738 (by decide)) x_3 bx_3 x30) rfl rfl (Nat.le_of_ble_eq_true rfl) ⟨rfl, rfl⟩ ⟨Nat.le_of_ble_eq_true rfl, Nat.le_of_ble_eq_true rfl⟩ dX8_isHeld_41 (fun x35 v32 w33 p34 => ?_)
    rw [p34.1, p34.2.1]
    have e36 : x35 = F_X8_liftsOf G w v h0 (738 : Int32) x_3 x30 := (p34.2.2.2)
    refine J_icmp_le E 51 dX8_isHeld_44 (by decide) (fun c37 => ?_) (fun c37 => ?_)
    · refine J_iconst E 0 dX8_isHeld_51 (by decide) ?_
      exact J_zret E hr (Bd.z (Bd.lit 0 0 (by decide)) (by decide)) dX8_isHeld_52 ⟨rfl, rfl, ((Bd.lit 0 0 (by decide)).w 0 1 (by decide)), ((kx_X8_isHeld_738_A_772_2 (e2) (e5) (e8) (e14) (e17) (e23) (e25) (e28) (e31) (e36) (c10) (c37)).symm.trans hK)⟩
    · refine J_iconst E 1 dX8_isHeld_47 (by decide) ?_
      refine J_goto E 52 dX8_isHeld_48 (by decide) ?_
      exact J_zret E hr (Bd.z (Bd.lit 1 1 (by decide)) (by decide)) dX8_isHeld_52 ⟨rfl, rfl, ((Bd.lit 1 1 (by decide)).w 0 1 (by decide)), ((kx_X8_isHeld_738_A_772_3 (e2) (e5) (e8) (e14) (e17) (e23) (e25) (e28) (e31) (e36) (c10) (c37)).symm.trans hK)⟩

def K_X8_passOn_0_A_34_99 (G : Gm) (w : Mw) (h0 : Nat) (rec10 : Mv → Int32 → Int32 → Int32 → Int32 → Mv) (v12 : Mv) (x19 : Int32) (x20 : Int32) (x7 : Int32) (x8 : Int32) : Mv :=
  rec10 v12 (0 : Int32) (34 : Int32) x7 (x8 + (1 : Int32))
def K_X8_passOn_0_A_34_72 (G : Gm) (w : Mw) (h0 : Nat) (rec10 : Mv → Int32 → Int32 → Int32 → Int32 → Mv) (v1 : Mv) (x32 : Int32) (x33 : Int32) (x7 : Int32) (x8 : Int32) (x27 : Int32) (x29 : Int32) (x30 : Int32) : Mv :=
  K_X8_passOn_0_A_34_99 G w h0 rec10 (stv v1 (rf G h0 1) (Int32.toNatClampNeg x30) (x29 + x27)) (0 : Int32) (34 : Int32) x7 x8
def K_X8_passOn_0_A_34_10 (G : Gm) (w : Mw) (h0 : Nat) : Nat → Mv → Int32 → Int32 → Int32 → Int32 → Mv
  | 0, _, _, _, _, _ => (fun _ _ => 0 : Mv)
  | n10 + 1, v1, x10, x11, x7, x8 =>
    if (v1 (rf G h0 1) (Int32.toNatClampNeg ((0 : Int32) + (1 : Int32)))) ≤ x8 then ((stv v1 (rf G h0 1) (Int32.toNatClampNeg ((34 : Int32) + (0 : Int32))) ((v1 (rf G h0 1) (Int32.toNatClampNeg ((34 : Int32) + (0 : Int32)))) + (1 : Int32)))) else (if (F_X8_has G w v1 x7 x8) = (0 : Int32) then (if (F_X8_isHeld_0_A_34 G w v1 h0 x8) = (0 : Int32) then (K_X8_passOn_0_A_34_99 G w h0 (K_X8_passOn_0_A_34_10 G w h0 n10) (stv (stv v1 (rf G h0 1) (Int32.toNatClampNeg ((34 : Int32) + (1 : Int32))) ((v1 (rf G h0 1) (Int32.toNatClampNeg ((34 : Int32) + (1 : Int32)))) ||| ((1 : Int32) <<< (x8 &&& 31)))) (rf G h0 1) (Int32.toNatClampNeg (((34 : Int32) + (9 : Int32)) + x8)) (-1 : Int32)) (0 : Int32) (34 : Int32) x7 x8) else (if (99 : Int32) ≤ (v1 (rf G h0 1) (Int32.toNatClampNeg (((34 : Int32) + (2 : Int32)) + x8))) then (K_X8_passOn_0_A_34_72 G w h0 (K_X8_passOn_0_A_34_10 G w h0 n10) v1 (0 : Int32) (34 : Int32) x7 x8 (0 : Int32) (v1 (rf G h0 1) (Int32.toNatClampNeg (((34 : Int32) + (2 : Int32)) + x8))) (((34 : Int32) + (2 : Int32)) + x8)) else (K_X8_passOn_0_A_34_72 G w h0 (K_X8_passOn_0_A_34_10 G w h0 n10) v1 (0 : Int32) (34 : Int32) x7 x8 (1 : Int32) (v1 (rf G h0 1) (Int32.toNatClampNeg (((34 : Int32) + (2 : Int32)) + x8))) (((34 : Int32) + (2 : Int32)) + x8)))) else (K_X8_passOn_0_A_34_99 G w h0 (K_X8_passOn_0_A_34_10 G w h0 n10) v1 (0 : Int32) (34 : Int32) x7 x8))
def K_X8_passOn_0_A_34_e (G : Gm) (w : Mw) (v : Mv) (h0 : Nat) : Mv :=
  K_X8_passOn_0_A_34_10 G w h0 8 v (0 : Int32) (34 : Int32) (v (rf G h0 1) (Int32.toNatClampNeg ((34 : Int32) + (1 : Int32)))) (0 : Int32)
def F_X8_passOn_0_A_34 (G : Gm) (w : Mw) (v : Mv) (h0 : Nat) : Mv := K_X8_passOn_0_A_34_e G w v h0
set_option maxRecDepth 100000 in
theorem kx_X8_passOn_0_A_34_1 {G : Gm} {w : Mw} {h0 : Nat} {rec10 : Mv → Int32 → Int32 → Int32 → Int32 → Mv} {v12 : Mv} {x7 : Int32} {x8 : Int32} {x21 : Int32} (a0 : x21 = x8 + (1 : Int32))  : K_X8_passOn_0_A_34_99 G w h0 rec10 v12 (0 : Int32) (34 : Int32) x7 x8 = rec10 v12 (0 : Int32) (34 : Int32) x7 x21 := by
  subst a0; first | rw [K_X8_passOn_0_A_34_99] | simp only [K_X8_passOn_0_A_34_99]
set_option maxRecDepth 100000 in
theorem kx_X8_passOn_0_A_34_2 {G : Gm} {w : Mw} {h0 : Nat} {rec10 : Mv → Int32 → Int32 → Int32 → Int32 → Mv} {v1 : Mv} {x7 : Int32} {x8 : Int32} {x27 : Int32} {x29 : Int32} {x30 : Int32} {v36 : Mv} {x34 : Int32} (a0 : x34 = x29 + x27) (a1 : v36 = stv v1 (rf G h0 1) (Int32.toNatClampNeg x30) x34)  : K_X8_passOn_0_A_34_72 G w h0 rec10 v1 (0 : Int32) (34 : Int32) x7 x8 x27 x29 x30 = K_X8_passOn_0_A_34_99 G w h0 rec10 v36 (0 : Int32) (34 : Int32) x7 x8 := by
  subst a1; subst a0; first | rw [K_X8_passOn_0_A_34_72] | simp only [K_X8_passOn_0_A_34_72]
set_option maxRecDepth 100000 in
theorem kx_X8_passOn_0_A_34_3 {G : Gm} {w : Mw} {h0 : Nat} {n10 : Nat} {v1 : Mv} {x7 : Int32} {x8 : Int32} {v57 : Mv} {x41 : Int32} {x49 : Int32} {x52 : Int32} {x55 : Int32} {x44 : Int32} (a0 : x41 = (0 : Int32) + (1 : Int32)) (a1 : x44 = v1 (rf G h0 1) (Int32.toNatClampNeg x41)) (a2 : x49 = (34 : Int32) + (0 : Int32)) (a3 : x52 = v1 (rf G h0 1) (Int32.toNatClampNeg x49)) (a4 : x55 = x52 + (1 : Int32)) (a5 : v57 = stv v1 (rf G h0 1) (Int32.toNatClampNeg x49) x55) (k0 : x44 ≤ x8) : K_X8_passOn_0_A_34_10 G w h0 (n10 + 1) v1 (0 : Int32) (34 : Int32) x7 x8 = v57 := by
  subst a5; subst a4; subst a3; subst a2; subst a1; subst a0; first | rw [K_X8_passOn_0_A_34_10, if_pos k0] | simp only [K_X8_passOn_0_A_34_10, if_pos k0]
set_option maxRecDepth 100000 in
theorem kx_X8_passOn_0_A_34_4 {G : Gm} {w : Mw} {h0 : Nat} {n10 : Nat} {v1 : Mv} {x7 : Int32} {x8 : Int32} {x41 : Int32} {x44 : Int32} {x69 : Int32} (a0 : x41 = (0 : Int32) + (1 : Int32)) (a1 : x44 = v1 (rf G h0 1) (Int32.toNatClampNeg x41)) (a2 : x69 = F_X8_has G w v1 x7 x8) (k0 : ¬ (x44 ≤ x8)) (k1 : ¬ (x69 = (0 : Int32))) : K_X8_passOn_0_A_34_10 G w h0 (n10 + 1) v1 (0 : Int32) (34 : Int32) x7 x8 = K_X8_passOn_0_A_34_99 G w h0 (K_X8_passOn_0_A_34_10 G w h0 n10) v1 (0 : Int32) (34 : Int32) x7 x8 := by
  subst a2; subst a1; subst a0; first | rw [K_X8_passOn_0_A_34_10, if_neg k0, if_neg k1] | simp only [K_X8_passOn_0_A_34_10, if_neg k0, if_neg k1]
set_option maxRecDepth 100000 in
theorem kx_X8_passOn_0_A_34_5 {G : Gm} {w : Mw} {h0 : Nat} {n10 : Nat} {v1 : Mv} {x7 : Int32} {x8 : Int32} {v107 : Mv} {x41 : Int32} {x83 : Int32} {x86 : Int32} {x89 : Int32} {x92 : Int32} {x101 : Int32} {v94 : Mv} {x104 : Int32} {x44 : Int32} {x69 : Int32} {x78 : Int32} (a0 : x41 = (0 : Int32) + (1 : Int32)) (a1 : x44 = v1 (rf G h0 1) (Int32.toNatClampNeg x41)) (a2 : x69 = F_X8_has G w v1 x7 x8) (a3 : x78 = F_X8_isHeld_0_A_34 G w v1 h0 x8) (a4 : x83 = (34 : Int32) + (1 : Int32)) (a5 : x86 = v1 (rf G h0 1) (Int32.toNatClampNeg x83)) (a6 : x89 = (1 : Int32) <<< (x8 &&& 31)) (a7 : x92 = x86 ||| x89) (a8 : v94 = stv v1 (rf G h0 1) (Int32.toNatClampNeg x83) x92) (a9 : x101 = (34 : Int32) + (9 : Int32)) (a10 : x104 = x101 + x8) (a11 : v107 = stv v94 (rf G h0 1) (Int32.toNatClampNeg x104) (-1 : Int32)) (k0 : ¬ (x44 ≤ x8)) (k1 : x69 = (0 : Int32)) (k2 : x78 = (0 : Int32)) : K_X8_passOn_0_A_34_10 G w h0 (n10 + 1) v1 (0 : Int32) (34 : Int32) x7 x8 = K_X8_passOn_0_A_34_99 G w h0 (K_X8_passOn_0_A_34_10 G w h0 n10) v107 (0 : Int32) (34 : Int32) x7 x8 := by
  subst a11; subst a10; subst a9; subst a8; subst a7; subst a6; subst a5; subst a4; subst a3; subst a2; subst a1; subst a0; first | rw [K_X8_passOn_0_A_34_10, if_neg k0, if_pos k1, if_pos k2] | simp only [K_X8_passOn_0_A_34_10, if_neg k0, if_pos k1, if_pos k2]
set_option maxRecDepth 100000 in
theorem kx_X8_passOn_0_A_34_6 {G : Gm} {w : Mw} {h0 : Nat} {n10 : Nat} {v1 : Mv} {x7 : Int32} {x8 : Int32} {x121 : Int32} {x118 : Int32} {x41 : Int32} {x115 : Int32} {x123 : Int32} {x126 : Int32} {x44 : Int32} {x69 : Int32} {x78 : Int32} {x129 : Int32} (a0 : x41 = (0 : Int32) + (1 : Int32)) (a1 : x44 = v1 (rf G h0 1) (Int32.toNatClampNeg x41)) (a2 : x69 = F_X8_has G w v1 x7 x8) (a3 : x78 = F_X8_isHeld_0_A_34 G w v1 h0 x8) (a4 : x115 = (34 : Int32) + (2 : Int32)) (a5 : x118 = x115 + x8) (a6 : x121 = v1 (rf G h0 1) (Int32.toNatClampNeg x118)) (a7 : x123 = (34 : Int32) + (2 : Int32)) (a8 : x126 = x123 + x8) (a9 : x129 = v1 (rf G h0 1) (Int32.toNatClampNeg x126)) (k0 : ¬ (x44 ≤ x8)) (k1 : x69 = (0 : Int32)) (k2 : ¬ (x78 = (0 : Int32))) (k3 : (99 : Int32) ≤ x129) : K_X8_passOn_0_A_34_10 G w h0 (n10 + 1) v1 (0 : Int32) (34 : Int32) x7 x8 = K_X8_passOn_0_A_34_72 G w h0 (K_X8_passOn_0_A_34_10 G w h0 n10) v1 (0 : Int32) (34 : Int32) x7 x8 (0 : Int32) x121 x118 := by
  subst a9; subst a8; subst a7; subst a6; subst a5; subst a4; subst a3; subst a2; subst a1; subst a0; first | rw [K_X8_passOn_0_A_34_10, if_neg k0, if_pos k1, if_neg k2, if_pos k3] | simp only [K_X8_passOn_0_A_34_10, if_neg k0, if_pos k1, if_neg k2, if_pos k3]
set_option maxRecDepth 100000 in
theorem kx_X8_passOn_0_A_34_7 {G : Gm} {w : Mw} {h0 : Nat} {n10 : Nat} {v1 : Mv} {x7 : Int32} {x8 : Int32} {x121 : Int32} {x118 : Int32} {x41 : Int32} {x115 : Int32} {x123 : Int32} {x126 : Int32} {x44 : Int32} {x69 : Int32} {x78 : Int32} {x129 : Int32} (a0 : x41 = (0 : Int32) + (1 : Int32)) (a1 : x44 = v1 (rf G h0 1) (Int32.toNatClampNeg x41)) (a2 : x69 = F_X8_has G w v1 x7 x8) (a3 : x78 = F_X8_isHeld_0_A_34 G w v1 h0 x8) (a4 : x115 = (34 : Int32) + (2 : Int32)) (a5 : x118 = x115 + x8) (a6 : x121 = v1 (rf G h0 1) (Int32.toNatClampNeg x118)) (a7 : x123 = (34 : Int32) + (2 : Int32)) (a8 : x126 = x123 + x8) (a9 : x129 = v1 (rf G h0 1) (Int32.toNatClampNeg x126)) (k0 : ¬ (x44 ≤ x8)) (k1 : x69 = (0 : Int32)) (k2 : ¬ (x78 = (0 : Int32))) (k3 : ¬ ((99 : Int32) ≤ x129)) : K_X8_passOn_0_A_34_10 G w h0 (n10 + 1) v1 (0 : Int32) (34 : Int32) x7 x8 = K_X8_passOn_0_A_34_72 G w h0 (K_X8_passOn_0_A_34_10 G w h0 n10) v1 (0 : Int32) (34 : Int32) x7 x8 (1 : Int32) x121 x118 := by
  subst a9; subst a8; subst a7; subst a6; subst a5; subst a4; subst a3; subst a2; subst a1; subst a0; first | rw [K_X8_passOn_0_A_34_10, if_neg k0, if_pos k1, if_neg k2, if_neg k3] | simp only [K_X8_passOn_0_A_34_10, if_neg k0, if_pos k1, if_neg k2, if_neg k3]
set_option maxRecDepth 100000 in
theorem kx_X8_passOn_0_A_34_8 {G : Gm} {w : Mw} {v : Mv} {h0 : Nat} {x137 : Int32} {x134 : Int32} (a0 : x134 = (34 : Int32) + (1 : Int32)) (a1 : x137 = v (rf G h0 1) (Int32.toNatClampNeg x134))  : K_X8_passOn_0_A_34_e G w v h0 = K_X8_passOn_0_A_34_10 G w h0 8 v (0 : Int32) (34 : Int32) x137 (0 : Int32) := by
  subst a1; subst a0; first | rw [K_X8_passOn_0_A_34_e] | simp only [K_X8_passOn_0_A_34_e]
abbrev rm_X8_passOn_0_A_34 : Room := { frames := 3, cells := 0, slots := 0, locals := 72 }
set_option maxHeartbeats 4000000 in
set_option maxRecDepth 100000 in
theorem ct_X8_passOn_0_A_34 (l : Launch) (D : va_G) (dA : Nat → ClassId) (G : Gm) (v : Mv) (w : Mw) (hOk : Ok G v w) (h0 : Nat) (S0 : S_X8 G h0) : CtV l yX8_passOn cX8_passOn 6 none rm_X8_passOn_0_A_34 D dA G [.ref h0, .int 0, .ref (rf G h0 1), .int 34] v w (fun v1 w1 => Ok G v1 w1 ∧ Kp G v v1 ∧ (w1 = w ∧ v1 = F_X8_passOn_0_A_34 G w v h0) ∧ Fr G [116, 1084] v v1) := by
  refine CtV.of RX8 [(0, .ref h0), (1, .int 0), (2, .ref (rf G h0 1)), (3, .int 34)] (Nat.le_of_ble_eq_true rfl) rfl (by decide) rfl ?_
  intro p e s m args below meth c E hr
  have J10 : ∀ n10 : Nat, ∀ (v1 : Mv), Ok G v1 w → Kp G v v1 → Fr G [116, 1084] v v1 → Bd 0 0 0 → Bd 34 34 34 → ∀ x7 : Int32, ∀ x8 : Int32, Bd x8 0 7 → Mu x8 7 n10 → K_X8_passOn_0_A_34_10 G w h0 n10 v1 (0 : Int32) (34 : Int32) x7 x8 = F_X8_passOn_0_A_34 G w v h0 → J p l e rm_X8_passOn_0_A_34 s m args below meth c 0 0 (MQ below (QcV D dA G (fun v1 w1 => Ok G v1 w1 ∧ Kp G v v1 ∧ (w1 = w ∧ v1 = F_X8_passOn_0_A_34 G w v h0) ∧ Fr G [116, 1084] v v1)) args s 0 0 (dm G)) D dA G (dm G) s.heap 6 v1 w [(0, .ref h0), (1, .int 0), (2, .ref (rf G h0 1)), (3, .int 34), (4, .int x7), (5, .int x8)] 10 [] := by
    intro n10
    induction n10 with
    | zero => intro v1 o2 k3 f4 b5 b6 x7 x8 b9 hm hK; exact hm.zero b9 (by decide)
    | succ n10 ih10 =>
      intro v1 o2 k3 f4 b5 b6 x7 x8 b9 hmu10 hK
      have J99 : ∀ (v12 : Mv), Ok G v12 w → Kp G v v12 → Fr G [116, 1084] v v12 → Bd 0 0 0 → Bd 34 34 34 → Bd x8 0 6 → K_X8_passOn_0_A_34_99 G w h0 (K_X8_passOn_0_A_34_10 G w h0 n10) v12 (0 : Int32) (34 : Int32) x7 x8 = F_X8_passOn_0_A_34 G w v h0 → J p l e rm_X8_passOn_0_A_34 s m args below meth c 0 0 (MQ below (QcV D dA G (fun v1 w1 => Ok G v1 w1 ∧ Kp G v v1 ∧ (w1 = w ∧ v1 = F_X8_passOn_0_A_34 G w v h0) ∧ Fr G [116, 1084] v v1)) args s 0 0 (dm G)) D dA G (dm G) s.heap 6 v12 w [(0, .ref h0), (1, .int 0), (2, .ref (rf G h0 1)), (3, .int 34), (4, .int x7), (5, .int x8)] 99 [] := by
        intro v12 o13 k14 f15 b16 b17 b18 hK
        refine J_iinc E 5 1 (fun z => [(5, .int z), (0, .ref h0), (1, .int 0), (2, .ref (rf G h0 1)), (3, .int 34), (4, .int x7)]) dX8_passOn_99 rfl (by decide) (by decide) (fun _ => rfl) (fun x21 e22 => ?_)
        have b23 : Bd x21 1 7 := (Bd.add e22 b18 (Bd.lit 1 1 (by decide)) (by decide)).w _ _ (by decide)
        refine J_goto E 10 dX8_passOn_102 (by decide) ?_
        exact J.sub [1, 2, 3, 4, 5, 0] rfl (ih10 v12 (o13) (k14) f15 (Bd.lit 0 0 (by decide)) (Bd.lit 34 34 (by decide)) x7 x21 (b23.w 0 7 (by decide)) (Mu.step hmu10 e22 b18 (Bd.lit 1 1 (by decide)) (by decide)) ((kx_X8_passOn_0_A_34_1 (e22)).symm.trans hK))
      have J72 : Bd 0 0 0 → Bd 34 34 34 → Bd x8 0 6 → ∀ x27 : Int32, Bd x27 0 1 → ∀ x29 : Int32, ∀ x30 : Int32, Bd x30 36 42 → K_X8_passOn_0_A_34_72 G w h0 (K_X8_passOn_0_A_34_10 G w h0 n10) v1 (0 : Int32) (34 : Int32) x7 x8 x27 x29 x30 = F_X8_passOn_0_A_34 G w v h0 → J p l e rm_X8_passOn_0_A_34 s m args below meth c 0 0 (MQ below (QcV D dA G (fun v1 w1 => Ok G v1 w1 ∧ Kp G v v1 ∧ (w1 = w ∧ v1 = F_X8_passOn_0_A_34 G w v h0) ∧ Fr G [116, 1084] v v1)) args s 0 0 (dm G)) D dA G (dm G) s.heap 6 v1 w [(0, .ref h0), (1, .int 0), (2, .ref (rf G h0 1)), (3, .int 34), (4, .int x7), (5, .int x8)] 72 [.int x27, .int x29, .int x30, .ref (rf G h0 1)] := by
        intro b24 b25 b26 x27 b28 x29 x30 b31 hK
        refine J_iadd E dX8_passOn_72 (fun x34 e35 => ?_)
        refine J_iast1 E (S_X8.f1 S0) (Bd.in b31 (by decide)) dX8_passOn_73 (fun v36 e37 => ?_)
        have o38 : Ok G v36 w := by rw [e37]; exact Ok.sv o2 (S_X8.f1 S0) b31 (Bd.any x34) 36 7 (by decide) (by decide +kernel)
        have k39 : Kp G v v36 := by rw [e37]; exact Kp.sv k3 (S_X8.f1 S0) b31 36 7 I0 I1 (by decide) (by decide +kernel)
        have f40 : Fr G [116, 1084] v v36 := Fr.st f4 e37 (S_X8.f1 S0) rfl
        refine J_goto E 99 dX8_passOn_74 (by decide) ?_
        exact J.sub [0, 1, 2, 3, 4, 5] rfl (J99 v36 (o38) (k39) f40 (Bd.lit 0 0 (by decide)) (Bd.lit 34 34 (by decide)) b26 ((kx_X8_passOn_0_A_34_2 (e35) (e37)).symm.trans hK))
      refine J_iload E dX8_passOn_10 5 rfl ?_
      refine J_aload_n E dX8_passOn_12 0 rfl ?_
      refine J_getR E in_X8 rfl (S_X8.h S0) 1 (by decide) wd936 rfl dX8_passOn_13 ?_
      refine J_iload_n E dX8_passOn_16 1 rfl ?_
      refine J_iconst E 1 dX8_passOn_17 (by decide) ?_
      refine J_iadd E dX8_passOn_18 (fun x41 e42 => ?_)
      have b43 : Bd x41 1 1 := (Bd.add e42 (Bd.lit 0 0 (by decide)) (Bd.lit 1 1 (by decide)) (by decide)).w _ _ (by decide)
      refine J_iald1 E (S_X8.f1 S0) (Bd.in b43 (by decide)) dX8_passOn_19 (fun x44 e45 => ?_)
      have b46 : Bd x44 0 7 := Bd.e (Ok.ld o2 (S_X8.f1 S0) b43 1 1 0 7 (by decide) (by decide +kernel)) e45
      have e47 : x44 = v1 (rf G h0 1) 1 := by rw [e45, Bd.ix b43 1 rfl]
      refine J_icmp_ge E 105 dX8_passOn_20 (by decide) (fun c48 => ?_) (fun c48 => ?_)
      · refine J_aload_n E dX8_passOn_105 2 rfl ?_
        refine J_iload_n E dX8_passOn_106 3 rfl ?_
        refine J_iconst E 0 dX8_passOn_107 (by decide) ?_
        refine J_iadd E dX8_passOn_108 (fun x49 e50 => ?_)
        have b51 : Bd x49 34 34 := (Bd.add e50 (Bd.lit 34 34 (by decide)) (Bd.lit 0 0 (by decide)) (by decide)).w _ _ (by decide)
        refine J_dup2 E dX8_passOn_109 rfl rfl ?_
        refine J_iald1 E (S_X8.f1 S0) (Bd.in b51 (by decide)) dX8_passOn_110 (fun x52 e53 => ?_)
        have e54 : x52 = v1 (rf G h0 1) 34 := by rw [e53, Bd.ix b51 34 rfl]
        refine J_iconst E 1 dX8_passOn_111 (by decide) ?_
        refine J_iadd E dX8_passOn_112 (fun x55 e56 => ?_)
        refine J_iast1 E (S_X8.f1 S0) (Bd.in b51 (by decide)) dX8_passOn_113 (fun v57 e58 => ?_)
        have o59 : Ok G v57 w := by rw [e58]; exact Ok.sv o2 (S_X8.f1 S0) b51 (Bd.any x55) 34 1 (by decide) (by decide +kernel)
        have k60 : Kp G v v57 := by rw [e58]; exact Kp.sv k3 (S_X8.f1 S0) b51 34 1 I0 I1 (by decide) (by decide +kernel)
        have f61 : Fr G [116, 1084] v v57 := Fr.st f4 e58 (S_X8.f1 S0) rfl
        have e62 : x44 = v57 (rf G h0 1) 1 := by rw [e58, stv_k (Bd.nix b51 1 (by decide))]; exact e47
        have e63 : (x55 : Int32) = v57 (rf G h0 1) 34 := by rw [e58, Bd.ix b51 34 rfl, stv_s]
        exact J_vret E hr dX8_passOn_114 ⟨o59, k60, ⟨⟨rfl, ((kx_X8_passOn_0_A_34_3 (e42) (e45) (e50) (e53) (e56) (e58) (c48)).symm.trans hK)⟩, f61⟩⟩
      · have b64 : Bd x8 0 6 := Bd.lt_l (nle c48) b9 b46 6 (by decide)
        have b65 : Bd x44 1 7 := Bd.lt_r (nle c48) b9 b46 1 (by decide)
        refine J_iload E dX8_passOn_23 4 rfl ?_
        refine J_iload E dX8_passOn_25 5 rfl ?_
        refine J_callSI E cal_X8_has wd1075 [.int x7, .int x8] [] (ct_X8_has l D dA G v1 w (o2) x7 x8 (b64.w 0 9 (by decide))) rfl rfl (Nat.le_of_ble_eq_true rfl) ⟨rfl, rfl⟩ ⟨Nat.le_of_ble_eq_true rfl, Nat.le_of_ble_eq_true rfl⟩ dX8_passOn_27 (fun x69 v66 w67 p68 => ?_)
        rw [p68.1, p68.2.1]
        have b70 : Bd x69 0 1 := p68.2.2.1
        have e71 : x69 = F_X8_has G w v1 x7 x8 := (p68.2.2.2)
        refine J_if_ne E 99 dX8_passOn_30 (by decide) (fun c72 => ?_) (fun c72 => ?_)
        · have b73 : Bd x69 1 1 := (Bd.ne_lo c72 b70 (Bd.lit 0 0 (by decide))).w _ _ (by decide)
          exact J.sub [0, 1, 2, 3, 4, 5] rfl (J99 v1 (o2) (k3) f4 (Bd.lit 0 0 (by decide)) (Bd.lit 34 34 (by decide)) b64 ((kx_X8_passOn_0_A_34_4 (e42) (e45) (e71) (c48) (c72)).symm.trans hK))
        · have b74 : Bd x69 0 0 := Bd.eq_l c72 b70 (Bd.lit 0 0 (by decide)) 0 0 (by decide)
          refine J_aload_n E dX8_passOn_33 0 rfl ?_
          refine J_iload_n E dX8_passOn_34 1 rfl ?_
          refine J_aload_n E dX8_passOn_35 2 rfl ?_
          refine J_iload_n E dX8_passOn_36 3 rfl ?_
          refine J_iload E dX8_passOn_37 5 rfl ?_
          refine J_callVI E cal_X8_isHeld wd1094 rfl (S_X8.h S0) [.int 0, .ref (rf G h0 1), .int 34, .int x8] [] (ct_X8_isHeld_0_A_34 l D dA G v1 w (o2) h0 S0 x8 b64) rfl rfl (Nat.le_of_ble_eq_true rfl) ⟨rfl, rfl⟩ ⟨Nat.le_of_ble_eq_true rfl, Nat.le_of_ble_eq_true rfl⟩ dX8_passOn_39 (fun x78 v75 w76 p77 => ?_)
          rw [p77.1, p77.2.1]
          have b79 : Bd x78 0 1 := p77.2.2.1
          have e80 : x78 = F_X8_isHeld_0_A_34 G w v1 h0 x8 := (p77.2.2.2)
          refine J_if_eq E 77 dX8_passOn_42 (by decide) (fun c81 => ?_) (fun c81 => ?_)
          · have b82 : Bd x78 0 0 := Bd.eq_l c81 b79 (Bd.lit 0 0 (by decide)) 0 0 (by decide)
            refine J_aload_n E dX8_passOn_77 2 rfl ?_
            refine J_iload_n E dX8_passOn_78 3 rfl ?_
            refine J_iconst E 1 dX8_passOn_79 (by decide) ?_
            refine J_iadd E dX8_passOn_80 (fun x83 e84 => ?_)
            have b85 : Bd x83 35 35 := (Bd.add e84 (Bd.lit 34 34 (by decide)) (Bd.lit 1 1 (by decide)) (by decide)).w _ _ (by decide)
            refine J_dup2 E dX8_passOn_81 rfl rfl ?_
            refine J_iald1 E (S_X8.f1 S0) (Bd.in b85 (by decide)) dX8_passOn_82 (fun x86 e87 => ?_)
            have e88 : x86 = v1 (rf G h0 1) 35 := by rw [e87, Bd.ix b85 35 rfl]
            refine J_iconst E 1 dX8_passOn_83 (by decide) ?_
            refine J_iload E dX8_passOn_84 5 rfl ?_
            refine J_ishl E dX8_passOn_86 (fun x89 e90 => ?_)
            have b91 : Bd x89 1 64 := Bd.shl1 e90 b64 6 (by decide)
            refine J_ior E dX8_passOn_87 (fun x92 e93 => ?_)
            refine J_iast1 E (S_X8.f1 S0) (Bd.in b85 (by decide)) dX8_passOn_88 (fun v94 e95 => ?_)
            have o96 : Ok G v94 w := by rw [e95]; exact Ok.sv o2 (S_X8.f1 S0) b85 (Bd.any x92) 35 1 (by decide) (by decide +kernel)
            have k97 : Kp G v v94 := by rw [e95]; exact Kp.sv k3 (S_X8.f1 S0) b85 35 1 I0 I1 (by decide) (by decide +kernel)
            have f98 : Fr G [116, 1084] v v94 := Fr.st f4 e95 (S_X8.f1 S0) rfl
            have e99 : x44 = v94 (rf G h0 1) 1 := by rw [e95, stv_k (Bd.nix b85 1 (by decide))]; exact e47
            have e100 : (x92 : Int32) = v94 (rf G h0 1) 35 := by rw [e95, Bd.ix b85 35 rfl, stv_s]
            refine J_aload_n E dX8_passOn_89 2 rfl ?_
            refine J_iload_n E dX8_passOn_90 3 rfl ?_
            refine J_bipush E 9 dX8_passOn_91 (by decide) ?_
            refine J_iadd E dX8_passOn_93 (fun x101 e102 => ?_)
            have b103 : Bd x101 43 43 := (Bd.add e102 (Bd.lit 34 34 (by decide)) (Bd.lit 9 9 (by decide)) (by decide)).w _ _ (by decide)
            refine J_iload E dX8_passOn_94 5 rfl ?_
            refine J_iadd E dX8_passOn_96 (fun x104 e105 => ?_)
            have b106 : Bd x104 43 49 := (Bd.add e105 b103 b64 (by decide)).w _ _ (by decide)
            refine J_iconst E (-1) dX8_passOn_97 (by decide) ?_
            refine J_iast1 E (S_X8.f1 S0) (Bd.in b106 (by decide)) dX8_passOn_98 (fun v107 e108 => ?_)
            have o109 : Ok G v107 w := by rw [e108]; exact Ok.sv o96 (S_X8.f1 S0) b106 (Bd.lit (-1) (-1) (by decide)) 43 7 (by decide) (by decide +kernel)
            have k110 : Kp G v v107 := by rw [e108]; exact Kp.sv k97 (S_X8.f1 S0) b106 43 7 (-1) (-1) (by decide) (by decide +kernel)
            have f111 : Fr G [116, 1084] v v107 := Fr.st f98 e108 (S_X8.f1 S0) rfl
            have e112 : x44 = v107 (rf G h0 1) 1 := by rw [e108, stv_k (Bd.nix b106 1 (by decide))]; exact e99
            have e113 : x92 = v107 (rf G h0 1) 35 := by rw [e108, stv_k (Bd.nix b106 35 (by decide))]; exact e100
            exact J.sub [0, 1, 2, 3, 4, 5] rfl (J99 v107 (o109) (k110) f111 (Bd.lit 0 0 (by decide)) (Bd.lit 34 34 (by decide)) b64 ((kx_X8_passOn_0_A_34_5 (e42) (e45) (e71) (e80) (e84) (e87) (e90) (e93) (e95) (e102) (e105) (e108) (c48) (c72) (c81)).symm.trans hK))
          · have b114 : Bd x78 1 1 := (Bd.ne_lo c81 b79 (Bd.lit 0 0 (by decide))).w _ _ (by decide)
            refine J_aload_n E dX8_passOn_45 2 rfl ?_
            refine J_iload_n E dX8_passOn_46 3 rfl ?_
            refine J_iconst E 2 dX8_passOn_47 (by decide) ?_
            refine J_iadd E dX8_passOn_48 (fun x115 e116 => ?_)
            have b117 : Bd x115 36 36 := (Bd.add e116 (Bd.lit 34 34 (by decide)) (Bd.lit 2 2 (by decide)) (by decide)).w _ _ (by decide)
            refine J_iload E dX8_passOn_49 5 rfl ?_
            refine J_iadd E dX8_passOn_51 (fun x118 e119 => ?_)
            have b120 : Bd x118 36 42 := (Bd.add e119 b117 b64 (by decide)).w _ _ (by decide)
            refine J_dup2 E dX8_passOn_52 rfl rfl ?_
            refine J_iald1 E (S_X8.f1 S0) (Bd.in b120 (by decide)) dX8_passOn_53 (fun x121 e122 => ?_)
            refine J_aload_n E dX8_passOn_54 2 rfl ?_
            refine J_iload_n E dX8_passOn_55 3 rfl ?_
            refine J_iconst E 2 dX8_passOn_56 (by decide) ?_
            refine J_iadd E dX8_passOn_57 (fun x123 e124 => ?_)
            have b125 : Bd x123 36 36 := (Bd.add e124 (Bd.lit 34 34 (by decide)) (Bd.lit 2 2 (by decide)) (by decide)).w _ _ (by decide)
            refine J_iload E dX8_passOn_58 5 rfl ?_
            refine J_iadd E dX8_passOn_60 (fun x126 e127 => ?_)
            have b128 : Bd x126 36 42 := (Bd.add e127 b125 b64 (by decide)).w _ _ (by decide)
            refine J_iald1 E (S_X8.f1 S0) (Bd.in b128 (by decide)) dX8_passOn_61 (fun x129 e130 => ?_)
            refine J_bipush E 99 dX8_passOn_62 (by decide) ?_
            refine J_icmp_ge E 71 dX8_passOn_64 (by decide) (fun c131 => ?_) (fun c131 => ?_)
            · have b132 : Bd x129 99 I1 := Bd.le_r c131 (Bd.lit 99 99 (by decide)) (Bd.any x129) 99 (by decide)
              refine J_iconst E 0 dX8_passOn_71 (by decide) ?_
              exact J.sub [0, 1, 2, 3, 4, 5] rfl (J72 (Bd.lit 0 0 (by decide)) (Bd.lit 34 34 (by decide)) b64 0 ((Bd.lit 0 0 (by decide)).w 0 1 (by decide)) x121 x118 b120 ((kx_X8_passOn_0_A_34_6 (e42) (e45) (e71) (e80) (e116) (e119) (e122) (e124) (e127) (e130) (c48) (c72) (c81) (c131)).symm.trans hK))
            · have b133 : Bd x129 I0 98 := Bd.lt_l (nle c131) (Bd.any x129) (Bd.lit 99 99 (by decide)) 98 (by decide)
              refine J_iconst E 1 dX8_passOn_67 (by decide) ?_
              refine J_goto E 72 dX8_passOn_68 (by decide) ?_
              exact J.sub [0, 1, 2, 3, 4, 5] rfl (J72 (Bd.lit 0 0 (by decide)) (Bd.lit 34 34 (by decide)) b64 1 ((Bd.lit 1 1 (by decide)).w 0 1 (by decide)) x121 x118 b120 ((kx_X8_passOn_0_A_34_7 (e42) (e45) (e71) (e80) (e116) (e119) (e122) (e124) (e127) (e130) (c48) (c72) (c81) (c131)).symm.trans hK))
  have hK : K_X8_passOn_0_A_34_e G w v h0 = F_X8_passOn_0_A_34 G w v h0 := rfl
  refine J_aload_n E dX8_passOn_0 2 rfl ?_
  refine J_iload_n E dX8_passOn_1 3 rfl ?_
  refine J_iconst E 1 dX8_passOn_2 (by decide) ?_
  refine J_iadd E dX8_passOn_3 (fun x134 e135 => ?_)
  have b136 : Bd x134 35 35 := (Bd.add e135 (Bd.lit 34 34 (by decide)) (Bd.lit 1 1 (by decide)) (by decide)).w _ _ (by decide)
  refine J_iald1 E (S_X8.f1 S0) (Bd.in b136 (by decide)) dX8_passOn_4 (fun x137 e138 => ?_)
  have e139 : x137 = v (rf G h0 1) 35 := by rw [e138, Bd.ix b136 35 rfl]
  refine J_istore E [(4, .int x137), (0, .ref h0), (1, .int 0), (2, .ref (rf G h0 1)), (3, .int 34)] dX8_passOn_5 (by decide) rfl ?_
  refine J_iconst E 0 dX8_passOn_7 (by decide) ?_
  refine J_istore E [(5, .int 0), (4, .int x137), (0, .ref h0), (1, .int 0), (2, .ref (rf G h0 1)), (3, .int 34)] dX8_passOn_8 (by decide) rfl ?_
  exact J.sub [2, 3, 4, 5, 1, 0] rfl (J10 8 v (hOk) (Kp.rf) Fr.rf (Bd.lit 0 0 (by decide)) (Bd.lit 34 34 (by decide)) x137 0 ((Bd.lit 0 0 (by decide)).w 0 7 (by decide)) (Mu.start _ (Bd.lit 0 0 (by decide)) (by decide)) ((kx_X8_passOn_0_A_34_8 (e135) (e138)).symm.trans hK))

def K_X8_passOn_0_T_0_99 (G : Gm) (w : Mw) (h0 : Nat) (rec10 : Mv → Int32 → Int32 → Int32 → Int32 → Mv) (v12 : Mv) (x19 : Int32) (x20 : Int32) (x7 : Int32) (x8 : Int32) : Mv :=
  rec10 v12 (0 : Int32) (0 : Int32) x7 (x8 + (1 : Int32))
def K_X8_passOn_0_T_0_72 (G : Gm) (w : Mw) (h0 : Nat) (rec10 : Mv → Int32 → Int32 → Int32 → Int32 → Mv) (v1 : Mv) (x32 : Int32) (x33 : Int32) (x7 : Int32) (x8 : Int32) (x27 : Int32) (x29 : Int32) (x30 : Int32) : Mv :=
  K_X8_passOn_0_T_0_99 G w h0 rec10 (stv v1 (rf G h0 3) (Int32.toNatClampNeg x30) (x29 + x27)) (0 : Int32) (0 : Int32) x7 x8
def K_X8_passOn_0_T_0_10 (G : Gm) (w : Mw) (h0 : Nat) : Nat → Mv → Int32 → Int32 → Int32 → Int32 → Mv
  | 0, _, _, _, _, _ => (fun _ _ => 0 : Mv)
  | n10 + 1, v1, x10, x11, x7, x8 =>
    if (v1 (rf G h0 1) (Int32.toNatClampNeg ((0 : Int32) + (1 : Int32)))) ≤ x8 then ((stv v1 (rf G h0 3) (Int32.toNatClampNeg ((0 : Int32) + (0 : Int32))) ((v1 (rf G h0 3) (Int32.toNatClampNeg ((0 : Int32) + (0 : Int32)))) + (1 : Int32)))) else (if (F_X8_has G w v1 x7 x8) = (0 : Int32) then (if (F_X8_isHeld_0_T_0 G w v1 h0 x8) = (0 : Int32) then (K_X8_passOn_0_T_0_99 G w h0 (K_X8_passOn_0_T_0_10 G w h0 n10) (stv (stv v1 (rf G h0 3) (Int32.toNatClampNeg ((0 : Int32) + (1 : Int32))) ((v1 (rf G h0 3) (Int32.toNatClampNeg ((0 : Int32) + (1 : Int32)))) ||| ((1 : Int32) <<< (x8 &&& 31)))) (rf G h0 3) (Int32.toNatClampNeg (((0 : Int32) + (9 : Int32)) + x8)) (-1 : Int32)) (0 : Int32) (0 : Int32) x7 x8) else (if (99 : Int32) ≤ (v1 (rf G h0 3) (Int32.toNatClampNeg (((0 : Int32) + (2 : Int32)) + x8))) then (K_X8_passOn_0_T_0_72 G w h0 (K_X8_passOn_0_T_0_10 G w h0 n10) v1 (0 : Int32) (0 : Int32) x7 x8 (0 : Int32) (v1 (rf G h0 3) (Int32.toNatClampNeg (((0 : Int32) + (2 : Int32)) + x8))) (((0 : Int32) + (2 : Int32)) + x8)) else (K_X8_passOn_0_T_0_72 G w h0 (K_X8_passOn_0_T_0_10 G w h0 n10) v1 (0 : Int32) (0 : Int32) x7 x8 (1 : Int32) (v1 (rf G h0 3) (Int32.toNatClampNeg (((0 : Int32) + (2 : Int32)) + x8))) (((0 : Int32) + (2 : Int32)) + x8)))) else (K_X8_passOn_0_T_0_99 G w h0 (K_X8_passOn_0_T_0_10 G w h0 n10) v1 (0 : Int32) (0 : Int32) x7 x8))
def K_X8_passOn_0_T_0_e (G : Gm) (w : Mw) (v : Mv) (h0 : Nat) : Mv :=
  K_X8_passOn_0_T_0_10 G w h0 8 v (0 : Int32) (0 : Int32) (v (rf G h0 3) (Int32.toNatClampNeg ((0 : Int32) + (1 : Int32)))) (0 : Int32)
def F_X8_passOn_0_T_0 (G : Gm) (w : Mw) (v : Mv) (h0 : Nat) : Mv := K_X8_passOn_0_T_0_e G w v h0
set_option maxRecDepth 100000 in
theorem kx_X8_passOn_0_T_0_1 {G : Gm} {w : Mw} {h0 : Nat} {rec10 : Mv → Int32 → Int32 → Int32 → Int32 → Mv} {v12 : Mv} {x7 : Int32} {x8 : Int32} {x21 : Int32} (a0 : x21 = x8 + (1 : Int32))  : K_X8_passOn_0_T_0_99 G w h0 rec10 v12 (0 : Int32) (0 : Int32) x7 x8 = rec10 v12 (0 : Int32) (0 : Int32) x7 x21 := by
  subst a0; first | rw [K_X8_passOn_0_T_0_99] | simp only [K_X8_passOn_0_T_0_99]
set_option maxRecDepth 100000 in
theorem kx_X8_passOn_0_T_0_2 {G : Gm} {w : Mw} {h0 : Nat} {rec10 : Mv → Int32 → Int32 → Int32 → Int32 → Mv} {v1 : Mv} {x7 : Int32} {x8 : Int32} {x27 : Int32} {x29 : Int32} {x30 : Int32} {v36 : Mv} {x34 : Int32} (a0 : x34 = x29 + x27) (a1 : v36 = stv v1 (rf G h0 3) (Int32.toNatClampNeg x30) x34)  : K_X8_passOn_0_T_0_72 G w h0 rec10 v1 (0 : Int32) (0 : Int32) x7 x8 x27 x29 x30 = K_X8_passOn_0_T_0_99 G w h0 rec10 v36 (0 : Int32) (0 : Int32) x7 x8 := by
  subst a1; subst a0; first | rw [K_X8_passOn_0_T_0_72] | simp only [K_X8_passOn_0_T_0_72]
set_option maxRecDepth 100000 in
theorem kx_X8_passOn_0_T_0_3 {G : Gm} {w : Mw} {h0 : Nat} {n10 : Nat} {v1 : Mv} {x7 : Int32} {x8 : Int32} {v57 : Mv} {x41 : Int32} {x49 : Int32} {x52 : Int32} {x55 : Int32} {x44 : Int32} (a0 : x41 = (0 : Int32) + (1 : Int32)) (a1 : x44 = v1 (rf G h0 1) (Int32.toNatClampNeg x41)) (a2 : x49 = (0 : Int32) + (0 : Int32)) (a3 : x52 = v1 (rf G h0 3) (Int32.toNatClampNeg x49)) (a4 : x55 = x52 + (1 : Int32)) (a5 : v57 = stv v1 (rf G h0 3) (Int32.toNatClampNeg x49) x55) (k0 : x44 ≤ x8) : K_X8_passOn_0_T_0_10 G w h0 (n10 + 1) v1 (0 : Int32) (0 : Int32) x7 x8 = v57 := by
  subst a5; subst a4; subst a3; subst a2; subst a1; subst a0; first | rw [K_X8_passOn_0_T_0_10, if_pos k0] | simp only [K_X8_passOn_0_T_0_10, if_pos k0]
set_option maxRecDepth 100000 in
theorem kx_X8_passOn_0_T_0_4 {G : Gm} {w : Mw} {h0 : Nat} {n10 : Nat} {v1 : Mv} {x7 : Int32} {x8 : Int32} {x41 : Int32} {x44 : Int32} {x69 : Int32} (a0 : x41 = (0 : Int32) + (1 : Int32)) (a1 : x44 = v1 (rf G h0 1) (Int32.toNatClampNeg x41)) (a2 : x69 = F_X8_has G w v1 x7 x8) (k0 : ¬ (x44 ≤ x8)) (k1 : ¬ (x69 = (0 : Int32))) : K_X8_passOn_0_T_0_10 G w h0 (n10 + 1) v1 (0 : Int32) (0 : Int32) x7 x8 = K_X8_passOn_0_T_0_99 G w h0 (K_X8_passOn_0_T_0_10 G w h0 n10) v1 (0 : Int32) (0 : Int32) x7 x8 := by
  subst a2; subst a1; subst a0; first | rw [K_X8_passOn_0_T_0_10, if_neg k0, if_neg k1] | simp only [K_X8_passOn_0_T_0_10, if_neg k0, if_neg k1]
set_option maxRecDepth 100000 in
theorem kx_X8_passOn_0_T_0_5 {G : Gm} {w : Mw} {h0 : Nat} {n10 : Nat} {v1 : Mv} {x7 : Int32} {x8 : Int32} {v107 : Mv} {x41 : Int32} {x83 : Int32} {x86 : Int32} {x89 : Int32} {x92 : Int32} {x101 : Int32} {v94 : Mv} {x104 : Int32} {x44 : Int32} {x69 : Int32} {x78 : Int32} (a0 : x41 = (0 : Int32) + (1 : Int32)) (a1 : x44 = v1 (rf G h0 1) (Int32.toNatClampNeg x41)) (a2 : x69 = F_X8_has G w v1 x7 x8) (a3 : x78 = F_X8_isHeld_0_T_0 G w v1 h0 x8) (a4 : x83 = (0 : Int32) + (1 : Int32)) (a5 : x86 = v1 (rf G h0 3) (Int32.toNatClampNeg x83)) (a6 : x89 = (1 : Int32) <<< (x8 &&& 31)) (a7 : x92 = x86 ||| x89) (a8 : v94 = stv v1 (rf G h0 3) (Int32.toNatClampNeg x83) x92) (a9 : x101 = (0 : Int32) + (9 : Int32)) (a10 : x104 = x101 + x8) (a11 : v107 = stv v94 (rf G h0 3) (Int32.toNatClampNeg x104) (-1 : Int32)) (k0 : ¬ (x44 ≤ x8)) (k1 : x69 = (0 : Int32)) (k2 : x78 = (0 : Int32)) : K_X8_passOn_0_T_0_10 G w h0 (n10 + 1) v1 (0 : Int32) (0 : Int32) x7 x8 = K_X8_passOn_0_T_0_99 G w h0 (K_X8_passOn_0_T_0_10 G w h0 n10) v107 (0 : Int32) (0 : Int32) x7 x8 := by
  subst a11; subst a10; subst a9; subst a8; subst a7; subst a6; subst a5; subst a4; subst a3; subst a2; subst a1; subst a0; first | rw [K_X8_passOn_0_T_0_10, if_neg k0, if_pos k1, if_pos k2] | simp only [K_X8_passOn_0_T_0_10, if_neg k0, if_pos k1, if_pos k2]
set_option maxRecDepth 100000 in
theorem kx_X8_passOn_0_T_0_6 {G : Gm} {w : Mw} {h0 : Nat} {n10 : Nat} {v1 : Mv} {x7 : Int32} {x8 : Int32} {x121 : Int32} {x118 : Int32} {x41 : Int32} {x115 : Int32} {x123 : Int32} {x126 : Int32} {x44 : Int32} {x69 : Int32} {x78 : Int32} {x129 : Int32} (a0 : x41 = (0 : Int32) + (1 : Int32)) (a1 : x44 = v1 (rf G h0 1) (Int32.toNatClampNeg x41)) (a2 : x69 = F_X8_has G w v1 x7 x8) (a3 : x78 = F_X8_isHeld_0_T_0 G w v1 h0 x8) (a4 : x115 = (0 : Int32) + (2 : Int32)) (a5 : x118 = x115 + x8) (a6 : x121 = v1 (rf G h0 3) (Int32.toNatClampNeg x118)) (a7 : x123 = (0 : Int32) + (2 : Int32)) (a8 : x126 = x123 + x8) (a9 : x129 = v1 (rf G h0 3) (Int32.toNatClampNeg x126)) (k0 : ¬ (x44 ≤ x8)) (k1 : x69 = (0 : Int32)) (k2 : ¬ (x78 = (0 : Int32))) (k3 : (99 : Int32) ≤ x129) : K_X8_passOn_0_T_0_10 G w h0 (n10 + 1) v1 (0 : Int32) (0 : Int32) x7 x8 = K_X8_passOn_0_T_0_72 G w h0 (K_X8_passOn_0_T_0_10 G w h0 n10) v1 (0 : Int32) (0 : Int32) x7 x8 (0 : Int32) x121 x118 := by
  subst a9; subst a8; subst a7; subst a6; subst a5; subst a4; subst a3; subst a2; subst a1; subst a0; first | rw [K_X8_passOn_0_T_0_10, if_neg k0, if_pos k1, if_neg k2, if_pos k3] | simp only [K_X8_passOn_0_T_0_10, if_neg k0, if_pos k1, if_neg k2, if_pos k3]
set_option maxRecDepth 100000 in
theorem kx_X8_passOn_0_T_0_7 {G : Gm} {w : Mw} {h0 : Nat} {n10 : Nat} {v1 : Mv} {x7 : Int32} {x8 : Int32} {x121 : Int32} {x118 : Int32} {x41 : Int32} {x115 : Int32} {x123 : Int32} {x126 : Int32} {x44 : Int32} {x69 : Int32} {x78 : Int32} {x129 : Int32} (a0 : x41 = (0 : Int32) + (1 : Int32)) (a1 : x44 = v1 (rf G h0 1) (Int32.toNatClampNeg x41)) (a2 : x69 = F_X8_has G w v1 x7 x8) (a3 : x78 = F_X8_isHeld_0_T_0 G w v1 h0 x8) (a4 : x115 = (0 : Int32) + (2 : Int32)) (a5 : x118 = x115 + x8) (a6 : x121 = v1 (rf G h0 3) (Int32.toNatClampNeg x118)) (a7 : x123 = (0 : Int32) + (2 : Int32)) (a8 : x126 = x123 + x8) (a9 : x129 = v1 (rf G h0 3) (Int32.toNatClampNeg x126)) (k0 : ¬ (x44 ≤ x8)) (k1 : x69 = (0 : Int32)) (k2 : ¬ (x78 = (0 : Int32))) (k3 : ¬ ((99 : Int32) ≤ x129)) : K_X8_passOn_0_T_0_10 G w h0 (n10 + 1) v1 (0 : Int32) (0 : Int32) x7 x8 = K_X8_passOn_0_T_0_72 G w h0 (K_X8_passOn_0_T_0_10 G w h0 n10) v1 (0 : Int32) (0 : Int32) x7 x8 (1 : Int32) x121 x118 := by
  subst a9; subst a8; subst a7; subst a6; subst a5; subst a4; subst a3; subst a2; subst a1; subst a0; first | rw [K_X8_passOn_0_T_0_10, if_neg k0, if_pos k1, if_neg k2, if_neg k3] | simp only [K_X8_passOn_0_T_0_10, if_neg k0, if_pos k1, if_neg k2, if_neg k3]
set_option maxRecDepth 100000 in
theorem kx_X8_passOn_0_T_0_8 {G : Gm} {w : Mw} {v : Mv} {h0 : Nat} {x137 : Int32} {x134 : Int32} (a0 : x134 = (0 : Int32) + (1 : Int32)) (a1 : x137 = v (rf G h0 3) (Int32.toNatClampNeg x134))  : K_X8_passOn_0_T_0_e G w v h0 = K_X8_passOn_0_T_0_10 G w h0 8 v (0 : Int32) (0 : Int32) x137 (0 : Int32) := by
  subst a1; subst a0; first | rw [K_X8_passOn_0_T_0_e] | simp only [K_X8_passOn_0_T_0_e]
abbrev rm_X8_passOn_0_T_0 : Room := { frames := 3, cells := 0, slots := 0, locals := 72 }
set_option maxHeartbeats 4000000 in
set_option maxRecDepth 100000 in
theorem ct_X8_passOn_0_T_0 (l : Launch) (D : va_G) (dA : Nat → ClassId) (G : Gm) (v : Mv) (w : Mw) (hOk : Ok G v w) (h0 : Nat) (S0 : S_X8 G h0) : CtV l yX8_passOn cX8_passOn 6 none rm_X8_passOn_0_T_0 D dA G [.ref h0, .int 0, .ref (rf G h0 3), .int 0] v w (fun v1 w1 => Ok G v1 w1 ∧ Kp G v v1 ∧ (w1 = w ∧ v1 = F_X8_passOn_0_T_0 G w v h0) ∧ Fr G [116, 1084] v v1) := by
  refine CtV.of RX8 [(0, .ref h0), (1, .int 0), (2, .ref (rf G h0 3)), (3, .int 0)] (Nat.le_of_ble_eq_true rfl) rfl (by decide) rfl ?_
  intro p e s m args below meth c E hr
  have J10 : ∀ n10 : Nat, ∀ (v1 : Mv), Ok G v1 w → Kp G v v1 → Fr G [116, 1084] v v1 → Bd 0 0 0 → Bd 0 0 0 → ∀ x7 : Int32, ∀ x8 : Int32, Bd x8 0 7 → Mu x8 7 n10 → K_X8_passOn_0_T_0_10 G w h0 n10 v1 (0 : Int32) (0 : Int32) x7 x8 = F_X8_passOn_0_T_0 G w v h0 → J p l e rm_X8_passOn_0_T_0 s m args below meth c 0 0 (MQ below (QcV D dA G (fun v1 w1 => Ok G v1 w1 ∧ Kp G v v1 ∧ (w1 = w ∧ v1 = F_X8_passOn_0_T_0 G w v h0) ∧ Fr G [116, 1084] v v1)) args s 0 0 (dm G)) D dA G (dm G) s.heap 6 v1 w [(0, .ref h0), (1, .int 0), (2, .ref (rf G h0 3)), (3, .int 0), (4, .int x7), (5, .int x8)] 10 [] := by
    intro n10
    induction n10 with
    | zero => intro v1 o2 k3 f4 b5 b6 x7 x8 b9 hm hK; exact hm.zero b9 (by decide)
    | succ n10 ih10 =>
      intro v1 o2 k3 f4 b5 b6 x7 x8 b9 hmu10 hK
      have J99 : ∀ (v12 : Mv), Ok G v12 w → Kp G v v12 → Fr G [116, 1084] v v12 → Bd 0 0 0 → Bd 0 0 0 → Bd x8 0 6 → K_X8_passOn_0_T_0_99 G w h0 (K_X8_passOn_0_T_0_10 G w h0 n10) v12 (0 : Int32) (0 : Int32) x7 x8 = F_X8_passOn_0_T_0 G w v h0 → J p l e rm_X8_passOn_0_T_0 s m args below meth c 0 0 (MQ below (QcV D dA G (fun v1 w1 => Ok G v1 w1 ∧ Kp G v v1 ∧ (w1 = w ∧ v1 = F_X8_passOn_0_T_0 G w v h0) ∧ Fr G [116, 1084] v v1)) args s 0 0 (dm G)) D dA G (dm G) s.heap 6 v12 w [(0, .ref h0), (1, .int 0), (2, .ref (rf G h0 3)), (3, .int 0), (4, .int x7), (5, .int x8)] 99 [] := by
        intro v12 o13 k14 f15 b16 b17 b18 hK
        refine J_iinc E 5 1 (fun z => [(5, .int z), (0, .ref h0), (1, .int 0), (2, .ref (rf G h0 3)), (3, .int 0), (4, .int x7)]) dX8_passOn_99 rfl (by decide) (by decide) (fun _ => rfl) (fun x21 e22 => ?_)
        have b23 : Bd x21 1 7 := (Bd.add e22 b18 (Bd.lit 1 1 (by decide)) (by decide)).w _ _ (by decide)
        refine J_goto E 10 dX8_passOn_102 (by decide) ?_
        exact J.sub [1, 2, 3, 4, 5, 0] rfl (ih10 v12 (o13) (k14) f15 (Bd.lit 0 0 (by decide)) (Bd.lit 0 0 (by decide)) x7 x21 (b23.w 0 7 (by decide)) (Mu.step hmu10 e22 b18 (Bd.lit 1 1 (by decide)) (by decide)) ((kx_X8_passOn_0_T_0_1 (e22)).symm.trans hK))
      have J72 : Bd 0 0 0 → Bd 0 0 0 → Bd x8 0 6 → ∀ x27 : Int32, Bd x27 0 1 → ∀ x29 : Int32, ∀ x30 : Int32, Bd x30 2 8 → K_X8_passOn_0_T_0_72 G w h0 (K_X8_passOn_0_T_0_10 G w h0 n10) v1 (0 : Int32) (0 : Int32) x7 x8 x27 x29 x30 = F_X8_passOn_0_T_0 G w v h0 → J p l e rm_X8_passOn_0_T_0 s m args below meth c 0 0 (MQ below (QcV D dA G (fun v1 w1 => Ok G v1 w1 ∧ Kp G v v1 ∧ (w1 = w ∧ v1 = F_X8_passOn_0_T_0 G w v h0) ∧ Fr G [116, 1084] v v1)) args s 0 0 (dm G)) D dA G (dm G) s.heap 6 v1 w [(0, .ref h0), (1, .int 0), (2, .ref (rf G h0 3)), (3, .int 0), (4, .int x7), (5, .int x8)] 72 [.int x27, .int x29, .int x30, .ref (rf G h0 3)] := by
        intro b24 b25 b26 x27 b28 x29 x30 b31 hK
        refine J_iadd E dX8_passOn_72 (fun x34 e35 => ?_)
        refine J_iast1 E (S_X8.f3 S0) (Bd.in b31 (by decide)) dX8_passOn_73 (fun v36 e37 => ?_)
        have o38 : Ok G v36 w := by rw [e37]; exact Ok.sv o2 (S_X8.f3 S0) b31 (Bd.any x34) 2 7 (by decide) (by decide +kernel)
        have k39 : Kp G v v36 := by rw [e37]; exact Kp.sv k3 (S_X8.f3 S0) b31 2 7 I0 I1 (by decide) (by decide +kernel)
        have f40 : Fr G [116, 1084] v v36 := Fr.st f4 e37 (S_X8.f3 S0) rfl
        refine J_goto E 99 dX8_passOn_74 (by decide) ?_
        exact J.sub [0, 1, 2, 3, 4, 5] rfl (J99 v36 (o38) (k39) f40 (Bd.lit 0 0 (by decide)) (Bd.lit 0 0 (by decide)) b26 ((kx_X8_passOn_0_T_0_2 (e35) (e37)).symm.trans hK))
      refine J_iload E dX8_passOn_10 5 rfl ?_
      refine J_aload_n E dX8_passOn_12 0 rfl ?_
      refine J_getR E in_X8 rfl (S_X8.h S0) 1 (by decide) wd936 rfl dX8_passOn_13 ?_
      refine J_iload_n E dX8_passOn_16 1 rfl ?_
      refine J_iconst E 1 dX8_passOn_17 (by decide) ?_
      refine J_iadd E dX8_passOn_18 (fun x41 e42 => ?_)
      have b43 : Bd x41 1 1 := (Bd.add e42 (Bd.lit 0 0 (by decide)) (Bd.lit 1 1 (by decide)) (by decide)).w _ _ (by decide)
      refine J_iald1 E (S_X8.f1 S0) (Bd.in b43 (by decide)) dX8_passOn_19 (fun x44 e45 => ?_)
      have b46 : Bd x44 0 7 := Bd.e (Ok.ld o2 (S_X8.f1 S0) b43 1 1 0 7 (by decide) (by decide +kernel)) e45
      have e47 : x44 = v1 (rf G h0 1) 1 := by rw [e45, Bd.ix b43 1 rfl]
      refine J_icmp_ge E 105 dX8_passOn_20 (by decide) (fun c48 => ?_) (fun c48 => ?_)
      · refine J_aload_n E dX8_passOn_105 2 rfl ?_
        refine J_iload_n E dX8_passOn_106 3 rfl ?_
        refine J_iconst E 0 dX8_passOn_107 (by decide) ?_
        refine J_iadd E dX8_passOn_108 (fun x49 e50 => ?_)
        have b51 : Bd x49 0 0 := (Bd.add e50 (Bd.lit 0 0 (by decide)) (Bd.lit 0 0 (by decide)) (by decide)).w _ _ (by decide)
        refine J_dup2 E dX8_passOn_109 rfl rfl ?_
        refine J_iald1 E (S_X8.f3 S0) (Bd.in b51 (by decide)) dX8_passOn_110 (fun x52 e53 => ?_)
        have e54 : x52 = v1 (rf G h0 3) 0 := by rw [e53, Bd.ix b51 0 rfl]
        refine J_iconst E 1 dX8_passOn_111 (by decide) ?_
        refine J_iadd E dX8_passOn_112 (fun x55 e56 => ?_)
        refine J_iast1 E (S_X8.f3 S0) (Bd.in b51 (by decide)) dX8_passOn_113 (fun v57 e58 => ?_)
        have o59 : Ok G v57 w := by rw [e58]; exact Ok.sv o2 (S_X8.f3 S0) b51 (Bd.any x55) 0 1 (by decide) (by decide +kernel)
        have k60 : Kp G v v57 := by rw [e58]; exact Kp.sv k3 (S_X8.f3 S0) b51 0 1 I0 I1 (by decide) (by decide +kernel)
        have f61 : Fr G [116, 1084] v v57 := Fr.st f4 e58 (S_X8.f3 S0) rfl
        have e62 : x44 = v57 (rf G h0 1) 1 := by rw [e58, stv_a (tg_ne ((S_X8.f1 S0)) ((S_X8.f3 S0)) rfl)]; exact e47
        have e63 : (x55 : Int32) = v57 (rf G h0 3) 0 := by rw [e58, Bd.ix b51 0 rfl, stv_s]
        exact J_vret E hr dX8_passOn_114 ⟨o59, k60, ⟨⟨rfl, ((kx_X8_passOn_0_T_0_3 (e42) (e45) (e50) (e53) (e56) (e58) (c48)).symm.trans hK)⟩, f61⟩⟩
      · have b64 : Bd x8 0 6 := Bd.lt_l (nle c48) b9 b46 6 (by decide)
        have b65 : Bd x44 1 7 := Bd.lt_r (nle c48) b9 b46 1 (by decide)
        refine J_iload E dX8_passOn_23 4 rfl ?_
        refine J_iload E dX8_passOn_25 5 rfl ?_
        refine J_callSI E cal_X8_has wd1075 [.int x7, .int x8] [] (ct_X8_has l D dA G v1 w (o2) x7 x8 (b64.w 0 9 (by decide))) rfl rfl (Nat.le_of_ble_eq_true rfl) ⟨rfl, rfl⟩ ⟨Nat.le_of_ble_eq_true rfl, Nat.le_of_ble_eq_true rfl⟩ dX8_passOn_27 (fun x69 v66 w67 p68 => ?_)
        rw [p68.1, p68.2.1]
        have b70 : Bd x69 0 1 := p68.2.2.1
        have e71 : x69 = F_X8_has G w v1 x7 x8 := (p68.2.2.2)
        refine J_if_ne E 99 dX8_passOn_30 (by decide) (fun c72 => ?_) (fun c72 => ?_)
        · have b73 : Bd x69 1 1 := (Bd.ne_lo c72 b70 (Bd.lit 0 0 (by decide))).w _ _ (by decide)
          exact J.sub [0, 1, 2, 3, 4, 5] rfl (J99 v1 (o2) (k3) f4 (Bd.lit 0 0 (by decide)) (Bd.lit 0 0 (by decide)) b64 ((kx_X8_passOn_0_T_0_4 (e42) (e45) (e71) (c48) (c72)).symm.trans hK))
        · have b74 : Bd x69 0 0 := Bd.eq_l c72 b70 (Bd.lit 0 0 (by decide)) 0 0 (by decide)
          refine J_aload_n E dX8_passOn_33 0 rfl ?_
          refine J_iload_n E dX8_passOn_34 1 rfl ?_
          refine J_aload_n E dX8_passOn_35 2 rfl ?_
          refine J_iload_n E dX8_passOn_36 3 rfl ?_
          refine J_iload E dX8_passOn_37 5 rfl ?_
          refine J_callVI E cal_X8_isHeld wd1094 rfl (S_X8.h S0) [.int 0, .ref (rf G h0 3), .int 0, .int x8] [] (ct_X8_isHeld_0_T_0 l D dA G v1 w (o2) h0 S0 x8 b64) rfl rfl (Nat.le_of_ble_eq_true rfl) ⟨rfl, rfl⟩ ⟨Nat.le_of_ble_eq_true rfl, Nat.le_of_ble_eq_true rfl⟩ dX8_passOn_39 (fun x78 v75 w76 p77 => ?_)
          rw [p77.1, p77.2.1]
          have b79 : Bd x78 0 1 := p77.2.2.1
          have e80 : x78 = F_X8_isHeld_0_T_0 G w v1 h0 x8 := (p77.2.2.2)
          refine J_if_eq E 77 dX8_passOn_42 (by decide) (fun c81 => ?_) (fun c81 => ?_)
          · have b82 : Bd x78 0 0 := Bd.eq_l c81 b79 (Bd.lit 0 0 (by decide)) 0 0 (by decide)
            refine J_aload_n E dX8_passOn_77 2 rfl ?_
            refine J_iload_n E dX8_passOn_78 3 rfl ?_
            refine J_iconst E 1 dX8_passOn_79 (by decide) ?_
            refine J_iadd E dX8_passOn_80 (fun x83 e84 => ?_)
            have b85 : Bd x83 1 1 := (Bd.add e84 (Bd.lit 0 0 (by decide)) (Bd.lit 1 1 (by decide)) (by decide)).w _ _ (by decide)
            refine J_dup2 E dX8_passOn_81 rfl rfl ?_
            refine J_iald1 E (S_X8.f3 S0) (Bd.in b85 (by decide)) dX8_passOn_82 (fun x86 e87 => ?_)
            have e88 : x86 = v1 (rf G h0 3) 1 := by rw [e87, Bd.ix b85 1 rfl]
            refine J_iconst E 1 dX8_passOn_83 (by decide) ?_
            refine J_iload E dX8_passOn_84 5 rfl ?_
            refine J_ishl E dX8_passOn_86 (fun x89 e90 => ?_)
            have b91 : Bd x89 1 64 := Bd.shl1 e90 b64 6 (by decide)
            refine J_ior E dX8_passOn_87 (fun x92 e93 => ?_)
            refine J_iast1 E (S_X8.f3 S0) (Bd.in b85 (by decide)) dX8_passOn_88 (fun v94 e95 => ?_)
            have o96 : Ok G v94 w := by rw [e95]; exact Ok.sv o2 (S_X8.f3 S0) b85 (Bd.any x92) 1 1 (by decide) (by decide +kernel)
            have k97 : Kp G v v94 := by rw [e95]; exact Kp.sv k3 (S_X8.f3 S0) b85 1 1 I0 I1 (by decide) (by decide +kernel)
            have f98 : Fr G [116, 1084] v v94 := Fr.st f4 e95 (S_X8.f3 S0) rfl
            have e99 : x44 = v94 (rf G h0 1) 1 := by rw [e95, stv_a (tg_ne ((S_X8.f1 S0)) ((S_X8.f3 S0)) rfl)]; exact e47
            have e100 : (x92 : Int32) = v94 (rf G h0 3) 1 := by rw [e95, Bd.ix b85 1 rfl, stv_s]
            refine J_aload_n E dX8_passOn_89 2 rfl ?_
            refine J_iload_n E dX8_passOn_90 3 rfl ?_
            refine J_bipush E 9 dX8_passOn_91 (by decide) ?_
            refine J_iadd E dX8_passOn_93 (fun x101 e102 => ?_)
            have b103 : Bd x101 9 9 := (Bd.add e102 (Bd.lit 0 0 (by decide)) (Bd.lit 9 9 (by decide)) (by decide)).w _ _ (by decide)
            refine J_iload E dX8_passOn_94 5 rfl ?_
            refine J_iadd E dX8_passOn_96 (fun x104 e105 => ?_)
            have b106 : Bd x104 9 15 := (Bd.add e105 b103 b64 (by decide)).w _ _ (by decide)
            refine J_iconst E (-1) dX8_passOn_97 (by decide) ?_
            refine J_iast1 E (S_X8.f3 S0) (Bd.in b106 (by decide)) dX8_passOn_98 (fun v107 e108 => ?_)
            have o109 : Ok G v107 w := by rw [e108]; exact Ok.sv o96 (S_X8.f3 S0) b106 (Bd.lit (-1) (-1) (by decide)) 9 7 (by decide) (by decide +kernel)
            have k110 : Kp G v v107 := by rw [e108]; exact Kp.sv k97 (S_X8.f3 S0) b106 9 7 (-1) (-1) (by decide) (by decide +kernel)
            have f111 : Fr G [116, 1084] v v107 := Fr.st f98 e108 (S_X8.f3 S0) rfl
            have e112 : x44 = v107 (rf G h0 1) 1 := by rw [e108, stv_a (tg_ne ((S_X8.f1 S0)) ((S_X8.f3 S0)) rfl)]; exact e99
            have e113 : x92 = v107 (rf G h0 3) 1 := by rw [e108, stv_k (Bd.nix b106 1 (by decide))]; exact e100
            exact J.sub [0, 1, 2, 3, 4, 5] rfl (J99 v107 (o109) (k110) f111 (Bd.lit 0 0 (by decide)) (Bd.lit 0 0 (by decide)) b64 ((kx_X8_passOn_0_T_0_5 (e42) (e45) (e71) (e80) (e84) (e87) (e90) (e93) (e95) (e102) (e105) (e108) (c48) (c72) (c81)).symm.trans hK))
          · have b114 : Bd x78 1 1 := (Bd.ne_lo c81 b79 (Bd.lit 0 0 (by decide))).w _ _ (by decide)
            refine J_aload_n E dX8_passOn_45 2 rfl ?_
            refine J_iload_n E dX8_passOn_46 3 rfl ?_
            refine J_iconst E 2 dX8_passOn_47 (by decide) ?_
            refine J_iadd E dX8_passOn_48 (fun x115 e116 => ?_)
            have b117 : Bd x115 2 2 := (Bd.add e116 (Bd.lit 0 0 (by decide)) (Bd.lit 2 2 (by decide)) (by decide)).w _ _ (by decide)
            refine J_iload E dX8_passOn_49 5 rfl ?_
            refine J_iadd E dX8_passOn_51 (fun x118 e119 => ?_)
            have b120 : Bd x118 2 8 := (Bd.add e119 b117 b64 (by decide)).w _ _ (by decide)
            refine J_dup2 E dX8_passOn_52 rfl rfl ?_
            refine J_iald1 E (S_X8.f3 S0) (Bd.in b120 (by decide)) dX8_passOn_53 (fun x121 e122 => ?_)
            refine J_aload_n E dX8_passOn_54 2 rfl ?_
            refine J_iload_n E dX8_passOn_55 3 rfl ?_
            refine J_iconst E 2 dX8_passOn_56 (by decide) ?_
            refine J_iadd E dX8_passOn_57 (fun x123 e124 => ?_)
            have b125 : Bd x123 2 2 := (Bd.add e124 (Bd.lit 0 0 (by decide)) (Bd.lit 2 2 (by decide)) (by decide)).w _ _ (by decide)
            refine J_iload E dX8_passOn_58 5 rfl ?_
            refine J_iadd E dX8_passOn_60 (fun x126 e127 => ?_)
            have b128 : Bd x126 2 8 := (Bd.add e127 b125 b64 (by decide)).w _ _ (by decide)
            refine J_iald1 E (S_X8.f3 S0) (Bd.in b128 (by decide)) dX8_passOn_61 (fun x129 e130 => ?_)
            refine J_bipush E 99 dX8_passOn_62 (by decide) ?_
            refine J_icmp_ge E 71 dX8_passOn_64 (by decide) (fun c131 => ?_) (fun c131 => ?_)
            · have b132 : Bd x129 99 I1 := Bd.le_r c131 (Bd.lit 99 99 (by decide)) (Bd.any x129) 99 (by decide)
              refine J_iconst E 0 dX8_passOn_71 (by decide) ?_
              exact J.sub [0, 1, 2, 3, 4, 5] rfl (J72 (Bd.lit 0 0 (by decide)) (Bd.lit 0 0 (by decide)) b64 0 ((Bd.lit 0 0 (by decide)).w 0 1 (by decide)) x121 x118 b120 ((kx_X8_passOn_0_T_0_6 (e42) (e45) (e71) (e80) (e116) (e119) (e122) (e124) (e127) (e130) (c48) (c72) (c81) (c131)).symm.trans hK))
            · have b133 : Bd x129 I0 98 := Bd.lt_l (nle c131) (Bd.any x129) (Bd.lit 99 99 (by decide)) 98 (by decide)
              refine J_iconst E 1 dX8_passOn_67 (by decide) ?_
              refine J_goto E 72 dX8_passOn_68 (by decide) ?_
              exact J.sub [0, 1, 2, 3, 4, 5] rfl (J72 (Bd.lit 0 0 (by decide)) (Bd.lit 0 0 (by decide)) b64 1 ((Bd.lit 1 1 (by decide)).w 0 1 (by decide)) x121 x118 b120 ((kx_X8_passOn_0_T_0_7 (e42) (e45) (e71) (e80) (e116) (e119) (e122) (e124) (e127) (e130) (c48) (c72) (c81) (c131)).symm.trans hK))
  have hK : K_X8_passOn_0_T_0_e G w v h0 = F_X8_passOn_0_T_0 G w v h0 := rfl
  refine J_aload_n E dX8_passOn_0 2 rfl ?_
  refine J_iload_n E dX8_passOn_1 3 rfl ?_
  refine J_iconst E 1 dX8_passOn_2 (by decide) ?_
  refine J_iadd E dX8_passOn_3 (fun x134 e135 => ?_)
  have b136 : Bd x134 1 1 := (Bd.add e135 (Bd.lit 0 0 (by decide)) (Bd.lit 1 1 (by decide)) (by decide)).w _ _ (by decide)
  refine J_iald1 E (S_X8.f3 S0) (Bd.in b136 (by decide)) dX8_passOn_4 (fun x137 e138 => ?_)
  have e139 : x137 = v (rf G h0 3) 1 := by rw [e138, Bd.ix b136 1 rfl]
  refine J_istore E [(4, .int x137), (0, .ref h0), (1, .int 0), (2, .ref (rf G h0 3)), (3, .int 0)] dX8_passOn_5 (by decide) rfl ?_
  refine J_iconst E 0 dX8_passOn_7 (by decide) ?_
  refine J_istore E [(5, .int 0), (4, .int x137), (0, .ref h0), (1, .int 0), (2, .ref (rf G h0 3)), (3, .int 0)] dX8_passOn_8 (by decide) rfl ?_
  exact J.sub [2, 3, 4, 5, 1, 0] rfl (J10 8 v (hOk) (Kp.rf) Fr.rf (Bd.lit 0 0 (by decide)) (Bd.lit 0 0 (by decide)) x137 0 ((Bd.lit 0 0 (by decide)).w 0 7 (by decide)) (Mu.start _ (Bd.lit 0 0 (by decide)) (by decide)) ((kx_X8_passOn_0_T_0_8 (e135) (e138)).symm.trans hK))

def K_X8_passOn_738_A_772_99 (G : Gm) (w : Mw) (h0 : Nat) (rec10 : Mv → Int32 → Int32 → Int32 → Int32 → Mv) (v12 : Mv) (x19 : Int32) (x20 : Int32) (x7 : Int32) (x8 : Int32) : Mv :=
  rec10 v12 (738 : Int32) (772 : Int32) x7 (x8 + (1 : Int32))
def K_X8_passOn_738_A_772_72 (G : Gm) (w : Mw) (h0 : Nat) (rec10 : Mv → Int32 → Int32 → Int32 → Int32 → Mv) (v1 : Mv) (x32 : Int32) (x33 : Int32) (x7 : Int32) (x8 : Int32) (x27 : Int32) (x29 : Int32) (x30 : Int32) : Mv :=
  K_X8_passOn_738_A_772_99 G w h0 rec10 (stv v1 (rf G h0 1) (Int32.toNatClampNeg x30) (x29 + x27)) (738 : Int32) (772 : Int32) x7 x8
def K_X8_passOn_738_A_772_10 (G : Gm) (w : Mw) (h0 : Nat) : Nat → Mv → Int32 → Int32 → Int32 → Int32 → Mv
  | 0, _, _, _, _, _ => (fun _ _ => 0 : Mv)
  | n10 + 1, v1, x10, x11, x7, x8 =>
    if (v1 (rf G h0 1) (Int32.toNatClampNeg ((738 : Int32) + (1 : Int32)))) ≤ x8 then ((stv v1 (rf G h0 1) (Int32.toNatClampNeg ((772 : Int32) + (0 : Int32))) ((v1 (rf G h0 1) (Int32.toNatClampNeg ((772 : Int32) + (0 : Int32)))) + (1 : Int32)))) else (if (F_X8_has G w v1 x7 x8) = (0 : Int32) then (if (F_X8_isHeld_738_A_772 G w v1 h0 x8) = (0 : Int32) then (K_X8_passOn_738_A_772_99 G w h0 (K_X8_passOn_738_A_772_10 G w h0 n10) (stv (stv v1 (rf G h0 1) (Int32.toNatClampNeg ((772 : Int32) + (1 : Int32))) ((v1 (rf G h0 1) (Int32.toNatClampNeg ((772 : Int32) + (1 : Int32)))) ||| ((1 : Int32) <<< (x8 &&& 31)))) (rf G h0 1) (Int32.toNatClampNeg (((772 : Int32) + (9 : Int32)) + x8)) (-1 : Int32)) (738 : Int32) (772 : Int32) x7 x8) else (if (99 : Int32) ≤ (v1 (rf G h0 1) (Int32.toNatClampNeg (((772 : Int32) + (2 : Int32)) + x8))) then (K_X8_passOn_738_A_772_72 G w h0 (K_X8_passOn_738_A_772_10 G w h0 n10) v1 (738 : Int32) (772 : Int32) x7 x8 (0 : Int32) (v1 (rf G h0 1) (Int32.toNatClampNeg (((772 : Int32) + (2 : Int32)) + x8))) (((772 : Int32) + (2 : Int32)) + x8)) else (K_X8_passOn_738_A_772_72 G w h0 (K_X8_passOn_738_A_772_10 G w h0 n10) v1 (738 : Int32) (772 : Int32) x7 x8 (1 : Int32) (v1 (rf G h0 1) (Int32.toNatClampNeg (((772 : Int32) + (2 : Int32)) + x8))) (((772 : Int32) + (2 : Int32)) + x8)))) else (K_X8_passOn_738_A_772_99 G w h0 (K_X8_passOn_738_A_772_10 G w h0 n10) v1 (738 : Int32) (772 : Int32) x7 x8))
def K_X8_passOn_738_A_772_e (G : Gm) (w : Mw) (v : Mv) (h0 : Nat) : Mv :=
  K_X8_passOn_738_A_772_10 G w h0 8 v (738 : Int32) (772 : Int32) (v (rf G h0 1) (Int32.toNatClampNeg ((772 : Int32) + (1 : Int32)))) (0 : Int32)
def F_X8_passOn_738_A_772 (G : Gm) (w : Mw) (v : Mv) (h0 : Nat) : Mv := K_X8_passOn_738_A_772_e G w v h0
set_option maxRecDepth 100000 in
theorem kx_X8_passOn_738_A_772_1 {G : Gm} {w : Mw} {h0 : Nat} {rec10 : Mv → Int32 → Int32 → Int32 → Int32 → Mv} {v12 : Mv} {x7 : Int32} {x8 : Int32} {x21 : Int32} (a0 : x21 = x8 + (1 : Int32))  : K_X8_passOn_738_A_772_99 G w h0 rec10 v12 (738 : Int32) (772 : Int32) x7 x8 = rec10 v12 (738 : Int32) (772 : Int32) x7 x21 := by
  subst a0; first | rw [K_X8_passOn_738_A_772_99] | simp only [K_X8_passOn_738_A_772_99]
set_option maxRecDepth 100000 in
theorem kx_X8_passOn_738_A_772_2 {G : Gm} {w : Mw} {h0 : Nat} {rec10 : Mv → Int32 → Int32 → Int32 → Int32 → Mv} {v1 : Mv} {x7 : Int32} {x8 : Int32} {x27 : Int32} {x29 : Int32} {x30 : Int32} {v36 : Mv} {x34 : Int32} (a0 : x34 = x29 + x27) (a1 : v36 = stv v1 (rf G h0 1) (Int32.toNatClampNeg x30) x34)  : K_X8_passOn_738_A_772_72 G w h0 rec10 v1 (738 : Int32) (772 : Int32) x7 x8 x27 x29 x30 = K_X8_passOn_738_A_772_99 G w h0 rec10 v36 (738 : Int32) (772 : Int32) x7 x8 := by
  subst a1; subst a0; first | rw [K_X8_passOn_738_A_772_72] | simp only [K_X8_passOn_738_A_772_72]
set_option maxRecDepth 100000 in
theorem kx_X8_passOn_738_A_772_3 {G : Gm} {w : Mw} {h0 : Nat} {n10 : Nat} {v1 : Mv} {x7 : Int32} {x8 : Int32} {v57 : Mv} {x41 : Int32} {x49 : Int32} {x52 : Int32} {x55 : Int32} {x44 : Int32} (a0 : x41 = (738 : Int32) + (1 : Int32)) (a1 : x44 = v1 (rf G h0 1) (Int32.toNatClampNeg x41)) (a2 : x49 = (772 : Int32) + (0 : Int32)) (a3 : x52 = v1 (rf G h0 1) (Int32.toNatClampNeg x49)) (a4 : x55 = x52 + (1 : Int32)) (a5 : v57 = stv v1 (rf G h0 1) (Int32.toNatClampNeg x49) x55) (k0 : x44 ≤ x8) : K_X8_passOn_738_A_772_10 G w h0 (n10 + 1) v1 (738 : Int32) (772 : Int32) x7 x8 = v57 := by
  subst a5; subst a4; subst a3; subst a2; subst a1; subst a0; first | rw [K_X8_passOn_738_A_772_10, if_pos k0] | simp only [K_X8_passOn_738_A_772_10, if_pos k0]
set_option maxRecDepth 100000 in
theorem kx_X8_passOn_738_A_772_4 {G : Gm} {w : Mw} {h0 : Nat} {n10 : Nat} {v1 : Mv} {x7 : Int32} {x8 : Int32} {x41 : Int32} {x44 : Int32} {x69 : Int32} (a0 : x41 = (738 : Int32) + (1 : Int32)) (a1 : x44 = v1 (rf G h0 1) (Int32.toNatClampNeg x41)) (a2 : x69 = F_X8_has G w v1 x7 x8) (k0 : ¬ (x44 ≤ x8)) (k1 : ¬ (x69 = (0 : Int32))) : K_X8_passOn_738_A_772_10 G w h0 (n10 + 1) v1 (738 : Int32) (772 : Int32) x7 x8 = K_X8_passOn_738_A_772_99 G w h0 (K_X8_passOn_738_A_772_10 G w h0 n10) v1 (738 : Int32) (772 : Int32) x7 x8 := by
  subst a2; subst a1; subst a0; first | rw [K_X8_passOn_738_A_772_10, if_neg k0, if_neg k1] | simp only [K_X8_passOn_738_A_772_10, if_neg k0, if_neg k1]
set_option maxRecDepth 100000 in
theorem kx_X8_passOn_738_A_772_5 {G : Gm} {w : Mw} {h0 : Nat} {n10 : Nat} {v1 : Mv} {x7 : Int32} {x8 : Int32} {v107 : Mv} {x41 : Int32} {x83 : Int32} {x86 : Int32} {x89 : Int32} {x92 : Int32} {x101 : Int32} {v94 : Mv} {x104 : Int32} {x44 : Int32} {x69 : Int32} {x78 : Int32} (a0 : x41 = (738 : Int32) + (1 : Int32)) (a1 : x44 = v1 (rf G h0 1) (Int32.toNatClampNeg x41)) (a2 : x69 = F_X8_has G w v1 x7 x8) (a3 : x78 = F_X8_isHeld_738_A_772 G w v1 h0 x8) (a4 : x83 = (772 : Int32) + (1 : Int32)) (a5 : x86 = v1 (rf G h0 1) (Int32.toNatClampNeg x83)) (a6 : x89 = (1 : Int32) <<< (x8 &&& 31)) (a7 : x92 = x86 ||| x89) (a8 : v94 = stv v1 (rf G h0 1) (Int32.toNatClampNeg x83) x92) (a9 : x101 = (772 : Int32) + (9 : Int32)) (a10 : x104 = x101 + x8) (a11 : v107 = stv v94 (rf G h0 1) (Int32.toNatClampNeg x104) (-1 : Int32)) (k0 : ¬ (x44 ≤ x8)) (k1 : x69 = (0 : Int32)) (k2 : x78 = (0 : Int32)) : K_X8_passOn_738_A_772_10 G w h0 (n10 + 1) v1 (738 : Int32) (772 : Int32) x7 x8 = K_X8_passOn_738_A_772_99 G w h0 (K_X8_passOn_738_A_772_10 G w h0 n10) v107 (738 : Int32) (772 : Int32) x7 x8 := by
  subst a11; subst a10; subst a9; subst a8; subst a7; subst a6; subst a5; subst a4; subst a3; subst a2; subst a1; subst a0; first | rw [K_X8_passOn_738_A_772_10, if_neg k0, if_pos k1, if_pos k2] | simp only [K_X8_passOn_738_A_772_10, if_neg k0, if_pos k1, if_pos k2]
set_option maxRecDepth 100000 in
theorem kx_X8_passOn_738_A_772_6 {G : Gm} {w : Mw} {h0 : Nat} {n10 : Nat} {v1 : Mv} {x7 : Int32} {x8 : Int32} {x121 : Int32} {x118 : Int32} {x41 : Int32} {x115 : Int32} {x123 : Int32} {x126 : Int32} {x44 : Int32} {x69 : Int32} {x78 : Int32} {x129 : Int32} (a0 : x41 = (738 : Int32) + (1 : Int32)) (a1 : x44 = v1 (rf G h0 1) (Int32.toNatClampNeg x41)) (a2 : x69 = F_X8_has G w v1 x7 x8) (a3 : x78 = F_X8_isHeld_738_A_772 G w v1 h0 x8) (a4 : x115 = (772 : Int32) + (2 : Int32)) (a5 : x118 = x115 + x8) (a6 : x121 = v1 (rf G h0 1) (Int32.toNatClampNeg x118)) (a7 : x123 = (772 : Int32) + (2 : Int32)) (a8 : x126 = x123 + x8) (a9 : x129 = v1 (rf G h0 1) (Int32.toNatClampNeg x126)) (k0 : ¬ (x44 ≤ x8)) (k1 : x69 = (0 : Int32)) (k2 : ¬ (x78 = (0 : Int32))) (k3 : (99 : Int32) ≤ x129) : K_X8_passOn_738_A_772_10 G w h0 (n10 + 1) v1 (738 : Int32) (772 : Int32) x7 x8 = K_X8_passOn_738_A_772_72 G w h0 (K_X8_passOn_738_A_772_10 G w h0 n10) v1 (738 : Int32) (772 : Int32) x7 x8 (0 : Int32) x121 x118 := by
  subst a9; subst a8; subst a7; subst a6; subst a5; subst a4; subst a3; subst a2; subst a1; subst a0; first | rw [K_X8_passOn_738_A_772_10, if_neg k0, if_pos k1, if_neg k2, if_pos k3] | simp only [K_X8_passOn_738_A_772_10, if_neg k0, if_pos k1, if_neg k2, if_pos k3]
set_option maxRecDepth 100000 in
theorem kx_X8_passOn_738_A_772_7 {G : Gm} {w : Mw} {h0 : Nat} {n10 : Nat} {v1 : Mv} {x7 : Int32} {x8 : Int32} {x121 : Int32} {x118 : Int32} {x41 : Int32} {x115 : Int32} {x123 : Int32} {x126 : Int32} {x44 : Int32} {x69 : Int32} {x78 : Int32} {x129 : Int32} (a0 : x41 = (738 : Int32) + (1 : Int32)) (a1 : x44 = v1 (rf G h0 1) (Int32.toNatClampNeg x41)) (a2 : x69 = F_X8_has G w v1 x7 x8) (a3 : x78 = F_X8_isHeld_738_A_772 G w v1 h0 x8) (a4 : x115 = (772 : Int32) + (2 : Int32)) (a5 : x118 = x115 + x8) (a6 : x121 = v1 (rf G h0 1) (Int32.toNatClampNeg x118)) (a7 : x123 = (772 : Int32) + (2 : Int32)) (a8 : x126 = x123 + x8) (a9 : x129 = v1 (rf G h0 1) (Int32.toNatClampNeg x126)) (k0 : ¬ (x44 ≤ x8)) (k1 : x69 = (0 : Int32)) (k2 : ¬ (x78 = (0 : Int32))) (k3 : ¬ ((99 : Int32) ≤ x129)) : K_X8_passOn_738_A_772_10 G w h0 (n10 + 1) v1 (738 : Int32) (772 : Int32) x7 x8 = K_X8_passOn_738_A_772_72 G w h0 (K_X8_passOn_738_A_772_10 G w h0 n10) v1 (738 : Int32) (772 : Int32) x7 x8 (1 : Int32) x121 x118 := by
  subst a9; subst a8; subst a7; subst a6; subst a5; subst a4; subst a3; subst a2; subst a1; subst a0; first | rw [K_X8_passOn_738_A_772_10, if_neg k0, if_pos k1, if_neg k2, if_neg k3] | simp only [K_X8_passOn_738_A_772_10, if_neg k0, if_pos k1, if_neg k2, if_neg k3]
set_option maxRecDepth 100000 in
theorem kx_X8_passOn_738_A_772_8 {G : Gm} {w : Mw} {v : Mv} {h0 : Nat} {x137 : Int32} {x134 : Int32} (a0 : x134 = (772 : Int32) + (1 : Int32)) (a1 : x137 = v (rf G h0 1) (Int32.toNatClampNeg x134))  : K_X8_passOn_738_A_772_e G w v h0 = K_X8_passOn_738_A_772_10 G w h0 8 v (738 : Int32) (772 : Int32) x137 (0 : Int32) := by
  subst a1; subst a0; first | rw [K_X8_passOn_738_A_772_e] | simp only [K_X8_passOn_738_A_772_e]
abbrev rm_X8_passOn_738_A_772 : Room := { frames := 3, cells := 0, slots := 0, locals := 72 }
set_option maxHeartbeats 4000000 in
set_option maxRecDepth 100000 in
theorem ct_X8_passOn_738_A_772 (l : Launch) (D : va_G) (dA : Nat → ClassId) (G : Gm) (v : Mv) (w : Mw) (hOk : Ok G v w) (h0 : Nat) (S0 : S_X8 G h0) : CtV l yX8_passOn cX8_passOn 6 none rm_X8_passOn_738_A_772 D dA G [.ref h0, .int 738, .ref (rf G h0 1), .int 772] v w (fun v1 w1 => Ok G v1 w1 ∧ Kp G v v1 ∧ (w1 = w ∧ v1 = F_X8_passOn_738_A_772 G w v h0) ∧ Fr G [116, 1084] v v1) := by
  refine CtV.of RX8 [(0, .ref h0), (1, .int 738), (2, .ref (rf G h0 1)), (3, .int 772)] (Nat.le_of_ble_eq_true rfl) rfl (by decide) rfl ?_
  intro p e s m args below meth c E hr
  have J10 : ∀ n10 : Nat, ∀ (v1 : Mv), Ok G v1 w → Kp G v v1 → Fr G [116, 1084] v v1 → Bd 738 738 738 → Bd 772 772 772 → ∀ x7 : Int32, ∀ x8 : Int32, Bd x8 0 7 → Mu x8 7 n10 → K_X8_passOn_738_A_772_10 G w h0 n10 v1 (738 : Int32) (772 : Int32) x7 x8 = F_X8_passOn_738_A_772 G w v h0 → J p l e rm_X8_passOn_738_A_772 s m args below meth c 0 0 (MQ below (QcV D dA G (fun v1 w1 => Ok G v1 w1 ∧ Kp G v v1 ∧ (w1 = w ∧ v1 = F_X8_passOn_738_A_772 G w v h0) ∧ Fr G [116, 1084] v v1)) args s 0 0 (dm G)) D dA G (dm G) s.heap 6 v1 w [(0, .ref h0), (1, .int 738), (2, .ref (rf G h0 1)), (3, .int 772), (4, .int x7), (5, .int x8)] 10 [] := by
    intro n10
    induction n10 with
    | zero => intro v1 o2 k3 f4 b5 b6 x7 x8 b9 hm hK; exact hm.zero b9 (by decide)
    | succ n10 ih10 =>
      intro v1 o2 k3 f4 b5 b6 x7 x8 b9 hmu10 hK
      have J99 : ∀ (v12 : Mv), Ok G v12 w → Kp G v v12 → Fr G [116, 1084] v v12 → Bd 738 738 738 → Bd 772 772 772 → Bd x8 0 6 → K_X8_passOn_738_A_772_99 G w h0 (K_X8_passOn_738_A_772_10 G w h0 n10) v12 (738 : Int32) (772 : Int32) x7 x8 = F_X8_passOn_738_A_772 G w v h0 → J p l e rm_X8_passOn_738_A_772 s m args below meth c 0 0 (MQ below (QcV D dA G (fun v1 w1 => Ok G v1 w1 ∧ Kp G v v1 ∧ (w1 = w ∧ v1 = F_X8_passOn_738_A_772 G w v h0) ∧ Fr G [116, 1084] v v1)) args s 0 0 (dm G)) D dA G (dm G) s.heap 6 v12 w [(0, .ref h0), (1, .int 738), (2, .ref (rf G h0 1)), (3, .int 772), (4, .int x7), (5, .int x8)] 99 [] := by
        intro v12 o13 k14 f15 b16 b17 b18 hK
        refine J_iinc E 5 1 (fun z => [(5, .int z), (0, .ref h0), (1, .int 738), (2, .ref (rf G h0 1)), (3, .int 772), (4, .int x7)]) dX8_passOn_99 rfl (by decide) (by decide) (fun _ => rfl) (fun x21 e22 => ?_)
        have b23 : Bd x21 1 7 := (Bd.add e22 b18 (Bd.lit 1 1 (by decide)) (by decide)).w _ _ (by decide)
        refine J_goto E 10 dX8_passOn_102 (by decide) ?_
        exact J.sub [1, 2, 3, 4, 5, 0] rfl (ih10 v12 (o13) (k14) f15 (Bd.lit 738 738 (by decide)) (Bd.lit 772 772 (by decide)) x7 x21 (b23.w 0 7 (by decide)) (Mu.step hmu10 e22 b18 (Bd.lit 1 1 (by decide)) (by decide)) ((kx_X8_passOn_738_A_772_1 (e22)).symm.trans hK))
      have J72 : Bd 738 738 738 → Bd 772 772 772 → Bd x8 0 6 → ∀ x27 : Int32, Bd x27 0 1 → ∀ x29 : Int32, ∀ x30 : Int32, Bd x30 774 780 → K_X8_passOn_738_A_772_72 G w h0 (K_X8_passOn_738_A_772_10 G w h0 n10) v1 (738 : Int32) (772 : Int32) x7 x8 x27 x29 x30 = F_X8_passOn_738_A_772 G w v h0 → J p l e rm_X8_passOn_738_A_772 s m args below meth c 0 0 (MQ below (QcV D dA G (fun v1 w1 => Ok G v1 w1 ∧ Kp G v v1 ∧ (w1 = w ∧ v1 = F_X8_passOn_738_A_772 G w v h0) ∧ Fr G [116, 1084] v v1)) args s 0 0 (dm G)) D dA G (dm G) s.heap 6 v1 w [(0, .ref h0), (1, .int 738), (2, .ref (rf G h0 1)), (3, .int 772), (4, .int x7), (5, .int x8)] 72 [.int x27, .int x29, .int x30, .ref (rf G h0 1)] := by
        intro b24 b25 b26 x27 b28 x29 x30 b31 hK
        refine J_iadd E dX8_passOn_72 (fun x34 e35 => ?_)
        refine J_iast1 E (S_X8.f1 S0) (Bd.in b31 (by decide)) dX8_passOn_73 (fun v36 e37 => ?_)
        have o38 : Ok G v36 w := by rw [e37]; exact Ok.sv o2 (S_X8.f1 S0) b31 (Bd.any x34) 774 7 (by decide) (by decide +kernel)
        have k39 : Kp G v v36 := by rw [e37]; exact Kp.sv k3 (S_X8.f1 S0) b31 774 7 I0 I1 (by decide) (by decide +kernel)
        have f40 : Fr G [116, 1084] v v36 := Fr.st f4 e37 (S_X8.f1 S0) rfl
        refine J_goto E 99 dX8_passOn_74 (by decide) ?_
        exact J.sub [0, 1, 2, 3, 4, 5] rfl (J99 v36 (o38) (k39) f40 (Bd.lit 738 738 (by decide)) (Bd.lit 772 772 (by decide)) b26 ((kx_X8_passOn_738_A_772_2 (e35) (e37)).symm.trans hK))
      refine J_iload E dX8_passOn_10 5 rfl ?_
      refine J_aload_n E dX8_passOn_12 0 rfl ?_
      refine J_getR E in_X8 rfl (S_X8.h S0) 1 (by decide) wd936 rfl dX8_passOn_13 ?_
      refine J_iload_n E dX8_passOn_16 1 rfl ?_
      refine J_iconst E 1 dX8_passOn_17 (by decide) ?_
      refine J_iadd E dX8_passOn_18 (fun x41 e42 => ?_)
      have b43 : Bd x41 739 739 := (Bd.add e42 (Bd.lit 738 738 (by decide)) (Bd.lit 1 1 (by decide)) (by decide)).w _ _ (by decide)
      refine J_iald1 E (S_X8.f1 S0) (Bd.in b43 (by decide)) dX8_passOn_19 (fun x44 e45 => ?_)
      have b46 : Bd x44 0 7 := Bd.e (Ok.ld o2 (S_X8.f1 S0) b43 739 1 0 7 (by decide) (by decide +kernel)) e45
      have e47 : x44 = v1 (rf G h0 1) 739 := by rw [e45, Bd.ix b43 739 rfl]
      refine J_icmp_ge E 105 dX8_passOn_20 (by decide) (fun c48 => ?_) (fun c48 => ?_)
      · refine J_aload_n E dX8_passOn_105 2 rfl ?_
        refine J_iload_n E dX8_passOn_106 3 rfl ?_
        refine J_iconst E 0 dX8_passOn_107 (by decide) ?_
        refine J_iadd E dX8_passOn_108 (fun x49 e50 => ?_)
        have b51 : Bd x49 772 772 := (Bd.add e50 (Bd.lit 772 772 (by decide)) (Bd.lit 0 0 (by decide)) (by decide)).w _ _ (by decide)
        refine J_dup2 E dX8_passOn_109 rfl rfl ?_
        refine J_iald1 E (S_X8.f1 S0) (Bd.in b51 (by decide)) dX8_passOn_110 (fun x52 e53 => ?_)
        have e54 : x52 = v1 (rf G h0 1) 772 := by rw [e53, Bd.ix b51 772 rfl]
        refine J_iconst E 1 dX8_passOn_111 (by decide) ?_
        refine J_iadd E dX8_passOn_112 (fun x55 e56 => ?_)
        refine J_iast1 E (S_X8.f1 S0) (Bd.in b51 (by decide)) dX8_passOn_113 (fun v57 e58 => ?_)
        have o59 : Ok G v57 w := by rw [e58]; exact Ok.sv o2 (S_X8.f1 S0) b51 (Bd.any x55) 772 1 (by decide) (by decide +kernel)
        have k60 : Kp G v v57 := by rw [e58]; exact Kp.sv k3 (S_X8.f1 S0) b51 772 1 I0 I1 (by decide) (by decide +kernel)
        have f61 : Fr G [116, 1084] v v57 := Fr.st f4 e58 (S_X8.f1 S0) rfl
        have e62 : x44 = v57 (rf G h0 1) 739 := by rw [e58, stv_k (Bd.nix b51 739 (by decide))]; exact e47
        have e63 : (x55 : Int32) = v57 (rf G h0 1) 772 := by rw [e58, Bd.ix b51 772 rfl, stv_s]
        exact J_vret E hr dX8_passOn_114 ⟨o59, k60, ⟨⟨rfl, ((kx_X8_passOn_738_A_772_3 (e42) (e45) (e50) (e53) (e56) (e58) (c48)).symm.trans hK)⟩, f61⟩⟩
      · have b64 : Bd x8 0 6 := Bd.lt_l (nle c48) b9 b46 6 (by decide)
        have b65 : Bd x44 1 7 := Bd.lt_r (nle c48) b9 b46 1 (by decide)
        refine J_iload E dX8_passOn_23 4 rfl ?_
        refine J_iload E dX8_passOn_25 5 rfl ?_
        refine J_callSI E cal_X8_has wd1075 [.int x7, .int x8] [] (ct_X8_has l D dA G v1 w (o2) x7 x8 (b64.w 0 9 (by decide))) rfl rfl (Nat.le_of_ble_eq_true rfl) ⟨rfl, rfl⟩ ⟨Nat.le_of_ble_eq_true rfl, Nat.le_of_ble_eq_true rfl⟩ dX8_passOn_27 (fun x69 v66 w67 p68 => ?_)
        rw [p68.1, p68.2.1]
        have b70 : Bd x69 0 1 := p68.2.2.1
        have e71 : x69 = F_X8_has G w v1 x7 x8 := (p68.2.2.2)
        refine J_if_ne E 99 dX8_passOn_30 (by decide) (fun c72 => ?_) (fun c72 => ?_)
        · have b73 : Bd x69 1 1 := (Bd.ne_lo c72 b70 (Bd.lit 0 0 (by decide))).w _ _ (by decide)
          exact J.sub [0, 1, 2, 3, 4, 5] rfl (J99 v1 (o2) (k3) f4 (Bd.lit 738 738 (by decide)) (Bd.lit 772 772 (by decide)) b64 ((kx_X8_passOn_738_A_772_4 (e42) (e45) (e71) (c48) (c72)).symm.trans hK))
        · have b74 : Bd x69 0 0 := Bd.eq_l c72 b70 (Bd.lit 0 0 (by decide)) 0 0 (by decide)
          refine J_aload_n E dX8_passOn_33 0 rfl ?_
          refine J_iload_n E dX8_passOn_34 1 rfl ?_
          refine J_aload_n E dX8_passOn_35 2 rfl ?_
          refine J_iload_n E dX8_passOn_36 3 rfl ?_
          refine J_iload E dX8_passOn_37 5 rfl ?_
          refine J_callVI E cal_X8_isHeld wd1094 rfl (S_X8.h S0) [.int 738, .ref (rf G h0 1), .int 772, .int x8] [] (ct_X8_isHeld_738_A_772 l D dA G v1 w (o2) h0 S0 x8 b64) rfl rfl (Nat.le_of_ble_eq_true rfl) ⟨rfl, rfl⟩ ⟨Nat.le_of_ble_eq_true rfl, Nat.le_of_ble_eq_true rfl⟩ dX8_passOn_39 (fun x78 v75 w76 p77 => ?_)
          rw [p77.1, p77.2.1]
          have b79 : Bd x78 0 1 := p77.2.2.1
          have e80 : x78 = F_X8_isHeld_738_A_772 G w v1 h0 x8 := (p77.2.2.2)
          refine J_if_eq E 77 dX8_passOn_42 (by decide) (fun c81 => ?_) (fun c81 => ?_)
          · have b82 : Bd x78 0 0 := Bd.eq_l c81 b79 (Bd.lit 0 0 (by decide)) 0 0 (by decide)
            refine J_aload_n E dX8_passOn_77 2 rfl ?_
            refine J_iload_n E dX8_passOn_78 3 rfl ?_
            refine J_iconst E 1 dX8_passOn_79 (by decide) ?_
            refine J_iadd E dX8_passOn_80 (fun x83 e84 => ?_)
            have b85 : Bd x83 773 773 := (Bd.add e84 (Bd.lit 772 772 (by decide)) (Bd.lit 1 1 (by decide)) (by decide)).w _ _ (by decide)
            refine J_dup2 E dX8_passOn_81 rfl rfl ?_
            refine J_iald1 E (S_X8.f1 S0) (Bd.in b85 (by decide)) dX8_passOn_82 (fun x86 e87 => ?_)
            have e88 : x86 = v1 (rf G h0 1) 773 := by rw [e87, Bd.ix b85 773 rfl]
            refine J_iconst E 1 dX8_passOn_83 (by decide) ?_
            refine J_iload E dX8_passOn_84 5 rfl ?_
            refine J_ishl E dX8_passOn_86 (fun x89 e90 => ?_)
            have b91 : Bd x89 1 64 := Bd.shl1 e90 b64 6 (by decide)
            refine J_ior E dX8_passOn_87 (fun x92 e93 => ?_)
            refine J_iast1 E (S_X8.f1 S0) (Bd.in b85 (by decide)) dX8_passOn_88 (fun v94 e95 => ?_)
            have o96 : Ok G v94 w := by rw [e95]; exact Ok.sv o2 (S_X8.f1 S0) b85 (Bd.any x92) 773 1 (by decide) (by decide +kernel)
            have k97 : Kp G v v94 := by rw [e95]; exact Kp.sv k3 (S_X8.f1 S0) b85 773 1 I0 I1 (by decide) (by decide +kernel)
            have f98 : Fr G [116, 1084] v v94 := Fr.st f4 e95 (S_X8.f1 S0) rfl
            have e99 : x44 = v94 (rf G h0 1) 739 := by rw [e95, stv_k (Bd.nix b85 739 (by decide))]; exact e47
            have e100 : (x92 : Int32) = v94 (rf G h0 1) 773 := by rw [e95, Bd.ix b85 773 rfl, stv_s]
            refine J_aload_n E dX8_passOn_89 2 rfl ?_
            refine J_iload_n E dX8_passOn_90 3 rfl ?_
            refine J_bipush E 9 dX8_passOn_91 (by decide) ?_
            refine J_iadd E dX8_passOn_93 (fun x101 e102 => ?_)
            have b103 : Bd x101 781 781 := (Bd.add e102 (Bd.lit 772 772 (by decide)) (Bd.lit 9 9 (by decide)) (by decide)).w _ _ (by decide)
            refine J_iload E dX8_passOn_94 5 rfl ?_
            refine J_iadd E dX8_passOn_96 (fun x104 e105 => ?_)
            have b106 : Bd x104 781 787 := (Bd.add e105 b103 b64 (by decide)).w _ _ (by decide)
            refine J_iconst E (-1) dX8_passOn_97 (by decide) ?_
            refine J_iast1 E (S_X8.f1 S0) (Bd.in b106 (by decide)) dX8_passOn_98 (fun v107 e108 => ?_)
            have o109 : Ok G v107 w := by rw [e108]; exact Ok.sv o96 (S_X8.f1 S0) b106 (Bd.lit (-1) (-1) (by decide)) 781 7 (by decide) (by decide +kernel)
            have k110 : Kp G v v107 := by rw [e108]; exact Kp.sv k97 (S_X8.f1 S0) b106 781 7 (-1) (-1) (by decide) (by decide +kernel)
            have f111 : Fr G [116, 1084] v v107 := Fr.st f98 e108 (S_X8.f1 S0) rfl
            have e112 : x44 = v107 (rf G h0 1) 739 := by rw [e108, stv_k (Bd.nix b106 739 (by decide))]; exact e99
            have e113 : x92 = v107 (rf G h0 1) 773 := by rw [e108, stv_k (Bd.nix b106 773 (by decide))]; exact e100
            exact J.sub [0, 1, 2, 3, 4, 5] rfl (J99 v107 (o109) (k110) f111 (Bd.lit 738 738 (by decide)) (Bd.lit 772 772 (by decide)) b64 ((kx_X8_passOn_738_A_772_5 (e42) (e45) (e71) (e80) (e84) (e87) (e90) (e93) (e95) (e102) (e105) (e108) (c48) (c72) (c81)).symm.trans hK))
          · have b114 : Bd x78 1 1 := (Bd.ne_lo c81 b79 (Bd.lit 0 0 (by decide))).w _ _ (by decide)
            refine J_aload_n E dX8_passOn_45 2 rfl ?_
            refine J_iload_n E dX8_passOn_46 3 rfl ?_
            refine J_iconst E 2 dX8_passOn_47 (by decide) ?_
            refine J_iadd E dX8_passOn_48 (fun x115 e116 => ?_)
            have b117 : Bd x115 774 774 := (Bd.add e116 (Bd.lit 772 772 (by decide)) (Bd.lit 2 2 (by decide)) (by decide)).w _ _ (by decide)
            refine J_iload E dX8_passOn_49 5 rfl ?_
            refine J_iadd E dX8_passOn_51 (fun x118 e119 => ?_)
            have b120 : Bd x118 774 780 := (Bd.add e119 b117 b64 (by decide)).w _ _ (by decide)
            refine J_dup2 E dX8_passOn_52 rfl rfl ?_
            refine J_iald1 E (S_X8.f1 S0) (Bd.in b120 (by decide)) dX8_passOn_53 (fun x121 e122 => ?_)
            refine J_aload_n E dX8_passOn_54 2 rfl ?_
            refine J_iload_n E dX8_passOn_55 3 rfl ?_
            refine J_iconst E 2 dX8_passOn_56 (by decide) ?_
            refine J_iadd E dX8_passOn_57 (fun x123 e124 => ?_)
            have b125 : Bd x123 774 774 := (Bd.add e124 (Bd.lit 772 772 (by decide)) (Bd.lit 2 2 (by decide)) (by decide)).w _ _ (by decide)
            refine J_iload E dX8_passOn_58 5 rfl ?_
            refine J_iadd E dX8_passOn_60 (fun x126 e127 => ?_)
            have b128 : Bd x126 774 780 := (Bd.add e127 b125 b64 (by decide)).w _ _ (by decide)
            refine J_iald1 E (S_X8.f1 S0) (Bd.in b128 (by decide)) dX8_passOn_61 (fun x129 e130 => ?_)
            refine J_bipush E 99 dX8_passOn_62 (by decide) ?_
            refine J_icmp_ge E 71 dX8_passOn_64 (by decide) (fun c131 => ?_) (fun c131 => ?_)
            · have b132 : Bd x129 99 I1 := Bd.le_r c131 (Bd.lit 99 99 (by decide)) (Bd.any x129) 99 (by decide)
              refine J_iconst E 0 dX8_passOn_71 (by decide) ?_
              exact J.sub [0, 1, 2, 3, 4, 5] rfl (J72 (Bd.lit 738 738 (by decide)) (Bd.lit 772 772 (by decide)) b64 0 ((Bd.lit 0 0 (by decide)).w 0 1 (by decide)) x121 x118 b120 ((kx_X8_passOn_738_A_772_6 (e42) (e45) (e71) (e80) (e116) (e119) (e122) (e124) (e127) (e130) (c48) (c72) (c81) (c131)).symm.trans hK))
            · have b133 : Bd x129 I0 98 := Bd.lt_l (nle c131) (Bd.any x129) (Bd.lit 99 99 (by decide)) 98 (by decide)
              refine J_iconst E 1 dX8_passOn_67 (by decide) ?_
              refine J_goto E 72 dX8_passOn_68 (by decide) ?_
              exact J.sub [0, 1, 2, 3, 4, 5] rfl (J72 (Bd.lit 738 738 (by decide)) (Bd.lit 772 772 (by decide)) b64 1 ((Bd.lit 1 1 (by decide)).w 0 1 (by decide)) x121 x118 b120 ((kx_X8_passOn_738_A_772_7 (e42) (e45) (e71) (e80) (e116) (e119) (e122) (e124) (e127) (e130) (c48) (c72) (c81) (c131)).symm.trans hK))
  have hK : K_X8_passOn_738_A_772_e G w v h0 = F_X8_passOn_738_A_772 G w v h0 := rfl
  refine J_aload_n E dX8_passOn_0 2 rfl ?_
  refine J_iload_n E dX8_passOn_1 3 rfl ?_
  refine J_iconst E 1 dX8_passOn_2 (by decide) ?_
  refine J_iadd E dX8_passOn_3 (fun x134 e135 => ?_)
  have b136 : Bd x134 773 773 := (Bd.add e135 (Bd.lit 772 772 (by decide)) (Bd.lit 1 1 (by decide)) (by decide)).w _ _ (by decide)
  refine J_iald1 E (S_X8.f1 S0) (Bd.in b136 (by decide)) dX8_passOn_4 (fun x137 e138 => ?_)
  have e139 : x137 = v (rf G h0 1) 773 := by rw [e138, Bd.ix b136 773 rfl]
  refine J_istore E [(4, .int x137), (0, .ref h0), (1, .int 738), (2, .ref (rf G h0 1)), (3, .int 772)] dX8_passOn_5 (by decide) rfl ?_
  refine J_iconst E 0 dX8_passOn_7 (by decide) ?_
  refine J_istore E [(5, .int 0), (4, .int x137), (0, .ref h0), (1, .int 738), (2, .ref (rf G h0 1)), (3, .int 772)] dX8_passOn_8 (by decide) rfl ?_
  exact J.sub [2, 3, 4, 5, 1, 0] rfl (J10 8 v (hOk) (Kp.rf) Fr.rf (Bd.lit 738 738 (by decide)) (Bd.lit 772 772 (by decide)) x137 0 ((Bd.lit 0 0 (by decide)).w 0 7 (by decide)) (Mu.start _ (Bd.lit 0 0 (by decide)) (by decide)) ((kx_X8_passOn_738_A_772_8 (e135) (e138)).symm.trans hK))

abbrev rm_X8_hereOf_A_34 : Room := { frames := 0, cells := 0, slots := 0, locals := 0 }
set_option maxHeartbeats 4000000 in
set_option maxRecDepth 100000 in
theorem ct_X8_hereOf_A_34 (l : Launch) (D : va_G) (dA : Nat → ClassId) (G : Gm) (v : Mv) (w : Mw) (hOk : Ok G v w) (h0 : Nat) (S0 : S_X8 G h0) : CtI l yX8_hereOf cX8_hereOf 3 (some .int) rm_X8_hereOf_A_34 D dA G [.ref h0, .ref (rf G h0 1), .int 34] v w (fun r v1 w1 => v1 = v ∧ w1 = w ∧ Bd r 0 127 ∧ True) := by
  refine CtI.of RX8 [(0, .ref h0), (1, .ref (rf G h0 1)), (2, .int 34)] (Nat.le_of_ble_eq_true rfl) rfl (by decide) rfl ?_
  intro p e s m args below meth c E hr
  refine J_iconst E 1 dX8_hereOf_0 (by decide) ?_
  refine J_aload_n E dX8_hereOf_1 0 rfl ?_
  refine J_getR E in_X8 rfl (S_X8.h S0) 1 (by decide) wd936 rfl dX8_hereOf_2 ?_
  refine J_iconst E 1 dX8_hereOf_5 (by decide) ?_
  refine J_iald1 E (S_X8.f1 S0) (Bd.in (Bd.lit 1 1 (by decide)) (by decide)) dX8_hereOf_6 (fun x1 e2 => ?_)
  have b3 : Bd x1 0 7 := Bd.e (Ok.ld hOk (S_X8.f1 S0) (Bd.lit 1 1 (by decide)) 1 1 0 7 (by decide) (by decide +kernel)) e2
  have e4 : x1 = v (rf G h0 1) 1 := by rw [e2, Bd.ix (Bd.lit 1 1 (by decide)) 1 rfl]
  refine J_ishl E dX8_hereOf_7 (fun x5 e6 => ?_)
  have b7 : Bd x5 1 128 := Bd.shl1 e6 b3 7 (by decide)
  refine J_iconst E 1 dX8_hereOf_8 (by decide) ?_
  refine J_isub E dX8_hereOf_9 (fun x8 e9 => ?_)
  have b10 : Bd x8 0 127 := (Bd.sub e9 b7 (Bd.lit 1 1 (by decide)) (by decide)).w _ _ (by decide)
  refine J_aload_n E dX8_hereOf_10 1 rfl ?_
  refine J_iload_n E dX8_hereOf_11 2 rfl ?_
  refine J_iconst E 1 dX8_hereOf_12 (by decide) ?_
  refine J_iadd E dX8_hereOf_13 (fun x11 e12 => ?_)
  have b13 : Bd x11 35 35 := (Bd.add e12 (Bd.lit 34 34 (by decide)) (Bd.lit 1 1 (by decide)) (by decide)).w _ _ (by decide)
  refine J_iald1 E (S_X8.f1 S0) (Bd.in b13 (by decide)) dX8_hereOf_14 (fun x14 e15 => ?_)
  have e16 : x14 = v (rf G h0 1) 35 := by rw [e15, Bd.ix b13 35 rfl]
  refine J_iconst E (-1) dX8_hereOf_15 (by decide) ?_
  refine J_ixor E dX8_hereOf_16 (fun x17 e18 => ?_)
  refine J_iand E dX8_hereOf_17 (fun x19 e20 => ?_)
  have b21 : Bd x19 0 127 := Bd.and_l e20 b10 (by decide)
  exact J_iret E hr dX8_hereOf_18 ⟨rfl, rfl, b21, trivial⟩

abbrev rm_X8_hereOf_T_0 : Room := { frames := 0, cells := 0, slots := 0, locals := 0 }
set_option maxHeartbeats 4000000 in
set_option maxRecDepth 100000 in
theorem ct_X8_hereOf_T_0 (l : Launch) (D : va_G) (dA : Nat → ClassId) (G : Gm) (v : Mv) (w : Mw) (hOk : Ok G v w) (h0 : Nat) (S0 : S_X8 G h0) : CtI l yX8_hereOf cX8_hereOf 3 (some .int) rm_X8_hereOf_T_0 D dA G [.ref h0, .ref (rf G h0 3), .int 0] v w (fun r v1 w1 => v1 = v ∧ w1 = w ∧ Bd r 0 127 ∧ True) := by
  refine CtI.of RX8 [(0, .ref h0), (1, .ref (rf G h0 3)), (2, .int 0)] (Nat.le_of_ble_eq_true rfl) rfl (by decide) rfl ?_
  intro p e s m args below meth c E hr
  refine J_iconst E 1 dX8_hereOf_0 (by decide) ?_
  refine J_aload_n E dX8_hereOf_1 0 rfl ?_
  refine J_getR E in_X8 rfl (S_X8.h S0) 1 (by decide) wd936 rfl dX8_hereOf_2 ?_
  refine J_iconst E 1 dX8_hereOf_5 (by decide) ?_
  refine J_iald1 E (S_X8.f1 S0) (Bd.in (Bd.lit 1 1 (by decide)) (by decide)) dX8_hereOf_6 (fun x1 e2 => ?_)
  have b3 : Bd x1 0 7 := Bd.e (Ok.ld hOk (S_X8.f1 S0) (Bd.lit 1 1 (by decide)) 1 1 0 7 (by decide) (by decide +kernel)) e2
  have e4 : x1 = v (rf G h0 1) 1 := by rw [e2, Bd.ix (Bd.lit 1 1 (by decide)) 1 rfl]
  refine J_ishl E dX8_hereOf_7 (fun x5 e6 => ?_)
  have b7 : Bd x5 1 128 := Bd.shl1 e6 b3 7 (by decide)
  refine J_iconst E 1 dX8_hereOf_8 (by decide) ?_
  refine J_isub E dX8_hereOf_9 (fun x8 e9 => ?_)
  have b10 : Bd x8 0 127 := (Bd.sub e9 b7 (Bd.lit 1 1 (by decide)) (by decide)).w _ _ (by decide)
  refine J_aload_n E dX8_hereOf_10 1 rfl ?_
  refine J_iload_n E dX8_hereOf_11 2 rfl ?_
  refine J_iconst E 1 dX8_hereOf_12 (by decide) ?_
  refine J_iadd E dX8_hereOf_13 (fun x11 e12 => ?_)
  have b13 : Bd x11 1 1 := (Bd.add e12 (Bd.lit 0 0 (by decide)) (Bd.lit 1 1 (by decide)) (by decide)).w _ _ (by decide)
  refine J_iald1 E (S_X8.f3 S0) (Bd.in b13 (by decide)) dX8_hereOf_14 (fun x14 e15 => ?_)
  have e16 : x14 = v (rf G h0 3) 1 := by rw [e15, Bd.ix b13 1 rfl]
  refine J_iconst E (-1) dX8_hereOf_15 (by decide) ?_
  refine J_ixor E dX8_hereOf_16 (fun x17 e18 => ?_)
  refine J_iand E dX8_hereOf_17 (fun x19 e20 => ?_)
  have b21 : Bd x19 0 127 := Bd.and_l e20 b10 (by decide)
  exact J_iret E hr dX8_hereOf_18 ⟨rfl, rfl, b21, trivial⟩

def K_X8_ownerOf_0_A_34_40 (G : Gm) (w : Mw) (h0 : Nat) (rec6 : Mv → Int32 → Int32 → Int32 → Int32 → Int32 → Int32) (v : Mv) (x16 : Int32) (x17 : Int32) (x_3 : Int32) (x6 : Int32) (x14 : Int32) : Int32 :=
  rec6 v (0 : Int32) (34 : Int32) x_3 x14 (x6 + (1 : Int32))
def K_X8_ownerOf_0_A_34_6 (G : Gm) (w : Mw) (h0 : Nat) : Nat → Mv → Int32 → Int32 → Int32 → Int32 → Int32 → Int32
  | 0, _, _, _, _, _, _ => (0 : Int32)
  | n6 + 1, v, x8, x9, x_3, x4, x6 =>
    if (v (rf G h0 1) (Int32.toNatClampNeg ((0 : Int32) + (1 : Int32)))) ≤ x6 then (x4) else (if (v (rf G h0 1) (Int32.toNatClampNeg (((34 : Int32) + (9 : Int32)) + x6))) = x_3 then (K_X8_ownerOf_0_A_34_40 G w h0 (K_X8_ownerOf_0_A_34_6 G w h0 n6) v (0 : Int32) (34 : Int32) x_3 x6 x6) else (K_X8_ownerOf_0_A_34_40 G w h0 (K_X8_ownerOf_0_A_34_6 G w h0 n6) v (0 : Int32) (34 : Int32) x_3 x6 x4))
def K_X8_ownerOf_0_A_34_e (G : Gm) (w : Mw) (v : Mv) (h0 : Nat) (x_3 : Int32) : Int32 :=
  K_X8_ownerOf_0_A_34_6 G w h0 8 v (0 : Int32) (34 : Int32) x_3 (-1 : Int32) (0 : Int32)
def F_X8_ownerOf_0_A_34 (G : Gm) (w : Mw) (v : Mv) (h0 : Nat) (x_3 : Int32) : Int32 := K_X8_ownerOf_0_A_34_e G w v h0 x_3
set_option maxRecDepth 100000 in
theorem kx_X8_ownerOf_0_A_34_1 {G : Gm} {w : Mw} {h0 : Nat} {rec6 : Mv → Int32 → Int32 → Int32 → Int32 → Int32 → Int32} {v : Mv} {x_3 : Int32} {x6 : Int32} {x14 : Int32} {x18 : Int32} (a0 : x18 = x6 + (1 : Int32))  : K_X8_ownerOf_0_A_34_40 G w h0 rec6 v (0 : Int32) (34 : Int32) x_3 x6 x14 = rec6 v (0 : Int32) (34 : Int32) x_3 x14 x18 := by
  subst a0; first | rw [K_X8_ownerOf_0_A_34_40] | simp only [K_X8_ownerOf_0_A_34_40]
set_option maxRecDepth 100000 in
theorem kx_X8_ownerOf_0_A_34_2 {G : Gm} {w : Mw} {h0 : Nat} {n6 : Nat} {v : Mv} {x_3 : Int32} {x4 : Int32} {x6 : Int32} {x21 : Int32} {x24 : Int32} (a0 : x21 = (0 : Int32) + (1 : Int32)) (a1 : x24 = v (rf G h0 1) (Int32.toNatClampNeg x21)) (k0 : x24 ≤ x6) : K_X8_ownerOf_0_A_34_6 G w h0 (n6 + 1) v (0 : Int32) (34 : Int32) x_3 x4 x6 = x4 := by
  subst a1; subst a0; first | rw [K_X8_ownerOf_0_A_34_6, if_pos k0] | simp only [K_X8_ownerOf_0_A_34_6, if_pos k0]
set_option maxRecDepth 100000 in
theorem kx_X8_ownerOf_0_A_34_3 {G : Gm} {w : Mw} {h0 : Nat} {n6 : Nat} {v : Mv} {x_3 : Int32} {x4 : Int32} {x6 : Int32} {x21 : Int32} {x31 : Int32} {x34 : Int32} {x24 : Int32} {x37 : Int32} (a0 : x21 = (0 : Int32) + (1 : Int32)) (a1 : x24 = v (rf G h0 1) (Int32.toNatClampNeg x21)) (a2 : x31 = (34 : Int32) + (9 : Int32)) (a3 : x34 = x31 + x6) (a4 : x37 = v (rf G h0 1) (Int32.toNatClampNeg x34)) (k0 : ¬ (x24 ≤ x6)) (k1 : ¬ (x37 = x_3)) : K_X8_ownerOf_0_A_34_6 G w h0 (n6 + 1) v (0 : Int32) (34 : Int32) x_3 x4 x6 = K_X8_ownerOf_0_A_34_40 G w h0 (K_X8_ownerOf_0_A_34_6 G w h0 n6) v (0 : Int32) (34 : Int32) x_3 x6 x4 := by
  subst a4; subst a3; subst a2; subst a1; subst a0; first | rw [K_X8_ownerOf_0_A_34_6, if_neg k0, if_neg k1] | simp only [K_X8_ownerOf_0_A_34_6, if_neg k0, if_neg k1]
set_option maxRecDepth 100000 in
theorem kx_X8_ownerOf_0_A_34_4 {G : Gm} {w : Mw} {h0 : Nat} {n6 : Nat} {v : Mv} {x_3 : Int32} {x4 : Int32} {x6 : Int32} {x21 : Int32} {x31 : Int32} {x34 : Int32} {x24 : Int32} {x37 : Int32} (a0 : x21 = (0 : Int32) + (1 : Int32)) (a1 : x24 = v (rf G h0 1) (Int32.toNatClampNeg x21)) (a2 : x31 = (34 : Int32) + (9 : Int32)) (a3 : x34 = x31 + x6) (a4 : x37 = v (rf G h0 1) (Int32.toNatClampNeg x34)) (k0 : ¬ (x24 ≤ x6)) (k1 : x37 = x_3) : K_X8_ownerOf_0_A_34_6 G w h0 (n6 + 1) v (0 : Int32) (34 : Int32) x_3 x4 x6 = K_X8_ownerOf_0_A_34_40 G w h0 (K_X8_ownerOf_0_A_34_6 G w h0 n6) v (0 : Int32) (34 : Int32) x_3 x6 x6 := by
  subst a4; subst a3; subst a2; subst a1; subst a0; first | rw [K_X8_ownerOf_0_A_34_6, if_neg k0, if_pos k1] | simp only [K_X8_ownerOf_0_A_34_6, if_neg k0, if_pos k1]
set_option maxRecDepth 100000 in
theorem kx_X8_ownerOf_0_A_34_5 {G : Gm} {w : Mw} {v : Mv} {h0 : Nat} {x_3 : Int32}   : K_X8_ownerOf_0_A_34_e G w v h0 x_3 = K_X8_ownerOf_0_A_34_6 G w h0 8 v (0 : Int32) (34 : Int32) x_3 (-1 : Int32) (0 : Int32) := by
  first | rw [K_X8_ownerOf_0_A_34_e] | simp only [K_X8_ownerOf_0_A_34_e]
abbrev rm_X8_ownerOf_0_A_34 : Room := { frames := 0, cells := 0, slots := 0, locals := 0 }
set_option maxHeartbeats 4000000 in
set_option maxRecDepth 100000 in
theorem ct_X8_ownerOf_0_A_34 (l : Launch) (D : va_G) (dA : Nat → ClassId) (G : Gm) (v : Mv) (w : Mw) (hOk : Ok G v w) (h0 : Nat) (S0 : S_X8 G h0) (x_3 : Int32) (bx_3 : Bd x_3 0 6) : CtI l yX8_ownerOf cX8_ownerOf 7 (some .int) rm_X8_ownerOf_0_A_34 D dA G [.ref h0, .int 0, .ref (rf G h0 1), .int 34, .int x_3] v w (fun r v1 w1 => v1 = v ∧ w1 = w ∧ Bd r (-1) 6 ∧ r = F_X8_ownerOf_0_A_34 G w v h0 x_3) := by
  refine CtI.of RX8 [(0, .ref h0), (1, .int 0), (2, .ref (rf G h0 1)), (3, .int 34), (4, .int x_3)] (Nat.le_of_ble_eq_true rfl) rfl (by decide) rfl ?_
  intro p e s m args below meth c E hr
  have J6 : ∀ n6 : Nat, Bd 0 0 0 → Bd 34 34 34 → Bd x_3 0 6 → ∀ x4 : Int32, Bd x4 (-1) 6 → ∀ x6 : Int32, Bd x6 0 7 → Mu x6 7 n6 → K_X8_ownerOf_0_A_34_6 G w h0 n6 v (0 : Int32) (34 : Int32) x_3 x4 x6 = F_X8_ownerOf_0_A_34 G w v h0 x_3 → J p l e rm_X8_ownerOf_0_A_34 s m args below meth c 0 0 (MQ below (QcI D dA G (fun r v1 w1 => v1 = v ∧ w1 = w ∧ Bd r (-1) 6 ∧ r = F_X8_ownerOf_0_A_34 G w v h0 x_3)) args s 0 0 (dm G)) D dA G (dm G) s.heap 7 v w [(0, .ref h0), (1, .int 0), (2, .ref (rf G h0 1)), (3, .int 34), (4, .int x_3), (5, .int x4), (6, .int x6)] 6 [] := by
    intro n6
    induction n6 with
    | zero => intro b1 b2 b3 x4 b5 x6 b7 hm hK; exact hm.zero b7 (by decide)
    | succ n6 ih6 =>
      intro b1 b2 b3 x4 b5 x6 b7 hmu6 hK
      have J40 : Bd 0 0 0 → Bd 34 34 34 → Bd x_3 0 6 → Bd x6 0 6 → ∀ x14 : Int32, Bd x14 (-1) 6 → K_X8_ownerOf_0_A_34_40 G w h0 (K_X8_ownerOf_0_A_34_6 G w h0 n6) v (0 : Int32) (34 : Int32) x_3 x6 x14 = F_X8_ownerOf_0_A_34 G w v h0 x_3 → J p l e rm_X8_ownerOf_0_A_34 s m args below meth c 0 0 (MQ below (QcI D dA G (fun r v1 w1 => v1 = v ∧ w1 = w ∧ Bd r (-1) 6 ∧ r = F_X8_ownerOf_0_A_34 G w v h0 x_3)) args s 0 0 (dm G)) D dA G (dm G) s.heap 7 v w [(0, .ref h0), (1, .int 0), (2, .ref (rf G h0 1)), (3, .int 34), (4, .int x_3), (6, .int x6)] 40 [.int x14] := by
        intro b10 b11 b12 b13 x14 b15 hK
        refine J_istore E [(5, .int x14), (0, .ref h0), (1, .int 0), (2, .ref (rf G h0 1)), (3, .int 34), (4, .int x_3), (6, .int x6)] dX8_ownerOf_40 (by decide) rfl ?_
        refine J_iinc E 6 1 (fun z => [(6, .int z), (5, .int x14), (0, .ref h0), (1, .int 0), (2, .ref (rf G h0 1)), (3, .int 34), (4, .int x_3)]) dX8_ownerOf_42 rfl (by decide) (by decide) (fun _ => rfl) (fun x18 e19 => ?_)
        have b20 : Bd x18 1 7 := (Bd.add e19 b13 (Bd.lit 1 1 (by decide)) (by decide)).w _ _ (by decide)
        refine J_goto E 6 dX8_ownerOf_45 (by decide) ?_
        exact J.sub [2, 3, 4, 5, 6, 1, 0] rfl (ih6 (Bd.lit 0 0 (by decide)) (Bd.lit 34 34 (by decide)) b12 x14 b15 x18 (b20.w 0 7 (by decide)) (Mu.step hmu6 e19 b13 (Bd.lit 1 1 (by decide)) (by decide)) ((kx_X8_ownerOf_0_A_34_1 (e19)).symm.trans hK))
      refine J_iload E dX8_ownerOf_6 6 rfl ?_
      refine J_aload_n E dX8_ownerOf_8 0 rfl ?_
      refine J_getR E in_X8 rfl (S_X8.h S0) 1 (by decide) wd936 rfl dX8_ownerOf_9 ?_
      refine J_iload_n E dX8_ownerOf_12 1 rfl ?_
      refine J_iconst E 1 dX8_ownerOf_13 (by decide) ?_
      refine J_iadd E dX8_ownerOf_14 (fun x21 e22 => ?_)
      have b23 : Bd x21 1 1 := (Bd.add e22 (Bd.lit 0 0 (by decide)) (Bd.lit 1 1 (by decide)) (by decide)).w _ _ (by decide)
      refine J_iald1 E (S_X8.f1 S0) (Bd.in b23 (by decide)) dX8_ownerOf_15 (fun x24 e25 => ?_)
      have b26 : Bd x24 0 7 := Bd.e (Ok.ld hOk (S_X8.f1 S0) b23 1 1 0 7 (by decide) (by decide +kernel)) e25
      have e27 : x24 = v (rf G h0 1) 1 := by rw [e25, Bd.ix b23 1 rfl]
      refine J_icmp_ge E 48 dX8_ownerOf_16 (by decide) (fun c28 => ?_) (fun c28 => ?_)
      · refine J_iload E dX8_ownerOf_48 5 rfl ?_
        exact J_iret E hr dX8_ownerOf_50 ⟨rfl, rfl, b5, ((kx_X8_ownerOf_0_A_34_2 (e22) (e25) (c28)).symm.trans hK)⟩
      · have b29 : Bd x6 0 6 := Bd.lt_l (nle c28) b7 b26 6 (by decide)
        have b30 : Bd x24 1 7 := Bd.lt_r (nle c28) b7 b26 1 (by decide)
        refine J_aload_n E dX8_ownerOf_19 2 rfl ?_
        refine J_iload_n E dX8_ownerOf_20 3 rfl ?_
        refine J_bipush E 9 dX8_ownerOf_21 (by decide) ?_
        refine J_iadd E dX8_ownerOf_23 (fun x31 e32 => ?_)
        have b33 : Bd x31 43 43 := (Bd.add e32 (Bd.lit 34 34 (by decide)) (Bd.lit 9 9 (by decide)) (by decide)).w _ _ (by decide)
        refine J_iload E dX8_ownerOf_24 6 rfl ?_
        refine J_iadd E dX8_ownerOf_26 (fun x34 e35 => ?_)
        have b36 : Bd x34 43 49 := (Bd.add e35 b33 b29 (by decide)).w _ _ (by decide)
        refine J_iald1 E (S_X8.f1 S0) (Bd.in b36 (by decide)) dX8_ownerOf_27 (fun x37 e38 => ?_)
        have b39 : Bd x37 (-1) 6 := Bd.e (Ok.ld hOk (S_X8.f1 S0) b36 43 7 (-1) 6 (by decide) (by decide +kernel)) e38
        refine J_iload E dX8_ownerOf_28 4 rfl ?_
        refine J_icmp_ne E 38 dX8_ownerOf_30 (by decide) (fun c40 => ?_) (fun c40 => ?_)
        · refine J_iload E dX8_ownerOf_38 5 rfl ?_
          exact J.sub [0, 1, 2, 3, 4, 6] rfl (J40 (Bd.lit 0 0 (by decide)) (Bd.lit 34 34 (by decide)) b3 b29 x4 b5 ((kx_X8_ownerOf_0_A_34_3 (e22) (e25) (e32) (e35) (e38) (c28) (c40)).symm.trans hK))
        · have b41 : Bd x37 0 6 := Bd.eq_l c40 b39 b3 0 6 (by decide)
          refine J_iload E dX8_ownerOf_33 6 rfl ?_
          refine J_goto E 40 dX8_ownerOf_35 (by decide) ?_
          exact J.sub [0, 1, 2, 3, 4, 6] rfl (J40 (Bd.lit 0 0 (by decide)) (Bd.lit 34 34 (by decide)) b3 b29 x6 (b29.w (-1) 6 (by decide)) ((kx_X8_ownerOf_0_A_34_4 (e22) (e25) (e32) (e35) (e38) (c28) (c40)).symm.trans hK))
  have hK : K_X8_ownerOf_0_A_34_e G w v h0 x_3 = F_X8_ownerOf_0_A_34 G w v h0 x_3 := rfl
  refine J_iconst E (-1) dX8_ownerOf_0 (by decide) ?_
  refine J_istore E [(5, .int (-1)), (0, .ref h0), (1, .int 0), (2, .ref (rf G h0 1)), (3, .int 34), (4, .int x_3)] dX8_ownerOf_1 (by decide) rfl ?_
  refine J_iconst E 0 dX8_ownerOf_3 (by decide) ?_
  refine J_istore E [(6, .int 0), (5, .int (-1)), (0, .ref h0), (1, .int 0), (2, .ref (rf G h0 1)), (3, .int 34), (4, .int x_3)] dX8_ownerOf_4 (by decide) rfl ?_
  exact J.sub [2, 3, 4, 5, 6, 1, 0] rfl (J6 8 (Bd.lit 0 0 (by decide)) (Bd.lit 34 34 (by decide)) bx_3 (-1) ((Bd.lit (-1) (-1) (by decide)).w (-1) 6 (by decide)) 0 ((Bd.lit 0 0 (by decide)).w 0 7 (by decide)) (Mu.start _ (Bd.lit 0 0 (by decide)) (by decide)) ((kx_X8_ownerOf_0_A_34_5).symm.trans hK))

def K_X8_ownerOf_0_T_0_40 (G : Gm) (w : Mw) (h0 : Nat) (rec6 : Mv → Int32 → Int32 → Int32 → Int32 → Int32 → Int32) (v : Mv) (x16 : Int32) (x17 : Int32) (x_3 : Int32) (x6 : Int32) (x14 : Int32) : Int32 :=
  rec6 v (0 : Int32) (0 : Int32) x_3 x14 (x6 + (1 : Int32))
def K_X8_ownerOf_0_T_0_6 (G : Gm) (w : Mw) (h0 : Nat) : Nat → Mv → Int32 → Int32 → Int32 → Int32 → Int32 → Int32
  | 0, _, _, _, _, _, _ => (0 : Int32)
  | n6 + 1, v, x8, x9, x_3, x4, x6 =>
    if (v (rf G h0 1) (Int32.toNatClampNeg ((0 : Int32) + (1 : Int32)))) ≤ x6 then (x4) else (if (v (rf G h0 3) (Int32.toNatClampNeg (((0 : Int32) + (9 : Int32)) + x6))) = x_3 then (K_X8_ownerOf_0_T_0_40 G w h0 (K_X8_ownerOf_0_T_0_6 G w h0 n6) v (0 : Int32) (0 : Int32) x_3 x6 x6) else (K_X8_ownerOf_0_T_0_40 G w h0 (K_X8_ownerOf_0_T_0_6 G w h0 n6) v (0 : Int32) (0 : Int32) x_3 x6 x4))
def K_X8_ownerOf_0_T_0_e (G : Gm) (w : Mw) (v : Mv) (h0 : Nat) (x_3 : Int32) : Int32 :=
  K_X8_ownerOf_0_T_0_6 G w h0 8 v (0 : Int32) (0 : Int32) x_3 (-1 : Int32) (0 : Int32)
def F_X8_ownerOf_0_T_0 (G : Gm) (w : Mw) (v : Mv) (h0 : Nat) (x_3 : Int32) : Int32 := K_X8_ownerOf_0_T_0_e G w v h0 x_3
set_option maxRecDepth 100000 in
theorem kx_X8_ownerOf_0_T_0_1 {G : Gm} {w : Mw} {h0 : Nat} {rec6 : Mv → Int32 → Int32 → Int32 → Int32 → Int32 → Int32} {v : Mv} {x_3 : Int32} {x6 : Int32} {x14 : Int32} {x18 : Int32} (a0 : x18 = x6 + (1 : Int32))  : K_X8_ownerOf_0_T_0_40 G w h0 rec6 v (0 : Int32) (0 : Int32) x_3 x6 x14 = rec6 v (0 : Int32) (0 : Int32) x_3 x14 x18 := by
  subst a0; first | rw [K_X8_ownerOf_0_T_0_40] | simp only [K_X8_ownerOf_0_T_0_40]
set_option maxRecDepth 100000 in
theorem kx_X8_ownerOf_0_T_0_2 {G : Gm} {w : Mw} {h0 : Nat} {n6 : Nat} {v : Mv} {x_3 : Int32} {x4 : Int32} {x6 : Int32} {x21 : Int32} {x24 : Int32} (a0 : x21 = (0 : Int32) + (1 : Int32)) (a1 : x24 = v (rf G h0 1) (Int32.toNatClampNeg x21)) (k0 : x24 ≤ x6) : K_X8_ownerOf_0_T_0_6 G w h0 (n6 + 1) v (0 : Int32) (0 : Int32) x_3 x4 x6 = x4 := by
  subst a1; subst a0; first | rw [K_X8_ownerOf_0_T_0_6, if_pos k0] | simp only [K_X8_ownerOf_0_T_0_6, if_pos k0]
set_option maxRecDepth 100000 in
theorem kx_X8_ownerOf_0_T_0_3 {G : Gm} {w : Mw} {h0 : Nat} {n6 : Nat} {v : Mv} {x_3 : Int32} {x4 : Int32} {x6 : Int32} {x21 : Int32} {x31 : Int32} {x34 : Int32} {x24 : Int32} {x37 : Int32} (a0 : x21 = (0 : Int32) + (1 : Int32)) (a1 : x24 = v (rf G h0 1) (Int32.toNatClampNeg x21)) (a2 : x31 = (0 : Int32) + (9 : Int32)) (a3 : x34 = x31 + x6) (a4 : x37 = v (rf G h0 3) (Int32.toNatClampNeg x34)) (k0 : ¬ (x24 ≤ x6)) (k1 : ¬ (x37 = x_3)) : K_X8_ownerOf_0_T_0_6 G w h0 (n6 + 1) v (0 : Int32) (0 : Int32) x_3 x4 x6 = K_X8_ownerOf_0_T_0_40 G w h0 (K_X8_ownerOf_0_T_0_6 G w h0 n6) v (0 : Int32) (0 : Int32) x_3 x6 x4 := by
  subst a4; subst a3; subst a2; subst a1; subst a0; first | rw [K_X8_ownerOf_0_T_0_6, if_neg k0, if_neg k1] | simp only [K_X8_ownerOf_0_T_0_6, if_neg k0, if_neg k1]
set_option maxRecDepth 100000 in
theorem kx_X8_ownerOf_0_T_0_4 {G : Gm} {w : Mw} {h0 : Nat} {n6 : Nat} {v : Mv} {x_3 : Int32} {x4 : Int32} {x6 : Int32} {x21 : Int32} {x31 : Int32} {x34 : Int32} {x24 : Int32} {x37 : Int32} (a0 : x21 = (0 : Int32) + (1 : Int32)) (a1 : x24 = v (rf G h0 1) (Int32.toNatClampNeg x21)) (a2 : x31 = (0 : Int32) + (9 : Int32)) (a3 : x34 = x31 + x6) (a4 : x37 = v (rf G h0 3) (Int32.toNatClampNeg x34)) (k0 : ¬ (x24 ≤ x6)) (k1 : x37 = x_3) : K_X8_ownerOf_0_T_0_6 G w h0 (n6 + 1) v (0 : Int32) (0 : Int32) x_3 x4 x6 = K_X8_ownerOf_0_T_0_40 G w h0 (K_X8_ownerOf_0_T_0_6 G w h0 n6) v (0 : Int32) (0 : Int32) x_3 x6 x6 := by
  subst a4; subst a3; subst a2; subst a1; subst a0; first | rw [K_X8_ownerOf_0_T_0_6, if_neg k0, if_pos k1] | simp only [K_X8_ownerOf_0_T_0_6, if_neg k0, if_pos k1]
set_option maxRecDepth 100000 in
theorem kx_X8_ownerOf_0_T_0_5 {G : Gm} {w : Mw} {v : Mv} {h0 : Nat} {x_3 : Int32}   : K_X8_ownerOf_0_T_0_e G w v h0 x_3 = K_X8_ownerOf_0_T_0_6 G w h0 8 v (0 : Int32) (0 : Int32) x_3 (-1 : Int32) (0 : Int32) := by
  first | rw [K_X8_ownerOf_0_T_0_e] | simp only [K_X8_ownerOf_0_T_0_e]
abbrev rm_X8_ownerOf_0_T_0 : Room := { frames := 0, cells := 0, slots := 0, locals := 0 }
set_option maxHeartbeats 4000000 in
set_option maxRecDepth 100000 in
theorem ct_X8_ownerOf_0_T_0 (l : Launch) (D : va_G) (dA : Nat → ClassId) (G : Gm) (v : Mv) (w : Mw) (hOk : Ok G v w) (h0 : Nat) (S0 : S_X8 G h0) (x_3 : Int32) (bx_3 : Bd x_3 0 6) : CtI l yX8_ownerOf cX8_ownerOf 7 (some .int) rm_X8_ownerOf_0_T_0 D dA G [.ref h0, .int 0, .ref (rf G h0 3), .int 0, .int x_3] v w (fun r v1 w1 => v1 = v ∧ w1 = w ∧ Bd r (-1) 6 ∧ r = F_X8_ownerOf_0_T_0 G w v h0 x_3) := by
  refine CtI.of RX8 [(0, .ref h0), (1, .int 0), (2, .ref (rf G h0 3)), (3, .int 0), (4, .int x_3)] (Nat.le_of_ble_eq_true rfl) rfl (by decide) rfl ?_
  intro p e s m args below meth c E hr
  have J6 : ∀ n6 : Nat, Bd 0 0 0 → Bd 0 0 0 → Bd x_3 0 6 → ∀ x4 : Int32, Bd x4 (-1) 6 → ∀ x6 : Int32, Bd x6 0 7 → Mu x6 7 n6 → K_X8_ownerOf_0_T_0_6 G w h0 n6 v (0 : Int32) (0 : Int32) x_3 x4 x6 = F_X8_ownerOf_0_T_0 G w v h0 x_3 → J p l e rm_X8_ownerOf_0_T_0 s m args below meth c 0 0 (MQ below (QcI D dA G (fun r v1 w1 => v1 = v ∧ w1 = w ∧ Bd r (-1) 6 ∧ r = F_X8_ownerOf_0_T_0 G w v h0 x_3)) args s 0 0 (dm G)) D dA G (dm G) s.heap 7 v w [(0, .ref h0), (1, .int 0), (2, .ref (rf G h0 3)), (3, .int 0), (4, .int x_3), (5, .int x4), (6, .int x6)] 6 [] := by
    intro n6
    induction n6 with
    | zero => intro b1 b2 b3 x4 b5 x6 b7 hm hK; exact hm.zero b7 (by decide)
    | succ n6 ih6 =>
      intro b1 b2 b3 x4 b5 x6 b7 hmu6 hK
      have J40 : Bd 0 0 0 → Bd 0 0 0 → Bd x_3 0 6 → Bd x6 0 6 → ∀ x14 : Int32, Bd x14 (-1) 6 → K_X8_ownerOf_0_T_0_40 G w h0 (K_X8_ownerOf_0_T_0_6 G w h0 n6) v (0 : Int32) (0 : Int32) x_3 x6 x14 = F_X8_ownerOf_0_T_0 G w v h0 x_3 → J p l e rm_X8_ownerOf_0_T_0 s m args below meth c 0 0 (MQ below (QcI D dA G (fun r v1 w1 => v1 = v ∧ w1 = w ∧ Bd r (-1) 6 ∧ r = F_X8_ownerOf_0_T_0 G w v h0 x_3)) args s 0 0 (dm G)) D dA G (dm G) s.heap 7 v w [(0, .ref h0), (1, .int 0), (2, .ref (rf G h0 3)), (3, .int 0), (4, .int x_3), (6, .int x6)] 40 [.int x14] := by
        intro b10 b11 b12 b13 x14 b15 hK
        refine J_istore E [(5, .int x14), (0, .ref h0), (1, .int 0), (2, .ref (rf G h0 3)), (3, .int 0), (4, .int x_3), (6, .int x6)] dX8_ownerOf_40 (by decide) rfl ?_
        refine J_iinc E 6 1 (fun z => [(6, .int z), (5, .int x14), (0, .ref h0), (1, .int 0), (2, .ref (rf G h0 3)), (3, .int 0), (4, .int x_3)]) dX8_ownerOf_42 rfl (by decide) (by decide) (fun _ => rfl) (fun x18 e19 => ?_)
        have b20 : Bd x18 1 7 := (Bd.add e19 b13 (Bd.lit 1 1 (by decide)) (by decide)).w _ _ (by decide)
        refine J_goto E 6 dX8_ownerOf_45 (by decide) ?_
        exact J.sub [2, 3, 4, 5, 6, 1, 0] rfl (ih6 (Bd.lit 0 0 (by decide)) (Bd.lit 0 0 (by decide)) b12 x14 b15 x18 (b20.w 0 7 (by decide)) (Mu.step hmu6 e19 b13 (Bd.lit 1 1 (by decide)) (by decide)) ((kx_X8_ownerOf_0_T_0_1 (e19)).symm.trans hK))
      refine J_iload E dX8_ownerOf_6 6 rfl ?_
      refine J_aload_n E dX8_ownerOf_8 0 rfl ?_
      refine J_getR E in_X8 rfl (S_X8.h S0) 1 (by decide) wd936 rfl dX8_ownerOf_9 ?_
      refine J_iload_n E dX8_ownerOf_12 1 rfl ?_
      refine J_iconst E 1 dX8_ownerOf_13 (by decide) ?_
      refine J_iadd E dX8_ownerOf_14 (fun x21 e22 => ?_)
      have b23 : Bd x21 1 1 := (Bd.add e22 (Bd.lit 0 0 (by decide)) (Bd.lit 1 1 (by decide)) (by decide)).w _ _ (by decide)
      refine J_iald1 E (S_X8.f1 S0) (Bd.in b23 (by decide)) dX8_ownerOf_15 (fun x24 e25 => ?_)
      have b26 : Bd x24 0 7 := Bd.e (Ok.ld hOk (S_X8.f1 S0) b23 1 1 0 7 (by decide) (by decide +kernel)) e25
      have e27 : x24 = v (rf G h0 1) 1 := by rw [e25, Bd.ix b23 1 rfl]
      refine J_icmp_ge E 48 dX8_ownerOf_16 (by decide) (fun c28 => ?_) (fun c28 => ?_)
      · refine J_iload E dX8_ownerOf_48 5 rfl ?_
        exact J_iret E hr dX8_ownerOf_50 ⟨rfl, rfl, b5, ((kx_X8_ownerOf_0_T_0_2 (e22) (e25) (c28)).symm.trans hK)⟩
      · have b29 : Bd x6 0 6 := Bd.lt_l (nle c28) b7 b26 6 (by decide)
        have b30 : Bd x24 1 7 := Bd.lt_r (nle c28) b7 b26 1 (by decide)
        refine J_aload_n E dX8_ownerOf_19 2 rfl ?_
        refine J_iload_n E dX8_ownerOf_20 3 rfl ?_
        refine J_bipush E 9 dX8_ownerOf_21 (by decide) ?_
        refine J_iadd E dX8_ownerOf_23 (fun x31 e32 => ?_)
        have b33 : Bd x31 9 9 := (Bd.add e32 (Bd.lit 0 0 (by decide)) (Bd.lit 9 9 (by decide)) (by decide)).w _ _ (by decide)
        refine J_iload E dX8_ownerOf_24 6 rfl ?_
        refine J_iadd E dX8_ownerOf_26 (fun x34 e35 => ?_)
        have b36 : Bd x34 9 15 := (Bd.add e35 b33 b29 (by decide)).w _ _ (by decide)
        refine J_iald1 E (S_X8.f3 S0) (Bd.in b36 (by decide)) dX8_ownerOf_27 (fun x37 e38 => ?_)
        have b39 : Bd x37 (-1) 6 := Bd.e (Ok.ld hOk (S_X8.f3 S0) b36 9 7 (-1) 6 (by decide) (by decide +kernel)) e38
        refine J_iload E dX8_ownerOf_28 4 rfl ?_
        refine J_icmp_ne E 38 dX8_ownerOf_30 (by decide) (fun c40 => ?_) (fun c40 => ?_)
        · refine J_iload E dX8_ownerOf_38 5 rfl ?_
          exact J.sub [0, 1, 2, 3, 4, 6] rfl (J40 (Bd.lit 0 0 (by decide)) (Bd.lit 0 0 (by decide)) b3 b29 x4 b5 ((kx_X8_ownerOf_0_T_0_3 (e22) (e25) (e32) (e35) (e38) (c28) (c40)).symm.trans hK))
        · have b41 : Bd x37 0 6 := Bd.eq_l c40 b39 b3 0 6 (by decide)
          refine J_iload E dX8_ownerOf_33 6 rfl ?_
          refine J_goto E 40 dX8_ownerOf_35 (by decide) ?_
          exact J.sub [0, 1, 2, 3, 4, 6] rfl (J40 (Bd.lit 0 0 (by decide)) (Bd.lit 0 0 (by decide)) b3 b29 x6 (b29.w (-1) 6 (by decide)) ((kx_X8_ownerOf_0_T_0_4 (e22) (e25) (e32) (e35) (e38) (c28) (c40)).symm.trans hK))
  have hK : K_X8_ownerOf_0_T_0_e G w v h0 x_3 = F_X8_ownerOf_0_T_0 G w v h0 x_3 := rfl
  refine J_iconst E (-1) dX8_ownerOf_0 (by decide) ?_
  refine J_istore E [(5, .int (-1)), (0, .ref h0), (1, .int 0), (2, .ref (rf G h0 3)), (3, .int 0), (4, .int x_3)] dX8_ownerOf_1 (by decide) rfl ?_
  refine J_iconst E 0 dX8_ownerOf_3 (by decide) ?_
  refine J_istore E [(6, .int 0), (5, .int (-1)), (0, .ref h0), (1, .int 0), (2, .ref (rf G h0 3)), (3, .int 0), (4, .int x_3)] dX8_ownerOf_4 (by decide) rfl ?_
  exact J.sub [2, 3, 4, 5, 6, 1, 0] rfl (J6 8 (Bd.lit 0 0 (by decide)) (Bd.lit 0 0 (by decide)) bx_3 (-1) ((Bd.lit (-1) (-1) (by decide)).w (-1) 6 (by decide)) 0 ((Bd.lit 0 0 (by decide)).w 0 7 (by decide)) (Mu.start _ (Bd.lit 0 0 (by decide)) (by decide)) ((kx_X8_ownerOf_0_T_0_5).symm.trans hK))

def K_X8_ownerOf_738_A_772_40 (G : Gm) (w : Mw) (h0 : Nat) (rec6 : Mv → Int32 → Int32 → Int32 → Int32 → Int32 → Int32) (v : Mv) (x16 : Int32) (x17 : Int32) (x_3 : Int32) (x6 : Int32) (x14 : Int32) : Int32 :=
  rec6 v (738 : Int32) (772 : Int32) x_3 x14 (x6 + (1 : Int32))
def K_X8_ownerOf_738_A_772_6 (G : Gm) (w : Mw) (h0 : Nat) : Nat → Mv → Int32 → Int32 → Int32 → Int32 → Int32 → Int32
  | 0, _, _, _, _, _, _ => (0 : Int32)
  | n6 + 1, v, x8, x9, x_3, x4, x6 =>
    if (v (rf G h0 1) (Int32.toNatClampNeg ((738 : Int32) + (1 : Int32)))) ≤ x6 then (x4) else (if (v (rf G h0 1) (Int32.toNatClampNeg (((772 : Int32) + (9 : Int32)) + x6))) = x_3 then (K_X8_ownerOf_738_A_772_40 G w h0 (K_X8_ownerOf_738_A_772_6 G w h0 n6) v (738 : Int32) (772 : Int32) x_3 x6 x6) else (K_X8_ownerOf_738_A_772_40 G w h0 (K_X8_ownerOf_738_A_772_6 G w h0 n6) v (738 : Int32) (772 : Int32) x_3 x6 x4))
def K_X8_ownerOf_738_A_772_e (G : Gm) (w : Mw) (v : Mv) (h0 : Nat) (x_3 : Int32) : Int32 :=
  K_X8_ownerOf_738_A_772_6 G w h0 8 v (738 : Int32) (772 : Int32) x_3 (-1 : Int32) (0 : Int32)
def F_X8_ownerOf_738_A_772 (G : Gm) (w : Mw) (v : Mv) (h0 : Nat) (x_3 : Int32) : Int32 := K_X8_ownerOf_738_A_772_e G w v h0 x_3
set_option maxRecDepth 100000 in
theorem kx_X8_ownerOf_738_A_772_1 {G : Gm} {w : Mw} {h0 : Nat} {rec6 : Mv → Int32 → Int32 → Int32 → Int32 → Int32 → Int32} {v : Mv} {x_3 : Int32} {x6 : Int32} {x14 : Int32} {x18 : Int32} (a0 : x18 = x6 + (1 : Int32))  : K_X8_ownerOf_738_A_772_40 G w h0 rec6 v (738 : Int32) (772 : Int32) x_3 x6 x14 = rec6 v (738 : Int32) (772 : Int32) x_3 x14 x18 := by
  subst a0; first | rw [K_X8_ownerOf_738_A_772_40] | simp only [K_X8_ownerOf_738_A_772_40]
set_option maxRecDepth 100000 in
theorem kx_X8_ownerOf_738_A_772_2 {G : Gm} {w : Mw} {h0 : Nat} {n6 : Nat} {v : Mv} {x_3 : Int32} {x4 : Int32} {x6 : Int32} {x21 : Int32} {x24 : Int32} (a0 : x21 = (738 : Int32) + (1 : Int32)) (a1 : x24 = v (rf G h0 1) (Int32.toNatClampNeg x21)) (k0 : x24 ≤ x6) : K_X8_ownerOf_738_A_772_6 G w h0 (n6 + 1) v (738 : Int32) (772 : Int32) x_3 x4 x6 = x4 := by
  subst a1; subst a0; first | rw [K_X8_ownerOf_738_A_772_6, if_pos k0] | simp only [K_X8_ownerOf_738_A_772_6, if_pos k0]
set_option maxRecDepth 100000 in
theorem kx_X8_ownerOf_738_A_772_3 {G : Gm} {w : Mw} {h0 : Nat} {n6 : Nat} {v : Mv} {x_3 : Int32} {x4 : Int32} {x6 : Int32} {x21 : Int32} {x31 : Int32} {x34 : Int32} {x24 : Int32} {x37 : Int32} (a0 : x21 = (738 : Int32) + (1 : Int32)) (a1 : x24 = v (rf G h0 1) (Int32.toNatClampNeg x21)) (a2 : x31 = (772 : Int32) + (9 : Int32)) (a3 : x34 = x31 + x6) (a4 : x37 = v (rf G h0 1) (Int32.toNatClampNeg x34)) (k0 : ¬ (x24 ≤ x6)) (k1 : ¬ (x37 = x_3)) : K_X8_ownerOf_738_A_772_6 G w h0 (n6 + 1) v (738 : Int32) (772 : Int32) x_3 x4 x6 = K_X8_ownerOf_738_A_772_40 G w h0 (K_X8_ownerOf_738_A_772_6 G w h0 n6) v (738 : Int32) (772 : Int32) x_3 x6 x4 := by
  subst a4; subst a3; subst a2; subst a1; subst a0; first | rw [K_X8_ownerOf_738_A_772_6, if_neg k0, if_neg k1] | simp only [K_X8_ownerOf_738_A_772_6, if_neg k0, if_neg k1]
set_option maxRecDepth 100000 in
theorem kx_X8_ownerOf_738_A_772_4 {G : Gm} {w : Mw} {h0 : Nat} {n6 : Nat} {v : Mv} {x_3 : Int32} {x4 : Int32} {x6 : Int32} {x21 : Int32} {x31 : Int32} {x34 : Int32} {x24 : Int32} {x37 : Int32} (a0 : x21 = (738 : Int32) + (1 : Int32)) (a1 : x24 = v (rf G h0 1) (Int32.toNatClampNeg x21)) (a2 : x31 = (772 : Int32) + (9 : Int32)) (a3 : x34 = x31 + x6) (a4 : x37 = v (rf G h0 1) (Int32.toNatClampNeg x34)) (k0 : ¬ (x24 ≤ x6)) (k1 : x37 = x_3) : K_X8_ownerOf_738_A_772_6 G w h0 (n6 + 1) v (738 : Int32) (772 : Int32) x_3 x4 x6 = K_X8_ownerOf_738_A_772_40 G w h0 (K_X8_ownerOf_738_A_772_6 G w h0 n6) v (738 : Int32) (772 : Int32) x_3 x6 x6 := by
  subst a4; subst a3; subst a2; subst a1; subst a0; first | rw [K_X8_ownerOf_738_A_772_6, if_neg k0, if_pos k1] | simp only [K_X8_ownerOf_738_A_772_6, if_neg k0, if_pos k1]
set_option maxRecDepth 100000 in
theorem kx_X8_ownerOf_738_A_772_5 {G : Gm} {w : Mw} {v : Mv} {h0 : Nat} {x_3 : Int32}   : K_X8_ownerOf_738_A_772_e G w v h0 x_3 = K_X8_ownerOf_738_A_772_6 G w h0 8 v (738 : Int32) (772 : Int32) x_3 (-1 : Int32) (0 : Int32) := by
  first | rw [K_X8_ownerOf_738_A_772_e] | simp only [K_X8_ownerOf_738_A_772_e]
abbrev rm_X8_ownerOf_738_A_772 : Room := { frames := 0, cells := 0, slots := 0, locals := 0 }
set_option maxHeartbeats 4000000 in
set_option maxRecDepth 100000 in
theorem ct_X8_ownerOf_738_A_772 (l : Launch) (D : va_G) (dA : Nat → ClassId) (G : Gm) (v : Mv) (w : Mw) (hOk : Ok G v w) (h0 : Nat) (S0 : S_X8 G h0) (x_3 : Int32) (bx_3 : Bd x_3 0 6) : CtI l yX8_ownerOf cX8_ownerOf 7 (some .int) rm_X8_ownerOf_738_A_772 D dA G [.ref h0, .int 738, .ref (rf G h0 1), .int 772, .int x_3] v w (fun r v1 w1 => v1 = v ∧ w1 = w ∧ Bd r (-1) 6 ∧ r = F_X8_ownerOf_738_A_772 G w v h0 x_3) := by
  refine CtI.of RX8 [(0, .ref h0), (1, .int 738), (2, .ref (rf G h0 1)), (3, .int 772), (4, .int x_3)] (Nat.le_of_ble_eq_true rfl) rfl (by decide) rfl ?_
  intro p e s m args below meth c E hr
  have J6 : ∀ n6 : Nat, Bd 738 738 738 → Bd 772 772 772 → Bd x_3 0 6 → ∀ x4 : Int32, Bd x4 (-1) 6 → ∀ x6 : Int32, Bd x6 0 7 → Mu x6 7 n6 → K_X8_ownerOf_738_A_772_6 G w h0 n6 v (738 : Int32) (772 : Int32) x_3 x4 x6 = F_X8_ownerOf_738_A_772 G w v h0 x_3 → J p l e rm_X8_ownerOf_738_A_772 s m args below meth c 0 0 (MQ below (QcI D dA G (fun r v1 w1 => v1 = v ∧ w1 = w ∧ Bd r (-1) 6 ∧ r = F_X8_ownerOf_738_A_772 G w v h0 x_3)) args s 0 0 (dm G)) D dA G (dm G) s.heap 7 v w [(0, .ref h0), (1, .int 738), (2, .ref (rf G h0 1)), (3, .int 772), (4, .int x_3), (5, .int x4), (6, .int x6)] 6 [] := by
    intro n6
    induction n6 with
    | zero => intro b1 b2 b3 x4 b5 x6 b7 hm hK; exact hm.zero b7 (by decide)
    | succ n6 ih6 =>
      intro b1 b2 b3 x4 b5 x6 b7 hmu6 hK
      have J40 : Bd 738 738 738 → Bd 772 772 772 → Bd x_3 0 6 → Bd x6 0 6 → ∀ x14 : Int32, Bd x14 (-1) 6 → K_X8_ownerOf_738_A_772_40 G w h0 (K_X8_ownerOf_738_A_772_6 G w h0 n6) v (738 : Int32) (772 : Int32) x_3 x6 x14 = F_X8_ownerOf_738_A_772 G w v h0 x_3 → J p l e rm_X8_ownerOf_738_A_772 s m args below meth c 0 0 (MQ below (QcI D dA G (fun r v1 w1 => v1 = v ∧ w1 = w ∧ Bd r (-1) 6 ∧ r = F_X8_ownerOf_738_A_772 G w v h0 x_3)) args s 0 0 (dm G)) D dA G (dm G) s.heap 7 v w [(0, .ref h0), (1, .int 738), (2, .ref (rf G h0 1)), (3, .int 772), (4, .int x_3), (6, .int x6)] 40 [.int x14] := by
        intro b10 b11 b12 b13 x14 b15 hK
        refine J_istore E [(5, .int x14), (0, .ref h0), (1, .int 738), (2, .ref (rf G h0 1)), (3, .int 772), (4, .int x_3), (6, .int x6)] dX8_ownerOf_40 (by decide) rfl ?_
        refine J_iinc E 6 1 (fun z => [(6, .int z), (5, .int x14), (0, .ref h0), (1, .int 738), (2, .ref (rf G h0 1)), (3, .int 772), (4, .int x_3)]) dX8_ownerOf_42 rfl (by decide) (by decide) (fun _ => rfl) (fun x18 e19 => ?_)
        have b20 : Bd x18 1 7 := (Bd.add e19 b13 (Bd.lit 1 1 (by decide)) (by decide)).w _ _ (by decide)
        refine J_goto E 6 dX8_ownerOf_45 (by decide) ?_
        exact J.sub [2, 3, 4, 5, 6, 1, 0] rfl (ih6 (Bd.lit 738 738 (by decide)) (Bd.lit 772 772 (by decide)) b12 x14 b15 x18 (b20.w 0 7 (by decide)) (Mu.step hmu6 e19 b13 (Bd.lit 1 1 (by decide)) (by decide)) ((kx_X8_ownerOf_738_A_772_1 (e19)).symm.trans hK))
      refine J_iload E dX8_ownerOf_6 6 rfl ?_
      refine J_aload_n E dX8_ownerOf_8 0 rfl ?_
      refine J_getR E in_X8 rfl (S_X8.h S0) 1 (by decide) wd936 rfl dX8_ownerOf_9 ?_
      refine J_iload_n E dX8_ownerOf_12 1 rfl ?_
      refine J_iconst E 1 dX8_ownerOf_13 (by decide) ?_
      refine J_iadd E dX8_ownerOf_14 (fun x21 e22 => ?_)
      have b23 : Bd x21 739 739 := (Bd.add e22 (Bd.lit 738 738 (by decide)) (Bd.lit 1 1 (by decide)) (by decide)).w _ _ (by decide)
      refine J_iald1 E (S_X8.f1 S0) (Bd.in b23 (by decide)) dX8_ownerOf_15 (fun x24 e25 => ?_)
      have b26 : Bd x24 0 7 := Bd.e (Ok.ld hOk (S_X8.f1 S0) b23 739 1 0 7 (by decide) (by decide +kernel)) e25
      have e27 : x24 = v (rf G h0 1) 739 := by rw [e25, Bd.ix b23 739 rfl]
      refine J_icmp_ge E 48 dX8_ownerOf_16 (by decide) (fun c28 => ?_) (fun c28 => ?_)
      · refine J_iload E dX8_ownerOf_48 5 rfl ?_
        exact J_iret E hr dX8_ownerOf_50 ⟨rfl, rfl, b5, ((kx_X8_ownerOf_738_A_772_2 (e22) (e25) (c28)).symm.trans hK)⟩
      · have b29 : Bd x6 0 6 := Bd.lt_l (nle c28) b7 b26 6 (by decide)
        have b30 : Bd x24 1 7 := Bd.lt_r (nle c28) b7 b26 1 (by decide)
        refine J_aload_n E dX8_ownerOf_19 2 rfl ?_
        refine J_iload_n E dX8_ownerOf_20 3 rfl ?_
        refine J_bipush E 9 dX8_ownerOf_21 (by decide) ?_
        refine J_iadd E dX8_ownerOf_23 (fun x31 e32 => ?_)
        have b33 : Bd x31 781 781 := (Bd.add e32 (Bd.lit 772 772 (by decide)) (Bd.lit 9 9 (by decide)) (by decide)).w _ _ (by decide)
        refine J_iload E dX8_ownerOf_24 6 rfl ?_
        refine J_iadd E dX8_ownerOf_26 (fun x34 e35 => ?_)
        have b36 : Bd x34 781 787 := (Bd.add e35 b33 b29 (by decide)).w _ _ (by decide)
        refine J_iald1 E (S_X8.f1 S0) (Bd.in b36 (by decide)) dX8_ownerOf_27 (fun x37 e38 => ?_)
        have b39 : Bd x37 (-1) 6 := Bd.e (Ok.ld hOk (S_X8.f1 S0) b36 781 7 (-1) 6 (by decide) (by decide +kernel)) e38
        refine J_iload E dX8_ownerOf_28 4 rfl ?_
        refine J_icmp_ne E 38 dX8_ownerOf_30 (by decide) (fun c40 => ?_) (fun c40 => ?_)
        · refine J_iload E dX8_ownerOf_38 5 rfl ?_
          exact J.sub [0, 1, 2, 3, 4, 6] rfl (J40 (Bd.lit 738 738 (by decide)) (Bd.lit 772 772 (by decide)) b3 b29 x4 b5 ((kx_X8_ownerOf_738_A_772_3 (e22) (e25) (e32) (e35) (e38) (c28) (c40)).symm.trans hK))
        · have b41 : Bd x37 0 6 := Bd.eq_l c40 b39 b3 0 6 (by decide)
          refine J_iload E dX8_ownerOf_33 6 rfl ?_
          refine J_goto E 40 dX8_ownerOf_35 (by decide) ?_
          exact J.sub [0, 1, 2, 3, 4, 6] rfl (J40 (Bd.lit 738 738 (by decide)) (Bd.lit 772 772 (by decide)) b3 b29 x6 (b29.w (-1) 6 (by decide)) ((kx_X8_ownerOf_738_A_772_4 (e22) (e25) (e32) (e35) (e38) (c28) (c40)).symm.trans hK))
  have hK : K_X8_ownerOf_738_A_772_e G w v h0 x_3 = F_X8_ownerOf_738_A_772 G w v h0 x_3 := rfl
  refine J_iconst E (-1) dX8_ownerOf_0 (by decide) ?_
  refine J_istore E [(5, .int (-1)), (0, .ref h0), (1, .int 738), (2, .ref (rf G h0 1)), (3, .int 772), (4, .int x_3)] dX8_ownerOf_1 (by decide) rfl ?_
  refine J_iconst E 0 dX8_ownerOf_3 (by decide) ?_
  refine J_istore E [(6, .int 0), (5, .int (-1)), (0, .ref h0), (1, .int 738), (2, .ref (rf G h0 1)), (3, .int 772), (4, .int x_3)] dX8_ownerOf_4 (by decide) rfl ?_
  exact J.sub [2, 3, 4, 5, 6, 1, 0] rfl (J6 8 (Bd.lit 738 738 (by decide)) (Bd.lit 772 772 (by decide)) bx_3 (-1) ((Bd.lit (-1) (-1) (by decide)).w (-1) 6 (by decide)) 0 ((Bd.lit 0 0 (by decide)).w 0 7 (by decide)) (Mu.start _ (Bd.lit 0 0 (by decide)) (by decide)) ((kx_X8_ownerOf_738_A_772_5).symm.trans hK))

def K_X8_people_c1 (G : Gm) (w : Mw) (h0 : Nat) (v5 : Mv) (x1 : Int32) : Int32 × Mv :=
  (x1, v5)
def K_X8_people_e (G : Gm) (w : Mw) (v : Mv) (h0 : Nat) : Int32 × Mv :=
  K_X8_people_c1 G w h0 (F_X8_begin_0 G w v h0) (v (rf G h0 1) (Int32.toNatClampNeg (1 : Int32)))
def F_X8_people (G : Gm) (w : Mw) (v : Mv) (h0 : Nat) : Int32 × Mv := K_X8_people_e G w v h0
set_option maxRecDepth 100000 in
theorem kx_X8_people_1 {G : Gm} {w : Mw} {v : Mv} {h0 : Nat} {v5 : Mv} {x1 : Int32} (a0 : x1 = v (rf G h0 1) (Int32.toNatClampNeg (1 : Int32))) (a1 : v5 = F_X8_begin_0 G w v h0)  : K_X8_people_e G w v h0 = K_X8_people_c1 G w h0 v5 x1 := by
  subst a1; subst a0; first | rw [K_X8_people_e] | simp only [K_X8_people_e]
set_option maxRecDepth 100000 in
theorem kx_X8_people_2 {G : Gm} {w : Mw} {h0 : Nat} {v5 : Mv} {x1 : Int32}   : K_X8_people_c1 G w h0 v5 x1 = (x1, v5) := by
  first | rw [K_X8_people_c1] | simp only [K_X8_people_c1]
abbrev rm_X8_people : Room := { frames := 1, cells := 0, slots := 0, locals := 22 }
set_option maxHeartbeats 4000000 in
set_option maxRecDepth 100000 in
theorem ct_X8_people (l : Launch) (D : va_G) (dA : Nat → ClassId) (G : Gm) (v : Mv) (w : Mw) (hOk : Ok G v w) (h0 : Nat) (S0 : S_X8 G h0) : CtI l yX8_people cX8_people 2 (some .int) rm_X8_people D dA G [.ref h0] v w (fun r v1 w1 => Ok G v1 w1 ∧ True ∧ Bd r 0 7 ∧ (w1 = w ∧ (r, v1) = F_X8_people G w v h0) ∧ Fr G [1084] v v1) := by
  refine CtI.of RX8 [(0, .ref h0)] (Nat.le_of_ble_eq_true rfl) rfl (by decide) rfl ?_
  intro p e s m args below meth c E hr
  have hK : K_X8_people_e G w v h0 = F_X8_people G w v h0 := rfl
  refine J_aload_n E dX8_people_0 0 rfl ?_
  refine J_getR E in_X8 rfl (S_X8.h S0) 1 (by decide) wd936 rfl dX8_people_1 ?_
  refine J_iconst E 1 dX8_people_4 (by decide) ?_
  refine J_iald1 E (S_X8.f1 S0) (Bd.in (Bd.lit 1 1 (by decide)) (by decide)) dX8_people_5 (fun x1 e2 => ?_)
  have b3 : Bd x1 0 7 := Bd.e (Ok.ld hOk (S_X8.f1 S0) (Bd.lit 1 1 (by decide)) 1 1 0 7 (by decide) (by decide +kernel)) e2
  have e4 : x1 = v (rf G h0 1) 1 := by rw [e2, Bd.ix (Bd.lit 1 1 (by decide)) 1 rfl]
  refine J_istore_n E [(1, .int x1), (0, .ref h0)] dX8_people_6 rfl (by decide) rfl ?_
  refine J_aload_n E dX8_people_7 1 rfl ?_
  refine J_iconst E 0 dX8_people_8 (by decide) ?_
  refine J_callVV E cal_X8_begin wd931 rfl (S_X8.h S0) [.int 0] [] (ct_X8_begin_0 l D dA G v w (hOk) h0 S0) rfl rfl (Nat.le_of_ble_eq_true rfl) ⟨rfl, rfl⟩ ⟨Nat.le_of_ble_eq_true rfl, Nat.le_of_ble_eq_true rfl⟩ dX8_people_9 (fun v5 w6 p7 => ?_)
  have ew9 : w = w6 := p7.2.2.1.1.symm
  subst ew9
  have o9 := p7.1
  have k10 : True := trivial
  have f11 : Fr G [1084] v v5 := Fr.tr Fr.rf (p7.2.2.2) (by decide)
  have e12 : v5 = F_X8_begin_0 G w v h0 := (p7.2.2.1).2
  have hK : K_X8_people_c1 G w h0 v5 x1 = F_X8_people G w v h0 := ((kx_X8_people_1 (e2) (e12)).symm.trans hK)
  refine J_iload_n E dX8_people_12 0 rfl ?_
  exact J_iret E hr dX8_people_13 ⟨o9, k10, b3, ⟨⟨rfl, ((kx_X8_people_2).symm.trans hK)⟩, f11⟩⟩

def K_X8_add_0_e (G : Gm) (w : Mw) (v : Mv) (h0 : Nat) (x_1 : Int32) (x_2 : Int32) : Int32 × Mv :=
  ((v (rf G h0 1) 0), (stv (stv (stv (stv v (rf G h0 1) (Int32.toNatClampNeg (((0 : Int32) + (6 : Int32)) + (v (rf G h0 1) 0))) x_1) (rf G h0 1) (Int32.toNatClampNeg (((0 : Int32) + (13 : Int32)) + (v (rf G h0 1) 0))) x_2) (rf G h0 1) (Int32.toNatClampNeg ((0 : Int32) + (0 : Int32))) ((v (rf G h0 1) 0) + (1 : Int32))) (rf G h0 1) (Int32.toNatClampNeg ((0 : Int32) + (5 : Int32))) (0 : Int32)))
def F_X8_add_0 (G : Gm) (w : Mw) (v : Mv) (h0 : Nat) (x_1 : Int32) (x_2 : Int32) : Int32 × Mv := K_X8_add_0_e G w v h0 x_1 x_2
set_option maxRecDepth 100000 in
theorem kx_X8_add_0_1 {G : Gm} {w : Mw} {v : Mv} {h0 : Nat} {x_1 : Int32} {x_2 : Int32} {z_0 : Int32} {v49 : Mv} {x7 : Int32} {x10 : Int32} {x19 : Int32} {v13 : Mv} {x22 : Int32} {v25 : Mv} {x31 : Int32} {x37 : Int32} {v40 : Mv} {x46 : Int32} (a0 : z_0 = v (rf G h0 1) 0) (a1 : x7 = (0 : Int32) + (6 : Int32)) (a2 : x10 = x7 + z_0) (a3 : v13 = stv v (rf G h0 1) (Int32.toNatClampNeg x10) x_1) (a4 : x19 = (0 : Int32) + (13 : Int32)) (a5 : x22 = x19 + z_0) (a6 : v25 = stv v13 (rf G h0 1) (Int32.toNatClampNeg x22) x_2) (a7 : x31 = (0 : Int32) + (0 : Int32)) (a8 : x37 = z_0 + (1 : Int32)) (a9 : v40 = stv v25 (rf G h0 1) (Int32.toNatClampNeg x31) x37) (a10 : x46 = (0 : Int32) + (5 : Int32)) (a11 : v49 = stv v40 (rf G h0 1) (Int32.toNatClampNeg x46) (0 : Int32))  : K_X8_add_0_e G w v h0 x_1 x_2 = (z_0, v49) := by
  subst a11; subst a10; subst a9; subst a8; subst a7; subst a6; subst a5; subst a4; subst a3; subst a2; subst a1; subst a0; first | rw [K_X8_add_0_e] | simp only [K_X8_add_0_e]
abbrev rm_X8_add_0 : Room := { frames := 0, cells := 0, slots := 0, locals := 0 }
set_option maxHeartbeats 4000000 in
set_option maxRecDepth 100000 in
theorem ct_X8_add_0 (l : Launch) (D : va_G) (dA : Nat → ClassId) (G : Gm) (v : Mv) (w : Mw) (hOk : Ok G v w) (h0 : Nat) (S0 : S_X8 G h0) (x_1 : Int32) (bx_1 : Bd x_1 0 5) (x_2 : Int32) (bx_2 : Bd x_2 1 30) (z_0 : Int32) (ez_0 : z_0 = v (rf G h0 1) 0) (pre0 : Bd z_0 0 6) : CtI l yX8_add cX8_add 5 (some .int) rm_X8_add_0 D dA G [.ref h0, .int 0, .int x_1, .int x_2] v w (fun r v1 w1 => Ok G v1 w1 ∧ True ∧ Bd r 0 6 ∧ (w1 = w ∧ (r, v1) = F_X8_add_0 G w v h0 x_1 x_2) ∧ Fr G [1084] v v1) := by
  refine CtI.of RX8 [(0, .ref h0), (1, .int 0), (2, .int x_1), (3, .int x_2)] (Nat.le_of_ble_eq_true rfl) rfl (by decide) rfl ?_
  intro p e s m args below meth c E hr
  have hK : K_X8_add_0_e G w v h0 x_1 x_2 = F_X8_add_0 G w v h0 x_1 x_2 := rfl
  refine J_aload_n E dX8_add_0 0 rfl ?_
  refine J_getR E in_X8 rfl (S_X8.h S0) 1 (by decide) wd936 rfl dX8_add_1 ?_
  refine J_iload_n E dX8_add_4 1 rfl ?_
  refine J_iconst E 0 dX8_add_5 (by decide) ?_
  refine J_iadd E dX8_add_6 (fun x1 e2 => ?_)
  have b3 : Bd x1 0 0 := (Bd.add e2 (Bd.lit 0 0 (by decide)) (Bd.lit 0 0 (by decide)) (by decide)).w _ _ (by decide)
  refine J_iald1 E (S_X8.f1 S0) (Bd.in b3 (by decide)) dX8_add_7 (fun x4 e5 => ?_)
  have b6 : Bd x4 0 7 := Bd.e (Ok.ld hOk (S_X8.f1 S0) b3 0 1 0 7 (by decide) (by decide +kernel)) e5
  have e5q : x4 = z_0 := by rw [e5, Bd.ix b3 0 rfl]; exact (ez_0).symm
  rw [e5q]
  refine J_istore E [(4, .int z_0), (0, .ref h0), (1, .int 0), (2, .int x_1), (3, .int x_2)] dX8_add_8 (by decide) rfl ?_
  refine J_aload_n E dX8_add_10 1 rfl ?_
  refine J_getR E in_X8 rfl (S_X8.h S0) 1 (by decide) wd936 rfl dX8_add_11 ?_
  refine J_iload_n E dX8_add_14 2 rfl ?_
  refine J_bipush E 6 dX8_add_15 (by decide) ?_
  refine J_iadd E dX8_add_17 (fun x7 e8 => ?_)
  have b9 : Bd x7 6 6 := (Bd.add e8 (Bd.lit 0 0 (by decide)) (Bd.lit 6 6 (by decide)) (by decide)).w _ _ (by decide)
  refine J_iload E dX8_add_18 0 rfl ?_
  refine J_iadd E dX8_add_20 (fun x10 e11 => ?_)
  have b12 : Bd x10 6 12 := (Bd.add e11 b9 pre0 (by decide)).w _ _ (by decide)
  refine J_iload_n E dX8_add_21 3 rfl ?_
  refine J_iast1 E (S_X8.f1 S0) (Bd.in b12 (by decide)) dX8_add_22 (fun v13 e14 => ?_)
  have o15 : Ok G v13 w := by rw [e14]; exact Ok.sw hOk (S_X8.f1 S0) b12 bx_1 6 7 (by decide) (by decide +kernel)
  have k16 : True := trivial
  have f17 : Fr G [1084] v v13 := Fr.st Fr.rf e14 (S_X8.f1 S0) rfl
  have e18 : z_0 = v13 (rf G h0 1) 0 := by rw [e14, stv_k (Bd.nix b12 0 (by decide))]; exact ez_0
  refine J_aload_n E dX8_add_23 1 rfl ?_
  refine J_getR E in_X8 rfl (S_X8.h S0) 1 (by decide) wd936 rfl dX8_add_24 ?_
  refine J_iload_n E dX8_add_27 2 rfl ?_
  refine J_bipush E 13 dX8_add_28 (by decide) ?_
  refine J_iadd E dX8_add_30 (fun x19 e20 => ?_)
  have b21 : Bd x19 13 13 := (Bd.add e20 (Bd.lit 0 0 (by decide)) (Bd.lit 13 13 (by decide)) (by decide)).w _ _ (by decide)
  refine J_iload E dX8_add_31 0 rfl ?_
  refine J_iadd E dX8_add_33 (fun x22 e23 => ?_)
  have b24 : Bd x22 13 19 := (Bd.add e23 b21 pre0 (by decide)).w _ _ (by decide)
  refine J_iload_n E dX8_add_34 4 rfl ?_
  refine J_iast1 E (S_X8.f1 S0) (Bd.in b24 (by decide)) dX8_add_35 (fun v25 e26 => ?_)
  have o27 : Ok G v25 w := by rw [e26]; exact Ok.sw o15 (S_X8.f1 S0) b24 bx_2 13 7 (by decide) (by decide +kernel)
  have k28 : True := trivial
  have f29 : Fr G [1084] v v25 := Fr.st f17 e26 (S_X8.f1 S0) rfl
  have e30 : z_0 = v25 (rf G h0 1) 0 := by rw [e26, stv_k (Bd.nix b24 0 (by decide))]; exact e18
  refine J_aload_n E dX8_add_36 1 rfl ?_
  refine J_getR E in_X8 rfl (S_X8.h S0) 1 (by decide) wd936 rfl dX8_add_37 ?_
  refine J_iload_n E dX8_add_40 2 rfl ?_
  refine J_iconst E 0 dX8_add_41 (by decide) ?_
  refine J_iadd E dX8_add_42 (fun x31 e32 => ?_)
  have b33 : Bd x31 0 0 := (Bd.add e32 (Bd.lit 0 0 (by decide)) (Bd.lit 0 0 (by decide)) (by decide)).w _ _ (by decide)
  refine J_dup2 E dX8_add_43 rfl rfl ?_
  refine J_iald1 E (S_X8.f1 S0) (Bd.in b33 (by decide)) dX8_add_44 (fun x34 e35 => ?_)
  have b36 : Bd x34 0 7 := Bd.e (Ok.ld o27 (S_X8.f1 S0) b33 0 1 0 7 (by decide) (by decide +kernel)) e35
  have e35q : x34 = z_0 := by rw [e35, Bd.ix b33 0 rfl]; exact (e30).symm
  rw [e35q]
  refine J_iconst E 1 dX8_add_45 (by decide) ?_
  refine J_iadd E dX8_add_46 (fun x37 e38 => ?_)
  have b39 : Bd x37 1 7 := (Bd.add e38 pre0 (Bd.lit 1 1 (by decide)) (by decide)).w _ _ (by decide)
  refine J_iast1 E (S_X8.f1 S0) (Bd.in b33 (by decide)) dX8_add_47 (fun v40 e41 => ?_)
  have o42 : Ok G v40 w := by rw [e41]; exact Ok.sw o27 (S_X8.f1 S0) b33 b39 0 1 (by decide) (by decide +kernel)
  have k43 : True := trivial
  have f44 : Fr G [1084] v v40 := Fr.st f29 e41 (S_X8.f1 S0) rfl
  have e45 : (x37 : Int32) = v40 (rf G h0 1) 0 := by rw [e41, Bd.ix b33 0 rfl, stv_s]
  refine J_aload_n E dX8_add_48 1 rfl ?_
  refine J_getR E in_X8 rfl (S_X8.h S0) 1 (by decide) wd936 rfl dX8_add_49 ?_
  refine J_iload_n E dX8_add_52 2 rfl ?_
  refine J_iconst E 5 dX8_add_53 (by decide) ?_
  refine J_iadd E dX8_add_54 (fun x46 e47 => ?_)
  have b48 : Bd x46 5 5 := (Bd.add e47 (Bd.lit 0 0 (by decide)) (Bd.lit 5 5 (by decide)) (by decide)).w _ _ (by decide)
  refine J_iconst E 0 dX8_add_55 (by decide) ?_
  refine J_iast1 E (S_X8.f1 S0) (Bd.in b48 (by decide)) dX8_add_56 (fun v49 e50 => ?_)
  have o51 : Ok G v49 w := by rw [e50]; exact Ok.sw o42 (S_X8.f1 S0) b48 (Bd.lit 0 0 (by decide)) 5 1 (by decide) (by decide +kernel)
  have k52 : True := trivial
  have f53 : Fr G [1084] v v49 := Fr.st f44 e50 (S_X8.f1 S0) rfl
  have e54 : x37 = v49 (rf G h0 1) 0 := by rw [e50, stv_k (Bd.nix b48 0 (by decide))]; exact e45
  have e55 : (0 : Int32) = v49 (rf G h0 1) 5 := by rw [e50, Bd.ix b48 5 rfl, stv_s]
  refine J_iload E dX8_add_57 0 rfl ?_
  exact J_iret E hr dX8_add_59 ⟨o51, k52, pre0, ⟨⟨rfl, ((kx_X8_add_0_1 (ez_0) (e8) (e11) (e14) (e20) (e23) (e26) (e32) (e38) (e41) (e47) (e50)).symm.trans hK)⟩, f53⟩⟩

def K_X8_add_738_e (G : Gm) (w : Mw) (v : Mv) (h0 : Nat) (x_1 : Int32) (x_2 : Int32) : Int32 × Mv :=
  ((v (rf G h0 1) 738), (stv (stv (stv (stv v (rf G h0 1) (Int32.toNatClampNeg (((738 : Int32) + (6 : Int32)) + (v (rf G h0 1) 738))) x_1) (rf G h0 1) (Int32.toNatClampNeg (((738 : Int32) + (13 : Int32)) + (v (rf G h0 1) 738))) x_2) (rf G h0 1) (Int32.toNatClampNeg ((738 : Int32) + (0 : Int32))) ((v (rf G h0 1) 738) + (1 : Int32))) (rf G h0 1) (Int32.toNatClampNeg ((738 : Int32) + (5 : Int32))) (0 : Int32)))
def F_X8_add_738 (G : Gm) (w : Mw) (v : Mv) (h0 : Nat) (x_1 : Int32) (x_2 : Int32) : Int32 × Mv := K_X8_add_738_e G w v h0 x_1 x_2
set_option maxRecDepth 100000 in
theorem kx_X8_add_738_1 {G : Gm} {w : Mw} {v : Mv} {h0 : Nat} {x_1 : Int32} {x_2 : Int32} {z_0 : Int32} {v49 : Mv} {x7 : Int32} {x10 : Int32} {x19 : Int32} {v13 : Mv} {x22 : Int32} {v25 : Mv} {x31 : Int32} {x37 : Int32} {v40 : Mv} {x46 : Int32} (a0 : z_0 = v (rf G h0 1) 738) (a1 : x7 = (738 : Int32) + (6 : Int32)) (a2 : x10 = x7 + z_0) (a3 : v13 = stv v (rf G h0 1) (Int32.toNatClampNeg x10) x_1) (a4 : x19 = (738 : Int32) + (13 : Int32)) (a5 : x22 = x19 + z_0) (a6 : v25 = stv v13 (rf G h0 1) (Int32.toNatClampNeg x22) x_2) (a7 : x31 = (738 : Int32) + (0 : Int32)) (a8 : x37 = z_0 + (1 : Int32)) (a9 : v40 = stv v25 (rf G h0 1) (Int32.toNatClampNeg x31) x37) (a10 : x46 = (738 : Int32) + (5 : Int32)) (a11 : v49 = stv v40 (rf G h0 1) (Int32.toNatClampNeg x46) (0 : Int32))  : K_X8_add_738_e G w v h0 x_1 x_2 = (z_0, v49) := by
  subst a11; subst a10; subst a9; subst a8; subst a7; subst a6; subst a5; subst a4; subst a3; subst a2; subst a1; subst a0; first | rw [K_X8_add_738_e] | simp only [K_X8_add_738_e]
abbrev rm_X8_add_738 : Room := { frames := 0, cells := 0, slots := 0, locals := 0 }
set_option maxHeartbeats 4000000 in
set_option maxRecDepth 100000 in
theorem ct_X8_add_738 (l : Launch) (D : va_G) (dA : Nat → ClassId) (G : Gm) (v : Mv) (w : Mw) (hOk : Ok G v w) (h0 : Nat) (S0 : S_X8 G h0) (x_1 : Int32) (bx_1 : Bd x_1 0 999) (x_2 : Int32) (bx_2 : Bd x_2 0 999) (z_0 : Int32) (ez_0 : z_0 = v (rf G h0 1) 738) (pre0 : Bd z_0 0 6) : CtI l yX8_add cX8_add 5 (some .int) rm_X8_add_738 D dA G [.ref h0, .int 738, .int x_1, .int x_2] v w (fun r v1 w1 => Ok G v1 w1 ∧ True ∧ Bd r 0 6 ∧ (w1 = w ∧ (r, v1) = F_X8_add_738 G w v h0 x_1 x_2) ∧ Fr G [1084] v v1) := by
  refine CtI.of RX8 [(0, .ref h0), (1, .int 738), (2, .int x_1), (3, .int x_2)] (Nat.le_of_ble_eq_true rfl) rfl (by decide) rfl ?_
  intro p e s m args below meth c E hr
  have hK : K_X8_add_738_e G w v h0 x_1 x_2 = F_X8_add_738 G w v h0 x_1 x_2 := rfl
  refine J_aload_n E dX8_add_0 0 rfl ?_
  refine J_getR E in_X8 rfl (S_X8.h S0) 1 (by decide) wd936 rfl dX8_add_1 ?_
  refine J_iload_n E dX8_add_4 1 rfl ?_
  refine J_iconst E 0 dX8_add_5 (by decide) ?_
  refine J_iadd E dX8_add_6 (fun x1 e2 => ?_)
  have b3 : Bd x1 738 738 := (Bd.add e2 (Bd.lit 738 738 (by decide)) (Bd.lit 0 0 (by decide)) (by decide)).w _ _ (by decide)
  refine J_iald1 E (S_X8.f1 S0) (Bd.in b3 (by decide)) dX8_add_7 (fun x4 e5 => ?_)
  have b6 : Bd x4 0 7 := Bd.e (Ok.ld hOk (S_X8.f1 S0) b3 738 1 0 7 (by decide) (by decide +kernel)) e5
  have e5q : x4 = z_0 := by rw [e5, Bd.ix b3 738 rfl]; exact (ez_0).symm
  rw [e5q]
  refine J_istore E [(4, .int z_0), (0, .ref h0), (1, .int 738), (2, .int x_1), (3, .int x_2)] dX8_add_8 (by decide) rfl ?_
  refine J_aload_n E dX8_add_10 1 rfl ?_
  refine J_getR E in_X8 rfl (S_X8.h S0) 1 (by decide) wd936 rfl dX8_add_11 ?_
  refine J_iload_n E dX8_add_14 2 rfl ?_
  refine J_bipush E 6 dX8_add_15 (by decide) ?_
  refine J_iadd E dX8_add_17 (fun x7 e8 => ?_)
  have b9 : Bd x7 744 744 := (Bd.add e8 (Bd.lit 738 738 (by decide)) (Bd.lit 6 6 (by decide)) (by decide)).w _ _ (by decide)
  refine J_iload E dX8_add_18 0 rfl ?_
  refine J_iadd E dX8_add_20 (fun x10 e11 => ?_)
  have b12 : Bd x10 744 750 := (Bd.add e11 b9 pre0 (by decide)).w _ _ (by decide)
  refine J_iload_n E dX8_add_21 3 rfl ?_
  refine J_iast1 E (S_X8.f1 S0) (Bd.in b12 (by decide)) dX8_add_22 (fun v13 e14 => ?_)
  have o15 : Ok G v13 w := by rw [e14]; exact Ok.sw hOk (S_X8.f1 S0) b12 bx_1 744 7 (by decide) (by decide +kernel)
  have k16 : True := trivial
  have f17 : Fr G [1084] v v13 := Fr.st Fr.rf e14 (S_X8.f1 S0) rfl
  have e18 : z_0 = v13 (rf G h0 1) 738 := by rw [e14, stv_k (Bd.nix b12 738 (by decide))]; exact ez_0
  refine J_aload_n E dX8_add_23 1 rfl ?_
  refine J_getR E in_X8 rfl (S_X8.h S0) 1 (by decide) wd936 rfl dX8_add_24 ?_
  refine J_iload_n E dX8_add_27 2 rfl ?_
  refine J_bipush E 13 dX8_add_28 (by decide) ?_
  refine J_iadd E dX8_add_30 (fun x19 e20 => ?_)
  have b21 : Bd x19 751 751 := (Bd.add e20 (Bd.lit 738 738 (by decide)) (Bd.lit 13 13 (by decide)) (by decide)).w _ _ (by decide)
  refine J_iload E dX8_add_31 0 rfl ?_
  refine J_iadd E dX8_add_33 (fun x22 e23 => ?_)
  have b24 : Bd x22 751 757 := (Bd.add e23 b21 pre0 (by decide)).w _ _ (by decide)
  refine J_iload_n E dX8_add_34 4 rfl ?_
  refine J_iast1 E (S_X8.f1 S0) (Bd.in b24 (by decide)) dX8_add_35 (fun v25 e26 => ?_)
  have o27 : Ok G v25 w := by rw [e26]; exact Ok.sw o15 (S_X8.f1 S0) b24 bx_2 751 7 (by decide) (by decide +kernel)
  have k28 : True := trivial
  have f29 : Fr G [1084] v v25 := Fr.st f17 e26 (S_X8.f1 S0) rfl
  have e30 : z_0 = v25 (rf G h0 1) 738 := by rw [e26, stv_k (Bd.nix b24 738 (by decide))]; exact e18
  refine J_aload_n E dX8_add_36 1 rfl ?_
  refine J_getR E in_X8 rfl (S_X8.h S0) 1 (by decide) wd936 rfl dX8_add_37 ?_
  refine J_iload_n E dX8_add_40 2 rfl ?_
  refine J_iconst E 0 dX8_add_41 (by decide) ?_
  refine J_iadd E dX8_add_42 (fun x31 e32 => ?_)
  have b33 : Bd x31 738 738 := (Bd.add e32 (Bd.lit 738 738 (by decide)) (Bd.lit 0 0 (by decide)) (by decide)).w _ _ (by decide)
  refine J_dup2 E dX8_add_43 rfl rfl ?_
  refine J_iald1 E (S_X8.f1 S0) (Bd.in b33 (by decide)) dX8_add_44 (fun x34 e35 => ?_)
  have b36 : Bd x34 0 7 := Bd.e (Ok.ld o27 (S_X8.f1 S0) b33 738 1 0 7 (by decide) (by decide +kernel)) e35
  have e35q : x34 = z_0 := by rw [e35, Bd.ix b33 738 rfl]; exact (e30).symm
  rw [e35q]
  refine J_iconst E 1 dX8_add_45 (by decide) ?_
  refine J_iadd E dX8_add_46 (fun x37 e38 => ?_)
  have b39 : Bd x37 1 7 := (Bd.add e38 pre0 (Bd.lit 1 1 (by decide)) (by decide)).w _ _ (by decide)
  refine J_iast1 E (S_X8.f1 S0) (Bd.in b33 (by decide)) dX8_add_47 (fun v40 e41 => ?_)
  have o42 : Ok G v40 w := by rw [e41]; exact Ok.sw o27 (S_X8.f1 S0) b33 b39 738 1 (by decide) (by decide +kernel)
  have k43 : True := trivial
  have f44 : Fr G [1084] v v40 := Fr.st f29 e41 (S_X8.f1 S0) rfl
  have e45 : (x37 : Int32) = v40 (rf G h0 1) 738 := by rw [e41, Bd.ix b33 738 rfl, stv_s]
  refine J_aload_n E dX8_add_48 1 rfl ?_
  refine J_getR E in_X8 rfl (S_X8.h S0) 1 (by decide) wd936 rfl dX8_add_49 ?_
  refine J_iload_n E dX8_add_52 2 rfl ?_
  refine J_iconst E 5 dX8_add_53 (by decide) ?_
  refine J_iadd E dX8_add_54 (fun x46 e47 => ?_)
  have b48 : Bd x46 743 743 := (Bd.add e47 (Bd.lit 738 738 (by decide)) (Bd.lit 5 5 (by decide)) (by decide)).w _ _ (by decide)
  refine J_iconst E 0 dX8_add_55 (by decide) ?_
  refine J_iast1 E (S_X8.f1 S0) (Bd.in b48 (by decide)) dX8_add_56 (fun v49 e50 => ?_)
  have o51 : Ok G v49 w := by rw [e50]; exact Ok.sw o42 (S_X8.f1 S0) b48 (Bd.lit 0 0 (by decide)) 743 1 (by decide) (by decide +kernel)
  have k52 : True := trivial
  have f53 : Fr G [1084] v v49 := Fr.st f44 e50 (S_X8.f1 S0) rfl
  have e54 : x37 = v49 (rf G h0 1) 738 := by rw [e50, stv_k (Bd.nix b48 738 (by decide))]; exact e45
  have e55 : (0 : Int32) = v49 (rf G h0 1) 743 := by rw [e50, Bd.ix b48 743 rfl, stv_s]
  refine J_iload E dX8_add_57 0 rfl ?_
  exact J_iret E hr dX8_add_59 ⟨o51, k52, pre0, ⟨⟨rfl, ((kx_X8_add_738_1 (ez_0) (e8) (e11) (e14) (e20) (e23) (e26) (e32) (e38) (e41) (e47) (e50)).symm.trans hK)⟩, f53⟩⟩
