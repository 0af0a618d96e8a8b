abbrev rm_X4_mixInto_6 : Room := { frames := 0, cells := 0, slots := 0, locals := 0 }
set_option maxHeartbeats 4000000 in
set_option maxRecDepth 100000 in
theorem ct_X4_mixInto_6 (l : Launch) (D : va_G) (dA : Nat → ClassId) (G : Gm) (v : Mv) (w : Mw) (hOk : Ok G v w) (h0 : Nat) (S0 : S_X4 G h0 6) (y_0 : Int64) : CtL l yX4_mixInto cX4_mixInto 6 (some .long) rm_X4_mixInto_6 D dA G [.ref h0, .long y_0] v w (fun r v1 w1 => v1 = v ∧ w1 = w ∧ True) := by
  refine CtL.of RX4 [(0, .ref h0), (1, .long y_0)] (Nat.le_of_ble_eq_true rfl) rfl (by decide) rfl ?_
  intro p e s m args below meth c E hr
  have J5 : ∀ n5 : Nat, ∀ y1 : Int64, ∀ x2 : Int32, Bd x2 0 60 → Mu x2 60 n5 → J p l e rm_X4_mixInto_6 s m args below meth c 0 0 (MQ below (QcL D dA G (fun r v1 w1 => v1 = v ∧ w1 = w ∧ True)) args s 0 0 (dm G)) D dA G (dm G) s.heap 6 v w [(0, .ref h0), (3, .long y1), (5, .int x2)] 5 [] := by
    intro n5
    induction n5 with
    | zero => intro y1 x2 b3 hm; exact hm.zero b3 (by decide)
    | succ n5 ih5 =>
      intro y1 x2 b3 hmu5
      refine J_iload E dX4_mixInto_5 2 rfl ?_
      refine J_iconst E 4 dX4_mixInto_7 (by decide) ?_
      refine J_aload_n E dX4_mixInto_8 0 rfl ?_
      refine J_getI E in_X4 rfl (S_X4.h S0) 2 (by decide) wd181 rfl dX4_mixInto_9 (fun x4 e5 => ?_)
      have b6 : Bd x4 0 6 := Ok.fd hOk e5 (S_X4.h S0) rfl
      refine J_imul E dX4_mixInto_12 (fun x7 e8 => ?_)
      have b9 : Bd x7 0 24 := Bd.mul e8 (Bd.lit 4 4 (by decide)) b6 (by decide)
      refine J_icmp_ge E 37 dX4_mixInto_13 (by decide) (fun c10 => ?_) (fun c10 => ?_)
      · refine J_lload_n E dX4_mixInto_37 1 rfl ?_
        exact J_lret E hr dX4_mixInto_38 ⟨rfl, rfl, trivial⟩
      · have b11 : Bd x2 0 23 := Bd.lt_l (nle c10) b3 b9 23 (by decide)
        have b12 : Bd x7 1 24 := Bd.lt_r (nle c10) b3 b9 1 (by decide)
        refine J_ldc2 E wd924 dX4_mixInto_16 ?_
        refine J_lload_n E dX4_mixInto_19 1 rfl ?_
        refine J_lmul E dX4_mixInto_20 (fun y13 e14 => ?_)
        refine J_aload_n E dX4_mixInto_21 0 rfl ?_
        refine J_getR E in_X4 rfl (S_X4.h S0) 1 (by decide) wd180 rfl dX4_mixInto_22 ?_
        refine J_iload E dX4_mixInto_25 2 rfl ?_
        refine J_iald1 E (S_X4.f1 S0) (Bd.in b11 (by decide)) dX4_mixInto_27 (fun x15 e16 => ?_)
        refine J_i2l E dX4_mixInto_28 (fun y17 e18 => ?_)
        refine J_ladd E dX4_mixInto_29 (fun y19 e20 => ?_)
        refine J_lstore_n E [(3, .long y19), (0, .ref h0), (5, .int x2)] dX4_mixInto_30 rfl (by decide) rfl ?_
        refine J_iinc E 2 1 (fun z => [(5, .int z), (3, .long y19), (0, .ref h0)]) dX4_mixInto_31 rfl (by decide) (by decide) (fun _ => rfl) (fun x21 e22 => ?_)
        have b23 : Bd x21 1 24 := (Bd.add e22 b11 (Bd.lit 1 1 (by decide)) (by decide)).w _ _ (by decide)
        refine J_goto E 5 dX4_mixInto_34 (by decide) ?_
        exact J.sub [2, 1, 0] rfl (ih5 y19 x21 (b23.w 0 60 (by decide)) (Mu.step hmu5 e22 b11 (Bd.lit 1 1 (by decide)) (by decide)))
  refine J_lload_n E dX4_mixInto_0 1 rfl ?_
  refine J_lstore_n E [(3, .long y_0), (0, .ref h0), (1, .long y_0)] dX4_mixInto_1 rfl (by decide) rfl ?_
  refine J_iconst E 0 dX4_mixInto_2 (by decide) ?_
  refine J_istore E [(5, .int 0), (3, .long y_0), (0, .ref h0), (1, .long y_0)] dX4_mixInto_3 (by decide) rfl ?_
  exact J.sub [2, 1, 0] rfl (J5 61 y_0 0 ((Bd.lit 0 0 (by decide)).w 0 60 (by decide)) (Mu.start _ (Bd.lit 0 0 (by decide)) (by decide)))

def K_X6_copyFrom_c3 (G : Gm) (w : Mw) (h0 : Nat) (h_0 : Nat) (rec113 : Mv → Int32 → Mv) (v27 : Mv) : Mv :=
  v27
def K_X6_copyFrom_c2 (G : Gm) (w : Mw) (h0 : Nat) (h_0 : Nat) (rec113 : Mv → Int32 → Mv) (v19 : Mv) : Mv :=
  K_X6_copyFrom_c3 G w h0 h_0 rec113 (F_X4_copyFrom_6 G w v19 (rf G h0 11) (rf G h_0 11))
def K_X6_copyFrom_c1 (G : Gm) (w : Mw) (h0 : Nat) (h_0 : Nat) (rec113 : Mv → Int32 → Mv) (v11 : Mv) : Mv :=
  K_X6_copyFrom_c2 G w h0 h_0 rec113 (F_X4_copyFrom_6 G w v11 (rf G h0 10) (rf G h_0 10))
def K_X6_copyFrom_c4 (G : Gm) (w : Mw) (h0 : Nat) (h_0 : Nat) (rec113 : Mv → Int32 → Mv) (v49 : Mv) (x5 : Int32) : Mv :=
  rec113 v49 (x5 + (1 : Int32))
def K_X6_copyFrom_113 (G : Gm) (w : Mw) (h0 : Nat) (h_0 : Nat) : Nat → Mv → Int32 → Mv
  | 0, _, _ => (fun _ _ => 0 : Mv)
  | n113 + 1, v1, x5 =>
    if (v1 h0 8) ≤ x5 then (K_X6_copyFrom_c1 G w h0 h_0 (K_X6_copyFrom_113 G w h0 h_0 n113) (F_X4_copyFrom_5 G w v1 (rf G h0 9) (rf G h_0 9))) else (K_X6_copyFrom_c4 G w h0 h_0 (K_X6_copyFrom_113 G w h0 h_0 n113) (F_X2_copyFrom G w v1 ((w.2 (rf G h0 7) (Int32.toNatClampNeg x5)).getD 0) ((w.2 (rf G h_0 7) (Int32.toNatClampNeg x5)).getD 0)) x5)
def K_X6_copyFrom_c5 (G : Gm) (w : Mw) (h0 : Nat) (h_0 : Nat) (rec56 : Mv → Int32 → Mv) (v68 : Mv) : Mv :=
  K_X6_copyFrom_113 G w h0 h_0 9 (stv v68 h0 8 (v68 h_0 8)) (0 : Int32)
def K_X6_copyFrom_56 (G : Gm) (w : Mw) (h0 : Nat) (h_0 : Nat) : Nat → Mv → Int32 → Mv
  | 0, _, _ => (fun _ _ => 0 : Mv)
  | n56 + 1, v60, x64 =>
    if (7 : Int32) ≤ x64 then (K_X6_copyFrom_c5 G w h0 h_0 (K_X6_copyFrom_56 G w h0 h_0 n56) (F_X2_copyFrom G w v60 (rf G h0 6) (rf G h_0 6))) else ((K_X6_copyFrom_56 G w h0 h_0 n56) (stv (stv v60 (rf G h0 4) (Int32.toNatClampNeg x64) (v60 (rf G h_0 4) (Int32.toNatClampNeg x64))) (rf G h0 5) (Int32.toNatClampNeg x64) ((stv v60 (rf G h0 4) (Int32.toNatClampNeg x64) (v60 (rf G h_0 4) (Int32.toNatClampNeg x64))) (rf G h_0 5) (Int32.toNatClampNeg x64))) (x64 + (1 : Int32)))
def K_X6_copyFrom_18 (G : Gm) (w : Mw) (h0 : Nat) (h_0 : Nat) : Nat → Mv → Int32 → Mv
  | 0, _, _ => (fun _ _ => 0 : Mv)
  | n18 + 1, v103, x107 =>
    if (7 : Int32) ≤ x107 then (K_X6_copyFrom_56 G w h0 h_0 8 v103 (0 : Int32)) else ((K_X6_copyFrom_18 G w h0 h_0 n18) (stv (stv v103 (rf G h0 1) (Int32.toNatClampNeg x107) (v103 (rf G h_0 1) (Int32.toNatClampNeg x107))) (rf G h0 2) (Int32.toNatClampNeg x107) ((stv v103 (rf G h0 1) (Int32.toNatClampNeg x107) (v103 (rf G h_0 1) (Int32.toNatClampNeg x107))) (rf G h_0 2) (Int32.toNatClampNeg x107))) (x107 + (1 : Int32)))
def K_X6_copyFrom_e (G : Gm) (w : Mw) (v : Mv) (h0 : Nat) (h_0 : Nat) : Mv :=
  K_X6_copyFrom_18 G w h0 h_0 8 (stv (stv v h0 0 (v h_0 0)) h0 3 ((stv v h0 0 (v h_0 0)) h_0 3)) (0 : Int32)
def F_X6_copyFrom (G : Gm) (w : Mw) (v : Mv) (h0 : Nat) (h_0 : Nat) : Mv := K_X6_copyFrom_e G w v h0 h_0
set_option maxRecDepth 100000 in
theorem kx_X6_copyFrom_1 {G : Gm} {w : Mw} {h0 : Nat} {h_0 : Nat} {n113 : Nat} {v1 : Mv} {x5 : Int32} {v11 : Mv} {x7 : Int32} (a0 : x7 = v1 h0 8) (a1 : v11 = F_X4_copyFrom_5 G w v1 (rf G h0 9) (rf G h_0 9)) (k0 : x7 ≤ x5) : K_X6_copyFrom_113 G w h0 h_0 (n113 + 1) v1 x5 = K_X6_copyFrom_c1 G w h0 h_0 (K_X6_copyFrom_113 G w h0 h_0 n113) v11 := by
  subst a1; subst a0; first | rw [K_X6_copyFrom_113, if_pos k0] | simp only [K_X6_copyFrom_113, if_pos k0]
set_option maxRecDepth 100000 in
theorem kx_X6_copyFrom_2 {G : Gm} {w : Mw} {h0 : Nat} {h_0 : Nat} {rec113 : Mv → Int32 → Mv} {v11 : Mv} {v19 : Mv} (a0 : v19 = F_X4_copyFrom_6 G w v11 (rf G h0 10) (rf G h_0 10))  : K_X6_copyFrom_c1 G w h0 h_0 rec113 v11 = K_X6_copyFrom_c2 G w h0 h_0 rec113 v19 := by
  subst a0; first | rw [K_X6_copyFrom_c1] | simp only [K_X6_copyFrom_c1]
set_option maxRecDepth 100000 in
theorem kx_X6_copyFrom_3 {G : Gm} {w : Mw} {h0 : Nat} {h_0 : Nat} {rec113 : Mv → Int32 → Mv} {v19 : Mv} {v27 : Mv} (a0 : v27 = F_X4_copyFrom_6 G w v19 (rf G h0 11) (rf G h_0 11))  : K_X6_copyFrom_c2 G w h0 h_0 rec113 v19 = K_X6_copyFrom_c3 G w h0 h_0 rec113 v27 := by
  subst a0; first | rw [K_X6_copyFrom_c2] | simp only [K_X6_copyFrom_c2]
set_option maxRecDepth 100000 in
theorem kx_X6_copyFrom_4 {G : Gm} {w : Mw} {h0 : Nat} {h_0 : Nat} {rec113 : Mv → Int32 → Mv} {v27 : Mv}   : K_X6_copyFrom_c3 G w h0 h_0 rec113 v27 = v27 := by
  first | rw [K_X6_copyFrom_c3] | simp only [K_X6_copyFrom_c3]
set_option maxRecDepth 100000 in
theorem kx_X6_copyFrom_5 {G : Gm} {w : Mw} {h0 : Nat} {h_0 : Nat} {n113 : Nat} {v1 : Mv} {x5 : Int32} {v49 : Mv} {q37 : Nat} {q43 : Nat} {x7 : Int32} (a0 : x7 = v1 h0 8) (a1 : q37 = (w.2 (rf G h0 7) (Int32.toNatClampNeg x5)).getD 0) (a2 : q43 = (w.2 (rf G h_0 7) (Int32.toNatClampNeg x5)).getD 0) (a3 : v49 = F_X2_copyFrom G w v1 q37 q43) (k0 : ¬ (x7 ≤ x5)) : K_X6_copyFrom_113 G w h0 h_0 (n113 + 1) v1 x5 = K_X6_copyFrom_c4 G w h0 h_0 (K_X6_copyFrom_113 G w h0 h_0 n113) v49 x5 := by
  subst a3; subst a2; subst a1; subst a0; first | rw [K_X6_copyFrom_113, if_neg k0] | simp only [K_X6_copyFrom_113, if_neg k0]
set_option maxRecDepth 100000 in
theorem kx_X6_copyFrom_6 {G : Gm} {w : Mw} {h0 : Nat} {h_0 : Nat} {rec113 : Mv → Int32 → Mv} {v49 : Mv} {x5 : Int32} {x57 : Int32} (a0 : x57 = x5 + (1 : Int32))  : K_X6_copyFrom_c4 G w h0 h_0 rec113 v49 x5 = rec113 v49 x57 := by
  subst a0; first | rw [K_X6_copyFrom_c4] | simp only [K_X6_copyFrom_c4]
set_option maxRecDepth 100000 in
theorem kx_X6_copyFrom_7 {G : Gm} {w : Mw} {h0 : Nat} {h_0 : Nat} {n56 : Nat} {v60 : Mv} {x64 : Int32} {v68 : Mv} (a0 : v68 = F_X2_copyFrom G w v60 (rf G h0 6) (rf G h_0 6)) (k0 : (7 : Int32) ≤ x64) : K_X6_copyFrom_56 G w h0 h_0 (n56 + 1) v60 x64 = K_X6_copyFrom_c5 G w h0 h_0 (K_X6_copyFrom_56 G w h0 h_0 n56) v68 := by
  subst a0; first | rw [K_X6_copyFrom_56, if_pos k0] | simp only [K_X6_copyFrom_56, if_pos k0]
set_option maxRecDepth 100000 in
theorem kx_X6_copyFrom_8 {G : Gm} {w : Mw} {h0 : Nat} {h_0 : Nat} {rec56 : Mv → Int32 → Mv} {v68 : Mv} {v79 : Mv} {x76 : Int32} (a0 : x76 = v68 h_0 8) (a1 : v79 = stv v68 h0 8 x76)  : K_X6_copyFrom_c5 G w h0 h_0 rec56 v68 = K_X6_copyFrom_113 G w h0 h_0 9 v79 (0 : Int32) := by
  subst a1; subst a0; first | rw [K_X6_copyFrom_c5] | simp only [K_X6_copyFrom_c5]
set_option maxRecDepth 100000 in
theorem kx_X6_copyFrom_9 {G : Gm} {w : Mw} {h0 : Nat} {h_0 : Nat} {n56 : Nat} {v60 : Mv} {x64 : Int32} {v95 : Mv} {x100 : Int32} {x86 : Int32} {v88 : Mv} {x93 : Int32} (a0 : x86 = v60 (rf G h_0 4) (Int32.toNatClampNeg x64)) (a1 : v88 = stv v60 (rf G h0 4) (Int32.toNatClampNeg x64) x86) (a2 : x93 = v88 (rf G h_0 5) (Int32.toNatClampNeg x64)) (a3 : v95 = stv v88 (rf G h0 5) (Int32.toNatClampNeg x64) x93) (a4 : x100 = x64 + (1 : Int32)) (k0 : ¬ ((7 : Int32) ≤ x64)) : K_X6_copyFrom_56 G w h0 h_0 (n56 + 1) v60 x64 = (K_X6_copyFrom_56 G w h0 h_0 n56) v95 x100 := by
  subst a4; subst a3; subst a2; subst a1; subst a0; first | rw [K_X6_copyFrom_56, if_neg k0] | simp only [K_X6_copyFrom_56, if_neg k0]
set_option maxRecDepth 100000 in
theorem kx_X6_copyFrom_10 {G : Gm} {w : Mw} {h0 : Nat} {h_0 : Nat} {n18 : Nat} {v103 : Mv} {x107 : Int32}  (k0 : (7 : Int32) ≤ x107) : K_X6_copyFrom_18 G w h0 h_0 (n18 + 1) v103 x107 = K_X6_copyFrom_56 G w h0 h_0 8 v103 (0 : Int32) := by
  first | rw [K_X6_copyFrom_18, if_pos k0] | simp only [K_X6_copyFrom_18, if_pos k0]
set_option maxRecDepth 100000 in
theorem kx_X6_copyFrom_11 {G : Gm} {w : Mw} {h0 : Nat} {h_0 : Nat} {n18 : Nat} {v103 : Mv} {x107 : Int32} {v121 : Mv} {x126 : Int32} {x112 : Int32} {v114 : Mv} {x119 : Int32} (a0 : x112 = v103 (rf G h_0 1) (Int32.toNatClampNeg x107)) (a1 : v114 = stv v103 (rf G h0 1) (Int32.toNatClampNeg x107) x112) (a2 : x119 = v114 (rf G h_0 2) (Int32.toNatClampNeg x107)) (a3 : v121 = stv v114 (rf G h0 2) (Int32.toNatClampNeg x107) x119) (a4 : x126 = x107 + (1 : Int32)) (k0 : ¬ ((7 : Int32) ≤ x107)) : K_X6_copyFrom_18 G w h0 h_0 (n18 + 1) v103 x107 = (K_X6_copyFrom_18 G w h0 h_0 n18) v121 x126 := by
  subst a4; subst a3; subst a2; subst a1; subst a0; first | rw [K_X6_copyFrom_18, if_neg k0] | simp only [K_X6_copyFrom_18, if_neg k0]
set_option maxRecDepth 100000 in
theorem kx_X6_copyFrom_12 {G : Gm} {w : Mw} {v : Mv} {h0 : Nat} {h_0 : Nat} {v141 : Mv} {x129 : Int32} {v132 : Mv} {x138 : Int32} (a0 : x129 = v h_0 0) (a1 : v132 = stv v h0 0 x129) (a2 : x138 = v132 h_0 3) (a3 : v141 = stv v132 h0 3 x138)  : K_X6_copyFrom_e G w v h0 h_0 = K_X6_copyFrom_18 G w h0 h_0 8 v141 (0 : Int32) := by
  subst a3; subst a2; subst a1; subst a0; first | rw [K_X6_copyFrom_e] | simp only [K_X6_copyFrom_e]
abbrev rm_X6_copyFrom : Room := { frames := 1, cells := 0, slots := 0, locals := 22 }
set_option maxHeartbeats 4000000 in
set_option maxRecDepth 100000 in
theorem ct_X6_copyFrom (l : Launch) (D : va_G) (dA : Nat → ClassId) (G : Gm) (v : Mv) (w : Mw) (hOk : Ok G v w) (h0 : Nat) (S0 : S_X6 G h0) (h_0 : Nat) (S_0 : S_X6 G h_0) : CtV l yX6_copyFrom cX6_copyFrom 3 none rm_X6_copyFrom D dA G [.ref h0, .ref h_0] v w (fun v1 w1 => Ok G v1 w1 ∧ True ∧ (w1 = w ∧ v1 = F_X6_copyFrom G w v h0 h_0) ∧ Fr G [2, 4, 6, 107, 120, 124] v v1) := by
  refine CtV.of RX6 [(0, .ref h0), (1, .ref h_0)] (Nat.le_of_ble_eq_true rfl) rfl (by decide) rfl ?_
  intro p e s m args below meth c E hr
  have J113 : ∀ n113 : Nat, ∀ (v1 : Mv), Ok G v1 w → True → Fr G [2, 4, 6, 107, 120, 124] v v1 → ∀ x5 : Int32, Bd x5 0 8 → Mu x5 8 n113 → K_X6_copyFrom_113 G w h0 h_0 n113 v1 x5 = F_X6_copyFrom G w v h0 h_0 → J p l e rm_X6_copyFrom s m args below meth c 0 0 (MQ below (QcV D dA G (fun v1 w1 => Ok G v1 w1 ∧ True ∧ (w1 = w ∧ v1 = F_X6_copyFrom G w v h0 h_0) ∧ Fr G [2, 4, 6, 107, 120, 124] v v1)) args s 0 0 (dm G)) D dA G (dm G) s.heap 3 v1 w [(0, .ref h0), (1, .ref h_0), (2, .int x5)] 113 [] := by
    intro n113
    induction n113 with
    | zero => intro v1 o2 k3 f4 x5 b6 hm hK; exact hm.zero b6 (by decide)
    | succ n113 ih113 =>
      intro v1 o2 k3 f4 x5 b6 hmu113 hK
      refine J_iload_n E dX6_copyFrom_113 2 rfl ?_
      refine J_aload_n E dX6_copyFrom_114 0 rfl ?_
      refine J_getI E in_X6 rfl (S_X6.h S0) 8 (by decide) wd211 rfl dX6_copyFrom_115 (fun x7 e8 => ?_)
      have b9 : Bd x7 0 8 := Ok.fd o2 e8 (S_X6.h S0) rfl
      refine J_icmp_ge E 142 dX6_copyFrom_118 (by decide) (fun c10 => ?_) (fun c10 => ?_)
      · refine J_aload_n E dX6_copyFrom_142 0 rfl ?_
        refine J_getR E in_X6 rfl (S_X6.h S0) 9 (by decide) wd213 rfl dX6_copyFrom_143 ?_
        refine J_aload_n E dX6_copyFrom_146 1 rfl ?_
        refine J_getR E in_X6 rfl (S_X6.h S_0) 9 (by decide) wd213 rfl dX6_copyFrom_147 ?_
        refine J_callVNV E cal_X4_copyFrom wd575 rfl (S_X4.h (S_X6.f9 S0)) [.ref (rf G h_0 9)] [] (ct_X4_copyFrom_5 l D dA G v1 w (o2) (rf G h0 9) (S_X6.f9 S0) (rf G h_0 9) (S_X6.f9 S_0)) rfl rfl (Nat.le_of_ble_eq_true rfl) ⟨rfl, rfl⟩ ⟨Nat.le_of_ble_eq_true rfl, Nat.le_of_ble_eq_true rfl⟩ dX6_copyFrom_150 (fun v11 w12 p13 => ?_)
        have ew9 : w = w12 := p13.2.2.1.1.symm
        subst ew9
        have o15 := p13.1
        have k16 : True := trivial
        have f17 : Fr G [2, 4, 6, 107, 120, 124] v v11 := Fr.tr f4 (p13.2.2.2) (by decide)
        have e18 : v11 = F_X4_copyFrom_5 G w v1 (rf G h0 9) (rf G h_0 9) := (p13.2.2.1).2
        have hK : K_X6_copyFrom_c1 G w h0 h_0 (K_X6_copyFrom_113 G w h0 h_0 n113) v11 = F_X6_copyFrom G w v h0 h_0 := ((kx_X6_copyFrom_1 (e8) (e18) (c10)).symm.trans hK)
        refine J_aload_n E dX6_copyFrom_153 0 rfl ?_
        refine J_getR E in_X6 rfl (S_X6.h S0) 10 (by decide) wd215 rfl dX6_copyFrom_154 ?_
        refine J_aload_n E dX6_copyFrom_157 1 rfl ?_
        refine J_getR E in_X6 rfl (S_X6.h S_0) 10 (by decide) wd215 rfl dX6_copyFrom_158 ?_
        refine J_callVNV E cal_X4_copyFrom wd575 rfl (S_X4.h (S_X6.f10 S0)) [.ref (rf G h_0 10)] [] (ct_X4_copyFrom_6 l D dA G v11 w (o15) (rf G h0 10) (S_X6.f10 S0) (rf G h_0 10) (S_X6.f10 S_0)) rfl rfl (Nat.le_of_ble_eq_true rfl) ⟨rfl, rfl⟩ ⟨Nat.le_of_ble_eq_true rfl, Nat.le_of_ble_eq_true rfl⟩ dX6_copyFrom_161 (fun v19 w20 p21 => ?_)
        have ew9 : w = w20 := p21.2.2.1.1.symm
        subst ew9
        have o23 := p21.1
        have k24 : True := trivial
        have f25 : Fr G [2, 4, 6, 107, 120, 124] v v19 := Fr.tr f17 (p21.2.2.2) (by decide)
        have e26 : v19 = F_X4_copyFrom_6 G w v11 (rf G h0 10) (rf G h_0 10) := (p21.2.2.1).2
        have hK : K_X6_copyFrom_c2 G w h0 h_0 (K_X6_copyFrom_113 G w h0 h_0 n113) v19 = F_X6_copyFrom G w v h0 h_0 := ((kx_X6_copyFrom_2 (e26)).symm.trans hK)
        refine J_aload_n E dX6_copyFrom_164 0 rfl ?_
        refine J_getR E in_X6 rfl (S_X6.h S0) 11 (by decide) wd217 rfl dX6_copyFrom_165 ?_
        refine J_aload_n E dX6_copyFrom_168 1 rfl ?_
        refine J_getR E in_X6 rfl (S_X6.h S_0) 11 (by decide) wd217 rfl dX6_copyFrom_169 ?_
        refine J_callVNV E cal_X4_copyFrom wd575 rfl (S_X4.h (S_X6.f11 S0)) [.ref (rf G h_0 11)] [] (ct_X4_copyFrom_6 l D dA G v19 w (o23) (rf G h0 11) (S_X6.f11 S0) (rf G h_0 11) (S_X6.f11 S_0)) rfl rfl (Nat.le_of_ble_eq_true rfl) ⟨rfl, rfl⟩ ⟨Nat.le_of_ble_eq_true rfl, Nat.le_of_ble_eq_true rfl⟩ dX6_copyFrom_172 (fun v27 w28 p29 => ?_)
        have ew9 : w = w28 := p29.2.2.1.1.symm
        subst ew9
        have o31 := p29.1
        have k32 : True := trivial
        have f33 : Fr G [2, 4, 6, 107, 120, 124] v v27 := Fr.tr f25 (p29.2.2.2) (by decide)
        have e34 : v27 = F_X4_copyFrom_6 G w v19 (rf G h0 11) (rf G h_0 11) := (p29.2.2.1).2
        have hK : K_X6_copyFrom_c3 G w h0 h_0 (K_X6_copyFrom_113 G w h0 h_0 n113) v27 = F_X6_copyFrom G w v h0 h_0 := ((kx_X6_copyFrom_3 (e34)).symm.trans hK)
        exact J_vret E hr dX6_copyFrom_175 ⟨o31, k32, ⟨⟨rfl, ((kx_X6_copyFrom_4).symm.trans hK)⟩, f33⟩⟩
      · have b35 : Bd x5 0 7 := Bd.lt_l (nle c10) b6 b9 7 (by decide)
        have b36 : Bd x7 1 8 := Bd.lt_r (nle c10) b6 b9 1 (by decide)
        refine J_aload_n E dX6_copyFrom_121 0 rfl ?_
        refine J_getR E in_X6 rfl (S_X6.h S0) 7 (by decide) wd210 rfl dX6_copyFrom_122 ?_
        refine J_iload_n E dX6_copyFrom_125 2 rfl ?_
        have hi40 := Bd.in (n := 8) b35 (by decide)
        obtain ⟨q37, hq38, hw39⟩ := Ok.el o2 (S_X6.f7 S0).1 hi40
        refine J_aald4 E (S_X6.f7 S0).1 hi40 hw39 dX6_copyFrom_126 ?_
        have S41 := (S_X6.f7 S0).2 q37 hq38
        have e42 : q37 = (w.2 (rf G h0 7) (Int32.toNatClampNeg x5)).getD 0 := by rw [hw39]; rfl
        refine J_aload_n E dX6_copyFrom_127 1 rfl ?_
        refine J_getR E in_X6 rfl (S_X6.h S_0) 7 (by decide) wd210 rfl dX6_copyFrom_128 ?_
        refine J_iload_n E dX6_copyFrom_131 2 rfl ?_
        have hi46 := Bd.in (n := 8) b35 (by decide)
        obtain ⟨q43, hq44, hw45⟩ := Ok.el o2 (S_X6.f7 S_0).1 hi46
        refine J_aald4 E (S_X6.f7 S_0).1 hi46 hw45 dX6_copyFrom_132 ?_
        have S47 := (S_X6.f7 S_0).2 q43 hq44
        have e48 : q43 = (w.2 (rf G h_0 7) (Int32.toNatClampNeg x5)).getD 0 := by rw [hw45]; rfl
        refine J_callVNV E cal_X2_copyFrom wd571 rfl (S_X2.h S41) [.ref q43] [] (ct_X2_copyFrom l D dA G v1 w (o2) q37 S41 q43 S47) rfl rfl (Nat.le_of_ble_eq_true rfl) ⟨rfl, rfl⟩ ⟨Nat.le_of_ble_eq_true rfl, Nat.le_of_ble_eq_true rfl⟩ dX6_copyFrom_133 (fun v49 w50 p51 => ?_)
        have ew9 : w = w50 := p51.2.2.1.1.symm
        subst ew9
        have o53 := p51.1
        have k54 : True := trivial
        have f55 : Fr G [2, 4, 6, 107, 120, 124] v v49 := Fr.tr f4 (p51.2.2.2) (by decide)
        have e56 : v49 = F_X2_copyFrom G w v1 q37 q43 := (p51.2.2.1).2
        have hK : K_X6_copyFrom_c4 G w h0 h_0 (K_X6_copyFrom_113 G w h0 h_0 n113) v49 x5 = F_X6_copyFrom G w v h0 h_0 := ((kx_X6_copyFrom_5 (e8) (e42) (e48) (e56) (c10)).symm.trans hK)
        refine J_iinc E 2 1 (fun z => [(2, .int z), (0, .ref h0), (1, .ref h_0)]) dX6_copyFrom_136 rfl (by decide) (by decide) (fun _ => rfl) (fun x57 e58 => ?_)
        have b59 : Bd x57 1 8 := (Bd.add e58 b35 (Bd.lit 1 1 (by decide)) (by decide)).w _ _ (by decide)
        refine J_goto E 113 dX6_copyFrom_139 (by decide) ?_
        exact J.sub [1, 2, 0] rfl (ih113 v49 (o53) (k54) f55 x57 (b59.w 0 8 (by decide)) (Mu.step hmu113 e58 b35 (Bd.lit 1 1 (by decide)) (by decide)) ((kx_X6_copyFrom_6 (e58)).symm.trans hK))
  have J56 : ∀ n56 : Nat, ∀ (v60 : Mv), Ok G v60 w → True → Fr G [2, 4, 6, 107, 120, 124] v v60 → ∀ x64 : Int32, Bd x64 0 7 → Mu x64 7 n56 → K_X6_copyFrom_56 G w h0 h_0 n56 v60 x64 = F_X6_copyFrom G w v h0 h_0 → J p l e rm_X6_copyFrom s m args below meth c 0 0 (MQ below (QcV D dA G (fun v1 w1 => Ok G v1 w1 ∧ True ∧ (w1 = w ∧ v1 = F_X6_copyFrom G w v h0 h_0) ∧ Fr G [2, 4, 6, 107, 120, 124] v v1)) args s 0 0 (dm G)) D dA G (dm G) s.heap 3 v60 w [(0, .ref h0), (1, .ref h_0), (2, .int x64)] 56 [] := by
    intro n56
    induction n56 with
    | zero => intro v60 o61 k62 f63 x64 b65 hm hK; exact hm.zero b65 (by decide)
    | succ n56 ih56 =>
      intro v60 o61 k62 f63 x64 b65 hmu56 hK
      refine J_iload_n E dX6_copyFrom_56 2 rfl ?_
      refine J_bipush E 7 dX6_copyFrom_57 (by decide) ?_
      refine J_icmp_ge E 92 dX6_copyFrom_59 (by decide) (fun c66 => ?_) (fun c66 => ?_)
      · have b67 : Bd x64 7 7 := Bd.le_r c66 (Bd.lit 7 7 (by decide)) b65 7 (by decide)
        refine J_aload_n E dX6_copyFrom_92 0 rfl ?_
        refine J_getR E in_X6 rfl (S_X6.h S0) 6 (by decide) wd207 rfl dX6_copyFrom_93 ?_
        refine J_aload_n E dX6_copyFrom_96 1 rfl ?_
        refine J_getR E in_X6 rfl (S_X6.h S_0) 6 (by decide) wd207 rfl dX6_copyFrom_97 ?_
        refine J_callVNV E cal_X2_copyFrom wd571 rfl (S_X2.h (S_X6.f6 S0)) [.ref (rf G h_0 6)] [] (ct_X2_copyFrom l D dA G v60 w (o61) (rf G h0 6) (S_X6.f6 S0) (rf G h_0 6) (S_X6.f6 S_0)) rfl rfl (Nat.le_of_ble_eq_true rfl) ⟨rfl, rfl⟩ ⟨Nat.le_of_ble_eq_true rfl, Nat.le_of_ble_eq_true rfl⟩ dX6_copyFrom_100 (fun v68 w69 p70 => ?_)
        have ew9 : w = w69 := p70.2.2.1.1.symm
        subst ew9
        have o72 := p70.1
        have k73 : True := trivial
        have f74 : Fr G [2, 4, 6, 107, 120, 124] v v68 := Fr.tr f63 (p70.2.2.2) (by decide)
        have e75 : v68 = F_X2_copyFrom G w v60 (rf G h0 6) (rf G h_0 6) := (p70.2.2.1).2
        have hK : K_X6_copyFrom_c5 G w h0 h_0 (K_X6_copyFrom_56 G w h0 h_0 n56) v68 = F_X6_copyFrom G w v h0 h_0 := ((kx_X6_copyFrom_7 (e75) (c66)).symm.trans hK)
        refine J_aload_n E dX6_copyFrom_103 0 rfl ?_
        refine J_aload_n E dX6_copyFrom_104 1 rfl ?_
        refine J_getI E in_X6 rfl (S_X6.h S_0) 8 (by decide) wd211 rfl dX6_copyFrom_105 (fun x76 e77 => ?_)
        have b78 : Bd x76 0 8 := Ok.fd o72 e77 (S_X6.h S_0) rfl
        refine J_pI E in_X6 rfl (S_X6.h S0) 8 (by decide) wd211 tyX6 tyX6_ok nmX6 rfl rfl .int (by decide +kernel) rfl rfl dX6_copyFrom_108 (fun v79 e80 => ?_)
        have o81 : Ok G v79 w := Ok.pf o72 e80 (S_X6.h S0) rfl b78
        have f83 : Fr G [2, 4, 6, 107, 120, 124] v v79 := Fr.st f74 e80 (S_X6.h S0) rfl
        have e84 : x76 = v79 h0 8 := by rw [e80, stv_s]
        refine J_iconst E 0 dX6_copyFrom_111 (by decide) ?_
        refine J_istore_n E [(2, .int 0), (0, .ref h0), (1, .ref h_0)] dX6_copyFrom_112 rfl (by decide) rfl ?_
        exact J.sub [1, 2, 0] rfl (J113 9 v79 (o81) (trivial) f83 0 ((Bd.lit 0 0 (by decide)).w 0 8 (by decide)) (Mu.start _ (Bd.lit 0 0 (by decide)) (by decide)) ((kx_X6_copyFrom_8 (e77) (e80)).symm.trans hK))
      · have b85 : Bd x64 0 6 := Bd.lt_l (nle c66) b65 (Bd.lit 7 7 (by decide)) 6 (by decide)
        refine J_aload_n E dX6_copyFrom_62 0 rfl ?_
        refine J_getR E in_X6 rfl (S_X6.h S0) 4 (by decide) wd203 rfl dX6_copyFrom_63 ?_
        refine J_iload_n E dX6_copyFrom_66 2 rfl ?_
        refine J_aload_n E dX6_copyFrom_67 1 rfl ?_
        refine J_getR E in_X6 rfl (S_X6.h S_0) 4 (by decide) wd203 rfl dX6_copyFrom_68 ?_
        refine J_iload_n E dX6_copyFrom_71 2 rfl ?_
        refine J_iald1 E (S_X6.f4 S_0) (Bd.in b85 (by decide)) dX6_copyFrom_72 (fun x86 e87 => ?_)
        refine J_iast1 E (S_X6.f4 S0) (Bd.in b85 (by decide)) dX6_copyFrom_73 (fun v88 e89 => ?_)
        have o90 : Ok G v88 w := by rw [e89]; exact Ok.sw o61 (S_X6.f4 S0) b85 (Bd.any x86) 0 7 (by decide) (by decide +kernel)
        have k91 : True := trivial
        have f92 : Fr G [2, 4, 6, 107, 120, 124] v v88 := Fr.st f63 e89 (S_X6.f4 S0) rfl
        refine J_aload_n E dX6_copyFrom_74 0 rfl ?_
        refine J_getR E in_X6 rfl (S_X6.h S0) 5 (by decide) wd205 rfl dX6_copyFrom_75 ?_
        refine J_iload_n E dX6_copyFrom_78 2 rfl ?_
        refine J_aload_n E dX6_copyFrom_79 1 rfl ?_
        refine J_getR E in_X6 rfl (S_X6.h S_0) 5 (by decide) wd205 rfl dX6_copyFrom_80 ?_
        refine J_iload_n E dX6_copyFrom_83 2 rfl ?_
        refine J_iald1 E (S_X6.f5 S_0) (Bd.in b85 (by decide)) dX6_copyFrom_84 (fun x93 e94 => ?_)
        refine J_iast1 E (S_X6.f5 S0) (Bd.in b85 (by decide)) dX6_copyFrom_85 (fun v95 e96 => ?_)
        have o97 : Ok G v95 w := by rw [e96]; exact Ok.sw o90 (S_X6.f5 S0) b85 (Bd.any x93) 0 7 (by decide) (by decide +kernel)
        have k98 : True := trivial
        have f99 : Fr G [2, 4, 6, 107, 120, 124] v v95 := Fr.st f92 e96 (S_X6.f5 S0) rfl
        refine J_iinc E 2 1 (fun z => [(2, .int z), (0, .ref h0), (1, .ref h_0)]) dX6_copyFrom_86 rfl (by decide) (by decide) (fun _ => rfl) (fun x100 e101 => ?_)
        have b102 : Bd x100 1 7 := (Bd.add e101 b85 (Bd.lit 1 1 (by decide)) (by decide)).w _ _ (by decide)
        refine J_goto E 56 dX6_copyFrom_89 (by decide) ?_
        exact J.sub [1, 2, 0] rfl (ih56 v95 (o97) (k98) f99 x100 (b102.w 0 7 (by decide)) (Mu.step hmu56 e101 b85 (Bd.lit 1 1 (by decide)) (by decide)) ((kx_X6_copyFrom_9 (e87) (e89) (e94) (e96) (e101) (c66)).symm.trans hK))
  have J18 : ∀ n18 : Nat, ∀ (v103 : Mv), Ok G v103 w → True → Fr G [2, 4, 6, 107, 120, 124] v v103 → ∀ x107 : Int32, Bd x107 0 7 → Mu x107 7 n18 → K_X6_copyFrom_18 G w h0 h_0 n18 v103 x107 = F_X6_copyFrom G w v h0 h_0 → J p l e rm_X6_copyFrom s m args below meth c 0 0 (MQ below (QcV D dA G (fun v1 w1 => Ok G v1 w1 ∧ True ∧ (w1 = w ∧ v1 = F_X6_copyFrom G w v h0 h_0) ∧ Fr G [2, 4, 6, 107, 120, 124] v v1)) args s 0 0 (dm G)) D dA G (dm G) s.heap 3 v103 w [(0, .ref h0), (1, .ref h_0), (2, .int x107)] 18 [] := by
    intro n18
    induction n18 with
    | zero => intro v103 o104 k105 f106 x107 b108 hm hK; exact hm.zero b108 (by decide)
    | succ n18 ih18 =>
      intro v103 o104 k105 f106 x107 b108 hmu18 hK
      refine J_iload_n E dX6_copyFrom_18 2 rfl ?_
      refine J_bipush E 7 dX6_copyFrom_19 (by decide) ?_
      refine J_icmp_ge E 54 dX6_copyFrom_21 (by decide) (fun c109 => ?_) (fun c109 => ?_)
      · have b110 : Bd x107 7 7 := Bd.le_r c109 (Bd.lit 7 7 (by decide)) b108 7 (by decide)
        refine J_iconst E 0 dX6_copyFrom_54 (by decide) ?_
        refine J_istore_n E [(2, .int 0), (0, .ref h0), (1, .ref h_0)] dX6_copyFrom_55 rfl (by decide) rfl ?_
        exact J.sub [1, 2, 0] rfl (J56 8 v103 (o104) (k105) f106 0 ((Bd.lit 0 0 (by decide)).w 0 7 (by decide)) (Mu.start _ (Bd.lit 0 0 (by decide)) (by decide)) ((kx_X6_copyFrom_10 (c109)).symm.trans hK))
      · have b111 : Bd x107 0 6 := Bd.lt_l (nle c109) b108 (Bd.lit 7 7 (by decide)) 6 (by decide)
        refine J_aload_n E dX6_copyFrom_24 0 rfl ?_
        refine J_getR E in_X6 rfl (S_X6.h S0) 1 (by decide) wd195 rfl dX6_copyFrom_25 ?_
        refine J_iload_n E dX6_copyFrom_28 2 rfl ?_
        refine J_aload_n E dX6_copyFrom_29 1 rfl ?_
        refine J_getR E in_X6 rfl (S_X6.h S_0) 1 (by decide) wd195 rfl dX6_copyFrom_30 ?_
        refine J_iload_n E dX6_copyFrom_33 2 rfl ?_
        refine J_iald1 E (S_X6.f1 S_0) (Bd.in b111 (by decide)) dX6_copyFrom_34 (fun x112 e113 => ?_)
        refine J_iast1 E (S_X6.f1 S0) (Bd.in b111 (by decide)) dX6_copyFrom_35 (fun v114 e115 => ?_)
        have o116 : Ok G v114 w := by rw [e115]; exact Ok.sw o104 (S_X6.f1 S0) b111 (Bd.any x112) 0 7 (by decide) (by decide +kernel)
        have k117 : True := trivial
        have f118 : Fr G [2, 4, 6, 107, 120, 124] v v114 := Fr.st f106 e115 (S_X6.f1 S0) rfl
        refine J_aload_n E dX6_copyFrom_36 0 rfl ?_
        refine J_getR E in_X6 rfl (S_X6.h S0) 2 (by decide) wd197 rfl dX6_copyFrom_37 ?_
        refine J_iload_n E dX6_copyFrom_40 2 rfl ?_
        refine J_aload_n E dX6_copyFrom_41 1 rfl ?_
        refine J_getR E in_X6 rfl (S_X6.h S_0) 2 (by decide) wd197 rfl dX6_copyFrom_42 ?_
        refine J_iload_n E dX6_copyFrom_45 2 rfl ?_
        refine J_iald1 E (S_X6.f2 S_0) (Bd.in b111 (by decide)) dX6_copyFrom_46 (fun x119 e120 => ?_)
        refine J_iast1 E (S_X6.f2 S0) (Bd.in b111 (by decide)) dX6_copyFrom_47 (fun v121 e122 => ?_)
        have o123 : Ok G v121 w := by rw [e122]; exact Ok.sw o116 (S_X6.f2 S0) b111 (Bd.any x119) 0 7 (by decide) (by decide +kernel)
        have k124 : True := trivial
        have f125 : Fr G [2, 4, 6, 107, 120, 124] v v121 := Fr.st f118 e122 (S_X6.f2 S0) rfl
        refine J_iinc E 2 1 (fun z => [(2, .int z), (0, .ref h0), (1, .ref h_0)]) dX6_copyFrom_48 rfl (by decide) (by decide) (fun _ => rfl) (fun x126 e127 => ?_)
        have b128 : Bd x126 1 7 := (Bd.add e127 b111 (Bd.lit 1 1 (by decide)) (by decide)).w _ _ (by decide)
        refine J_goto E 18 dX6_copyFrom_51 (by decide) ?_
        exact J.sub [1, 2, 0] rfl (ih18 v121 (o123) (k124) f125 x126 (b128.w 0 7 (by decide)) (Mu.step hmu18 e127 b111 (Bd.lit 1 1 (by decide)) (by decide)) ((kx_X6_copyFrom_11 (e113) (e115) (e120) (e122) (e127) (c109)).symm.trans hK))
  have hK : K_X6_copyFrom_e G w v h0 h_0 = F_X6_copyFrom G w v h0 h_0 := rfl
  refine J_aload_n E dX6_copyFrom_0 0 rfl ?_
  refine J_aload_n E dX6_copyFrom_1 1 rfl ?_
  refine J_getI E in_X6 rfl (S_X6.h S_0) 0 (by decide) wd191 rfl dX6_copyFrom_2 (fun x129 e130 => ?_)
  have b131 : Bd x129 0 7 := Ok.fd hOk e130 (S_X6.h S_0) rfl
  refine J_pI E in_X6 rfl (S_X6.h S0) 0 (by decide) wd191 tyX6 tyX6_ok nmX6 rfl rfl .int (by decide +kernel) rfl rfl dX6_copyFrom_5 (fun v132 e133 => ?_)
  have o134 : Ok G v132 w := Ok.pf hOk e133 (S_X6.h S0) rfl b131
  have f136 : Fr G [2, 4, 6, 107, 120, 124] v v132 := Fr.st Fr.rf e133 (S_X6.h S0) rfl
  have e137 : x129 = v132 h0 0 := by rw [e133, stv_s]
  refine J_aload_n E dX6_copyFrom_8 0 rfl ?_
  refine J_aload_n E dX6_copyFrom_9 1 rfl ?_
  refine J_getI E in_X6 rfl (S_X6.h S_0) 3 (by decide) wd201 rfl dX6_copyFrom_10 (fun x138 e139 => ?_)
  have b140 : Bd x138 0 7 := Ok.fd o134 e139 (S_X6.h S_0) rfl
  refine J_pI E in_X6 rfl (S_X6.h S0) 3 (by decide) wd201 tyX6 tyX6_ok nmX6 rfl rfl .int (by decide +kernel) rfl rfl dX6_copyFrom_13 (fun v141 e142 => ?_)
  have o143 : Ok G v141 w := Ok.pf o134 e142 (S_X6.h S0) rfl b140
  have e145 : x129 = v141 h0 0 := by rw [e142, stv_k (by decide)]; exact e137
  have f146 : Fr G [2, 4, 6, 107, 120, 124] v v141 := Fr.st f136 e142 (S_X6.h S0) rfl
  have e147 : x138 = v141 h0 3 := by rw [e142, stv_s]
  refine J_iconst E 0 dX6_copyFrom_16 (by decide) ?_
  refine J_istore_n E [(2, .int 0), (0, .ref h0), (1, .ref h_0)] dX6_copyFrom_17 rfl (by decide) rfl ?_
  exact J.sub [1, 2, 0] rfl (J18 8 v141 (o143) (trivial) f146 0 ((Bd.lit 0 0 (by decide)).w 0 7 (by decide)) (Mu.start _ (Bd.lit 0 0 (by decide)) (by decide)) ((kx_X6_copyFrom_12 (e130) (e133) (e139) (e142)).symm.trans hK))

def K_X6_hasOne_e (G : Gm) (w : Mw) (v : Mv) (h0 : Nat) (x_0 : Int32) : Int32 :=
  if x_0 < (0 : Int32) then ((0 : Int32)) else (if (v h0 3) ≤ x_0 then ((0 : Int32)) else ((1 : Int32)))
def F_X6_hasOne (G : Gm) (w : Mw) (v : Mv) (h0 : Nat) (x_0 : Int32) : Int32 := K_X6_hasOne_e G w v h0 x_0
set_option maxRecDepth 100000 in
theorem kx_X6_hasOne_1 {G : Gm} {w : Mw} {v : Mv} {h0 : Nat} {x_0 : Int32}  (k0 : x_0 < (0 : Int32)) : K_X6_hasOne_e G w v h0 x_0 = (0 : Int32) := by
  first | rw [K_X6_hasOne_e, if_pos k0] | simp only [K_X6_hasOne_e, if_pos k0]
set_option maxRecDepth 100000 in
theorem kx_X6_hasOne_2 {G : Gm} {w : Mw} {v : Mv} {h0 : Nat} {x_0 : Int32} {x4 : Int32} (a0 : x4 = v h0 3) (k0 : ¬ (x_0 < (0 : Int32))) (k1 : x4 ≤ x_0) : K_X6_hasOne_e G w v h0 x_0 = (0 : Int32) := by
  subst a0; first | rw [K_X6_hasOne_e, if_neg k0, if_pos k1] | simp only [K_X6_hasOne_e, if_neg k0, if_pos k1]
set_option maxRecDepth 100000 in
theorem kx_X6_hasOne_3 {G : Gm} {w : Mw} {v : Mv} {h0 : Nat} {x_0 : Int32} {x4 : Int32} (a0 : x4 = v h0 3) (k0 : ¬ (x_0 < (0 : Int32))) (k1 : ¬ (x4 ≤ x_0)) : K_X6_hasOne_e G w v h0 x_0 = (1 : Int32) := by
  subst a0; first | rw [K_X6_hasOne_e, if_neg k0, if_neg k1] | simp only [K_X6_hasOne_e, if_neg k0, if_neg k1]
abbrev rm_X6_hasOne : Room := { frames := 0, cells := 0, slots := 0, locals := 0 }
set_option maxHeartbeats 4000000 in
set_option maxRecDepth 100000 in
theorem ct_X6_hasOne (l : Launch) (D : va_G) (dA : Nat → ClassId) (G : Gm) (v : Mv) (w : Mw) (hOk : Ok G v w) (h0 : Nat) (S0 : S_X6 G h0) (x_0 : Int32) : CtI l yX6_hasOne cX6_hasOne 2 (some .boolean) rm_X6_hasOne D dA G [.ref h0, .int x_0] v w (fun r v1 w1 => v1 = v ∧ w1 = w ∧ Bd r 0 1 ∧ (r = 0 ∨ Bd x_0 0 6) ∧ r = F_X6_hasOne G w v h0 x_0) := by
  refine CtI.of RX6 [(0, .ref h0), (1, .int x_0)] (Nat.le_of_ble_eq_true rfl) rfl (by decide) rfl ?_
  intro p e s m args below meth c E hr
  have hK : K_X6_hasOne_e G w v h0 x_0 = F_X6_hasOne G w v h0 x_0 := rfl
  refine J_iload_n E dX6_hasOne_0 1 rfl ?_
  refine J_if_lt E 16 dX6_hasOne_1 (by decide) (fun c1 => ?_) (fun c1 => ?_)
  · have b2 : Bd x_0 I0 (-1) := Bd.lt_l c1 (Bd.any x_0) (Bd.lit 0 0 (by decide)) (-1) (by decide)
    refine J_iconst E 0 dX6_hasOne_16 (by decide) ?_
    exact J_zret E hr (Bd.z (Bd.lit 0 0 (by decide)) (by decide)) dX6_hasOne_17 ⟨rfl, rfl, ((Bd.lit 0 0 (by decide)).w 0 1 (by decide)), ⟨(Or.inl rfl), ((kx_X6_hasOne_1 (c1)).symm.trans hK)⟩⟩
  · have b3 : Bd x_0 0 I1 := Bd.le_r (nlt c1) (Bd.lit 0 0 (by decide)) (Bd.any x_0) 0 (by decide)
    refine J_iload_n E dX6_hasOne_4 1 rfl ?_
    refine J_aload_n E dX6_hasOne_5 0 rfl ?_
    refine J_getI E in_X6 rfl (S_X6.h S0) 3 (by decide) wd201 rfl dX6_hasOne_6 (fun x4 e5 => ?_)
    have b6 : Bd x4 0 7 := Ok.fd hOk e5 (S_X6.h S0) rfl
    refine J_icmp_ge E 16 dX6_hasOne_9 (by decide) (fun c7 => ?_) (fun c7 => ?_)
    · refine J_iconst E 0 dX6_hasOne_16 (by decide) ?_
      exact J_zret E hr (Bd.z (Bd.lit 0 0 (by decide)) (by decide)) dX6_hasOne_17 ⟨rfl, rfl, ((Bd.lit 0 0 (by decide)).w 0 1 (by decide)), ⟨(Or.inl rfl), ((kx_X6_hasOne_2 (e5) (c1) (c7)).symm.trans hK)⟩⟩
    · have b8 : Bd x_0 0 6 := Bd.lt_l (nle c7) b3 b6 6 (by decide)
      have b9 : Bd x4 1 7 := Bd.lt_r (nle c7) b3 b6 1 (by decide)
      refine J_iconst E 1 dX6_hasOne_12 (by decide) ?_
      refine J_goto E 17 dX6_hasOne_13 (by decide) ?_
      exact J_zret E hr (Bd.z (Bd.lit 1 1 (by decide)) (by decide)) dX6_hasOne_17 ⟨rfl, rfl, ((Bd.lit 1 1 (by decide)).w 0 1 (by decide)), ⟨(Or.inr b8), ((kx_X6_hasOne_3 (e5) (c1) (c7)).symm.trans hK)⟩⟩

abbrev rm_X6_remember : Room := { frames := 1, cells := 0, slots := 0, locals := 22 }
set_option maxHeartbeats 4000000 in
set_option maxRecDepth 100000 in
theorem ct_X6_remember (l : Launch) (D : va_G) (dA : Nat → ClassId) (G : Gm) (v : Mv) (w : Mw) (hOk : Ok G v w) (h0 : Nat) (S0 : S_X6 G h0) : CtV l yX6_remember cX6_remember 3 none rm_X6_remember D dA G [.ref h0] v w (fun v1 w1 => Ok G v1 w1 ∧ Kp G v v1 ∧ Fr G [2, 6, 107, 40108] v v1) := by
  refine CtV.of RX6 [(0, .ref h0)] (Nat.le_of_ble_eq_true rfl) rfl (by decide) rfl ?_
  intro p e s m args below meth c E hr
  have J58 : ∀ (v1 : Mv) (w2 : Mw), Ok G v1 w2 → Kp G v v1 → Fr G [2, 6, 107, 40108] v v1 → ∀ x7 : Int32, x7 = v1 h0 8 → Bd x7 0 7 → J p l e rm_X6_remember s m args below meth c 0 0 (MQ below (QcV D dA G (fun v1 w1 => Ok G v1 w1 ∧ Kp G v v1 ∧ Fr G [2, 6, 107, 40108] v v1)) args s 0 0 (dm G)) D dA G (dm G) s.heap 3 v1 w2 [(0, .ref h0)] 58 [] := by
    intro v1 w2 o3 k4 f5 x7 e8 b6
    refine J_aload_n E dX6_remember_58 0 rfl ?_
    refine J_getR E in_X6 rfl (S_X6.h S0) 7 (by decide) wd210 rfl dX6_remember_59 ?_
    refine J_aload_n E dX6_remember_62 0 rfl ?_
    refine J_getI E in_X6 rfl (S_X6.h S0) 8 (by decide) wd211 rfl dX6_remember_63 (fun x9 e10 => ?_)
    rw [show x9 = x7 from e10.trans (e8).symm]
    have hi14 := Bd.in (n := 8) b6 (by decide)
    obtain ⟨q11, hq12, hw13⟩ := Ok.el o3 (S_X6.f7 S0).1 hi14
    refine J_aald4 E (S_X6.f7 S0).1 hi14 hw13 dX6_remember_66 ?_
    have S15 := (S_X6.f7 S0).2 q11 hq12
    refine J_aload_n E dX6_remember_67 0 rfl ?_
    refine J_getR E in_X6 rfl (S_X6.h S0) 6 (by decide) wd207 rfl dX6_remember_68 ?_
    refine J_callVNV E cal_X2_copyFrom wd571 rfl (S_X2.h S15) [.ref (rf G h0 6)] [] (ct_X2_copyFrom l D dA G v1 w2 (o3) q11 S15 (rf G h0 6) (S_X6.f6 S0)) rfl rfl (Nat.le_of_ble_eq_true rfl) ⟨rfl, rfl⟩ ⟨Nat.le_of_ble_eq_true rfl, Nat.le_of_ble_eq_true rfl⟩ dX6_remember_71 (fun v16 w17 p18 => ?_)
    have ew9 : w2 = w17 := p18.2.2.1.1.symm
    subst ew9
    have o20 := p18.1
    have k21 : Kp G v v16 := (k4).tr p18.2.1
    have f22 : Fr G [2, 6, 107, 40108] v v16 := Fr.tr f5 (p18.2.2.2) (by decide)
    refine J_aload_n E dX6_remember_74 0 rfl ?_
    refine J_dup E dX6_remember_75 rfl ?_
    refine J_getI E in_X6 rfl (S_X6.h S0) 8 (by decide) wd211 rfl dX6_remember_76 (fun x23 e24 => ?_)
    rw [show x23 = x7 from e24.trans (((e8).trans (Fr.at (p18.2.2.2) (S_X6.h S0) rfl 8).symm)).symm]
    refine J_iconst E 1 dX6_remember_79 (by decide) ?_
    refine J_iadd E dX6_remember_80 (fun x25 e26 => ?_)
    have b27 : Bd x25 1 8 := (Bd.add e26 b6 (Bd.lit 1 1 (by decide)) (by decide)).w _ _ (by decide)
    refine J_pI E in_X6 rfl (S_X6.h S0) 8 (by decide) wd211 tyX6 tyX6_ok nmX6 rfl rfl .int (by decide +kernel) rfl rfl dX6_remember_81 (fun v28 e29 => ?_)
    have o30 : Ok G v28 w2 := Ok.pf o20 e29 (S_X6.h S0) rfl (b27.w 0 8 (by decide))
    have k31 : Kp G v v28 := Kp.pf k21 e29 (S_X6.h S0) rfl
    have f32 : Fr G [2, 6, 107, 40108] v v28 := Fr.st f22 e29 (S_X6.h S0) rfl
    have e33 : x25 = v28 h0 8 := by rw [e29, stv_s]
    exact J_vret E hr dX6_remember_84 ⟨o30, k31, f32⟩
  have J18 : ∀ n18 : Nat, ∀ (v34 : Mv) (w35 : Mw), Ok G v34 w35 → Kp G v v34 → Fr G [2, 6, 107, 40108] v v34 → ∀ q39 : Nat, q39 ∈ rl G (rf G h0 7) → ∀ x41 : Int32, Bd x41 1 8 → Mu x41 8 n18 → J p l e rm_X6_remember s m args below meth c 0 0 (MQ below (QcV D dA G (fun v1 w1 => Ok G v1 w1 ∧ Kp G v v1 ∧ Fr G [2, 6, 107, 40108] v v1)) args s 0 0 (dm G)) D dA G (dm G) s.heap 3 v34 w35 [(0, .ref h0), (1, .ref q39), (2, .int x41)] 18 [] := by
    intro n18
    induction n18 with
    | zero => intro v34 w35 o36 k37 f38 q39 hq40 x41 b42 hm; exact hm.zero b42 (by decide)
    | succ n18 ih18 =>
      intro v34 w35 o36 k37 f38 q39 hq40 x41 b42 hmu18
      refine J_iload_n E dX6_remember_18 2 rfl ?_
      refine J_bipush E 8 dX6_remember_19 (by decide) ?_
      refine J_icmp_ge E 44 dX6_remember_21 (by decide) (fun c43 => ?_) (fun c43 => ?_)
      · have b44 : Bd x41 8 8 := Bd.le_r c43 (Bd.lit 8 8 (by decide)) b42 8 (by decide)
        refine J_aload_n E dX6_remember_44 0 rfl ?_
        refine J_getR E in_X6 rfl (S_X6.h S0) 7 (by decide) wd210 rfl dX6_remember_45 ?_
        refine J_bipush E 7 dX6_remember_48 (by decide) ?_
        refine J_aload_n E dX6_remember_50 1 rfl ?_
        refine J_aast41 E (S_X6.f7 S0).1 (S_X2.h ((S_X6.f7 S0).2 q39 hq40)) (Bd.in (Bd.lit 7 7 (by decide)) (by decide)) dX6_remember_51 (fun w45 e46 => ?_)
        have o47 : Ok G v34 w45 := by rw [e46]; exact Ok.stu o36 (S_X6.f7 S0).1 hq40 (by decide)
        refine J_aload_n E dX6_remember_52 0 rfl ?_
        refine J_bipush E 7 dX6_remember_53 (by decide) ?_
        refine J_pI E in_X6 rfl (S_X6.h S0) 8 (by decide) wd211 tyX6 tyX6_ok nmX6 rfl rfl .int (by decide +kernel) rfl rfl dX6_remember_55 (fun v48 e49 => ?_)
        have o50 : Ok G v48 w45 := Ok.pf o47 e49 (S_X6.h S0) rfl ((Bd.lit 7 7 (by decide)).w 0 8 (by decide))
        have k51 : Kp G v v48 := Kp.pf k37 e49 (S_X6.h S0) rfl
        have f52 : Fr G [2, 6, 107, 40108] v v48 := Fr.st f38 e49 (S_X6.h S0) rfl
        have e53 : (7 : Int32) = v48 h0 8 := by rw [e49, stv_s]
        exact J.sub [0] rfl (J58 v48 w45 (o50) (k51) f52 7 (e53) ((Bd.lit 7 7 (by decide)).w 0 7 (by decide)))
      · have b54 : Bd x41 1 7 := Bd.lt_l (nle c43) b42 (Bd.lit 8 8 (by decide)) 7 (by decide)
        refine J_aload_n E dX6_remember_24 0 rfl ?_
        refine J_getR E in_X6 rfl (S_X6.h S0) 7 (by decide) wd210 rfl dX6_remember_25 ?_
        refine J_iload_n E dX6_remember_28 2 rfl ?_
        refine J_iconst E 1 dX6_remember_29 (by decide) ?_
        refine J_isub E dX6_remember_30 (fun x55 e56 => ?_)
        have b57 : Bd x55 0 6 := (Bd.sub e56 b54 (Bd.lit 1 1 (by decide)) (by decide)).w _ _ (by decide)
        refine J_aload_n E dX6_remember_31 0 rfl ?_
        refine J_getR E in_X6 rfl (S_X6.h S0) 7 (by decide) wd210 rfl dX6_remember_32 ?_
        refine J_iload_n E dX6_remember_35 2 rfl ?_
        have hi61 := Bd.in (n := 8) b54 (by decide)
        obtain ⟨q58, hq59, hw60⟩ := Ok.el o36 (S_X6.f7 S0).1 hi61
        refine J_aald4 E (S_X6.f7 S0).1 hi61 hw60 dX6_remember_36 ?_
        have S62 := (S_X6.f7 S0).2 q58 hq59
        refine J_aast41 E (S_X6.f7 S0).1 (S_X2.h S62) (Bd.in b57 (by decide)) dX6_remember_37 (fun w63 e64 => ?_)
        have o65 : Ok G v34 w63 := by rw [e64]; exact Ok.stu o36 (S_X6.f7 S0).1 hq59 (by decide)
        refine J_iinc E 2 1 (fun z => [(2, .int z), (0, .ref h0), (1, .ref q39)]) dX6_remember_38 rfl (by decide) (by decide) (fun _ => rfl) (fun x66 e67 => ?_)
        have b68 : Bd x66 2 8 := (Bd.add e67 b54 (Bd.lit 1 1 (by decide)) (by decide)).w _ _ (by decide)
        refine J_goto E 18 dX6_remember_41 (by decide) ?_
        exact J.sub [1, 2, 0] rfl (ih18 v34 w63 (o65) (k37) f38 q39 hq40 x66 (b68.w 1 8 (by decide)) (Mu.step hmu18 e67 b54 (Bd.lit 1 1 (by decide)) (by decide)))
  refine J_aload_n E dX6_remember_0 0 rfl ?_
  refine J_getI E in_X6 rfl (S_X6.h S0) 8 (by decide) wd211 rfl dX6_remember_1 (fun x69 e70 => ?_)
  have b71 : Bd x69 0 8 := Ok.fd hOk e70 (S_X6.h S0) rfl
  refine J_bipush E 8 dX6_remember_4 (by decide) ?_
  refine J_icmp_lt E 58 dX6_remember_6 (by decide) (fun c72 => ?_) (fun c72 => ?_)
  · have b73 : Bd x69 0 7 := Bd.lt_l c72 b71 (Bd.lit 8 8 (by decide)) 7 (by decide)
    exact J.sub [0] rfl (J58 v w (hOk) (Kp.rf) Fr.rf x69 (e70) b73)
  · have b74 : Bd x69 8 8 := Bd.le_r (nlt c72) (Bd.lit 8 8 (by decide)) b71 8 (by decide)
    refine J_aload_n E dX6_remember_9 0 rfl ?_
    refine J_getR E in_X6 rfl (S_X6.h S0) 7 (by decide) wd210 rfl dX6_remember_10 ?_
    refine J_iconst E 0 dX6_remember_13 (by decide) ?_
    have hi78 := Bd.in (n := 8) (Bd.lit 0 0 (by decide)) (by decide)
    obtain ⟨q75, hq76, hw77⟩ := Ok.el hOk (S_X6.f7 S0).1 hi78
    refine J_aald4 E (S_X6.f7 S0).1 hi78 hw77 dX6_remember_14 ?_
    have S79 := (S_X6.f7 S0).2 q75 hq76
    refine J_astore_n E [(1, .ref q75), (0, .ref h0)] dX6_remember_15 rfl (by decide) rfl ?_
    refine J_iconst E 1 dX6_remember_16 (by decide) ?_
    refine J_istore_n E [(2, .int 1), (1, .ref q75), (0, .ref h0)] dX6_remember_17 rfl (by decide) rfl ?_
    exact J.sub [2, 1, 0] rfl (J18 8 v w (hOk) (Kp.rf) Fr.rf q75 hq76 1 ((Bd.lit 1 1 (by decide)).w 1 8 (by decide)) (Mu.start _ (Bd.lit 1 1 (by decide)) (by decide)))

abbrev rm_X6_bringBack : Room := { frames := 1, cells := 0, slots := 0, locals := 22 }
set_option maxHeartbeats 4000000 in
set_option maxRecDepth 100000 in
theorem ct_X6_bringBack (l : Launch) (D : va_G) (dA : Nat → ClassId) (G : Gm) (v : Mv) (w : Mw) (hOk : Ok G v w) (h0 : Nat) (S0 : S_X6 G h0) (z_0 : Int32) (ez_0 : z_0 = v h0 8) (pre0 : Bd z_0 1 8) : CtV l yX6_bringBack cX6_bringBack 1 none rm_X6_bringBack D dA G [.ref h0] v w (fun v1 w1 => Ok G v1 w1 ∧ Kp G v v1 ∧ Fr G [2, 6, 107] v v1) := by
  refine CtV.of RX6 [(0, .ref h0)] (Nat.le_of_ble_eq_true rfl) rfl (by decide) rfl ?_
  intro p e s m args below meth c E hr
  refine J_aload_n E dX6_bringBack_0 0 rfl ?_
  refine J_dup E dX6_bringBack_1 rfl ?_
  refine J_getI E in_X6 rfl (S_X6.h S0) 8 (by decide) wd211 rfl dX6_bringBack_2 (fun x1 e2 => ?_)
  rw [show x1 = z_0 from e2.trans (ez_0).symm]
  refine J_iconst E 1 dX6_bringBack_5 (by decide) ?_
  refine J_isub E dX6_bringBack_6 (fun x3 e4 => ?_)
  have b5 : Bd x3 0 7 := (Bd.sub e4 pre0 (Bd.lit 1 1 (by decide)) (by decide)).w _ _ (by decide)
  refine J_pI E in_X6 rfl (S_X6.h S0) 8 (by decide) wd211 tyX6 tyX6_ok nmX6 rfl rfl .int (by decide +kernel) rfl rfl dX6_bringBack_7 (fun v6 e7 => ?_)
  have o8 : Ok G v6 w := Ok.pf hOk e7 (S_X6.h S0) rfl (b5.w 0 8 (by decide))
  have k9 : Kp G v v6 := Kp.pf Kp.rf e7 (S_X6.h S0) rfl
  have f10 : Fr G [2, 6, 107] v v6 := Fr.st Fr.rf e7 (S_X6.h S0) rfl
  have e11 : x3 = v6 h0 8 := by rw [e7, stv_s]
  refine J_aload_n E dX6_bringBack_10 0 rfl ?_
  refine J_getR E in_X6 rfl (S_X6.h S0) 6 (by decide) wd207 rfl dX6_bringBack_11 ?_
  refine J_aload_n E dX6_bringBack_14 0 rfl ?_
  refine J_getR E in_X6 rfl (S_X6.h S0) 7 (by decide) wd210 rfl dX6_bringBack_15 ?_
  refine J_aload_n E dX6_bringBack_18 0 rfl ?_
  refine J_getI E in_X6 rfl (S_X6.h S0) 8 (by decide) wd211 rfl dX6_bringBack_19 (fun x12 e13 => ?_)
  rw [show x12 = x3 from e13.trans (e11).symm]
  have hi17 := Bd.in (n := 8) b5 (by decide)
  obtain ⟨q14, hq15, hw16⟩ := Ok.el o8 (S_X6.f7 S0).1 hi17
  refine J_aald4 E (S_X6.f7 S0).1 hi17 hw16 dX6_bringBack_22 ?_
  have S18 := (S_X6.f7 S0).2 q14 hq15
  refine J_callVNV E cal_X2_copyFrom wd571 rfl (S_X2.h (S_X6.f6 S0)) [.ref q14] [] (ct_X2_copyFrom l D dA G v6 w (o8) (rf G h0 6) (S_X6.f6 S0) q14 S18) rfl rfl (Nat.le_of_ble_eq_true rfl) ⟨rfl, rfl⟩ ⟨Nat.le_of_ble_eq_true rfl, Nat.le_of_ble_eq_true rfl⟩ dX6_bringBack_23 (fun v19 w20 p21 => ?_)
  have ew9 : w = w20 := p21.2.2.1.1.symm
  subst ew9
  have o23 := p21.1
  have k24 : Kp G v v19 := (k9).tr p21.2.1
  have f25 : Fr G [2, 6, 107] v v19 := Fr.tr f10 (p21.2.2.2) (by decide)
  exact J_vret E hr dX6_bringBack_26 ⟨o23, k24, f25⟩

abbrev rm_X6_countOwned : Room := { frames := 0, cells := 0, slots := 0, locals := 0 }
set_option maxHeartbeats 4000000 in
set_option maxRecDepth 100000 in
theorem ct_X6_countOwned (l : Launch) (D : va_G) (dA : Nat → ClassId) (G : Gm) (v : Mv) (w : Mw) (hOk : Ok G v w) (h0 : Nat) (S0 : S_X6 G h0) : CtI l yX6_countOwned cX6_countOwned 3 (some .int) rm_X6_countOwned D dA G [.ref h0] v w (fun r v1 w1 => v1 = v ∧ w1 = w ∧ True ∧ True) := by
  refine CtI.of RX6 [(0, .ref h0)] (Nat.le_of_ble_eq_true rfl) rfl (by decide) rfl ?_
  intro p e s m args below meth c E hr
  have J4 : ∀ n4 : Nat, ∀ x1 : Int32, ∀ x2 : Int32, Bd x2 0 7 → Mu x2 7 n4 → J p l e rm_X6_countOwned s m args below meth c 0 0 (MQ below (QcI D dA G (fun r v1 w1 => v1 = v ∧ w1 = w ∧ True ∧ True)) args s 0 0 (dm G)) D dA G (dm G) s.heap 3 v w [(0, .ref h0), (1, .int x1), (2, .int x2)] 4 [] := by
    intro n4
    induction n4 with
    | zero => intro x1 x2 b3 hm; exact hm.zero b3 (by decide)
    | succ n4 ih4 =>
      intro x1 x2 b3 hmu4
      have J28 : ∀ x4 : Int32, Bd x2 0 6 → J p l e rm_X6_countOwned s m args below meth c 0 0 (MQ below (QcI D dA G (fun r v1 w1 => v1 = v ∧ w1 = w ∧ True ∧ True)) args s 0 0 (dm G)) D dA G (dm G) s.heap 3 v w [(0, .ref h0), (1, .int x4), (2, .int x2)] 28 [] := by
        intro x4 b5
        refine J_iinc E 2 1 (fun z => [(2, .int z), (0, .ref h0), (1, .int x4)]) dX6_countOwned_28 rfl (by decide) (by decide) (fun _ => rfl) (fun x6 e7 => ?_)
        have b8 : Bd x6 1 7 := (Bd.add e7 b5 (Bd.lit 1 1 (by decide)) (by decide)).w _ _ (by decide)
        refine J_goto E 4 dX6_countOwned_31 (by decide) ?_
        exact J.sub [1, 2, 0] rfl (ih4 x4 x6 (b8.w 0 7 (by decide)) (Mu.step hmu4 e7 b5 (Bd.lit 1 1 (by decide)) (by decide)))
      refine J_iload_n E dX6_countOwned_4 2 rfl ?_
      refine J_aload_n E dX6_countOwned_5 0 rfl ?_
      refine J_getI E in_X6 rfl (S_X6.h S0) 3 (by decide) wd201 rfl dX6_countOwned_6 (fun x9 e10 => ?_)
      have b11 : Bd x9 0 7 := Ok.fd hOk e10 (S_X6.h S0) rfl
      refine J_icmp_ge E 34 dX6_countOwned_9 (by decide) (fun c12 => ?_) (fun c12 => ?_)
      · refine J_iload_n E dX6_countOwned_34 1 rfl ?_
        exact J_iret E hr dX6_countOwned_35 ⟨rfl, rfl, trivial, trivial⟩
      · have b13 : Bd x2 0 6 := Bd.lt_l (nle c12) b3 b11 6 (by decide)
        have b14 : Bd x9 1 7 := Bd.lt_r (nle c12) b3 b11 1 (by decide)
        refine J_aload_n E dX6_countOwned_12 0 rfl ?_
        refine J_getR E in_X6 rfl (S_X6.h S0) 6 (by decide) wd207 rfl dX6_countOwned_13 ?_
        refine J_getRN E in_X2 rfl (S_X2.h (S_X6.f6 S0)) 1 (by decide) wd153 rfl dX6_countOwned_16 ?_
        refine J_iload_n E dX6_countOwned_19 2 rfl ?_
        refine J_iald1 E (S_X2.f1 (S_X6.f6 S0)) (Bd.in b13 (by decide)) dX6_countOwned_20 (fun x15 e16 => ?_)
        refine J_iconst E (-1) dX6_countOwned_21 (by decide) ?_
        refine J_icmp_eq E 28 dX6_countOwned_22 (by decide) (fun c17 => ?_) (fun c17 => ?_)
        · have b18 : Bd x15 (-1) (-1) := Bd.eq_l c17 (Bd.any x15) (Bd.lit (-1) (-1) (by decide)) (-1) (-1) (by decide)
          exact J.sub [0, 1, 2] rfl (J28 x1 b13)
        · refine J_iinc E 1 1 (fun z => [(1, .int z), (0, .ref h0), (2, .int x2)]) dX6_countOwned_25 rfl (by decide) (by decide) (fun _ => rfl) (fun x19 e20 => ?_)
          exact J.sub [1, 0, 2] rfl (J28 x19 b13)
  refine J_iconst E 0 dX6_countOwned_0 (by decide) ?_
  refine J_istore_n E [(1, .int 0), (0, .ref h0)] dX6_countOwned_1 rfl (by decide) rfl ?_
  refine J_iconst E 0 dX6_countOwned_2 (by decide) ?_
  refine J_istore_n E [(2, .int 0), (1, .int 0), (0, .ref h0)] dX6_countOwned_3 rfl (by decide) rfl ?_
  exact J.sub [2, 1, 0] rfl (J4 8 0 0 ((Bd.lit 0 0 (by decide)).w 0 7 (by decide)) (Mu.start _ (Bd.lit 0 0 (by decide)) (by decide)))

abbrev rm_X6_factOfOne : Room := { frames := 1, cells := 0, slots := 0, locals := 21 }
set_option maxHeartbeats 4000000 in
set_option maxRecDepth 100000 in
theorem ct_X6_factOfOne (l : Launch) (D : va_G) (dA : Nat → ClassId) (G : Gm) (v : Mv) (w : Mw) (hOk : Ok G v w) (h0 : Nat) (S0 : S_X6 G h0) (x_0 : Int32) (bx_0 : Bd x_0 0 6) (x_1 : Int32) (bx_1 : Bd x_1 0 4) : CtI l yX6_factOfOne cX6_factOfOne 3 (some .int) rm_X6_factOfOne D dA G [.ref h0, .int x_0, .int x_1] v w (fun r v1 w1 => v1 = v ∧ w1 = w ∧ True ∧ True) := by
  refine CtI.of RX6 [(0, .ref h0), (1, .int x_0), (2, .int x_1)] (Nat.le_of_ble_eq_true rfl) rfl (by decide) rfl ?_
  intro p e s m args below meth c E hr
  refine J_iload_n E dX6_factOfOne_0 2 rfl ?_
  by_cases h1 : x_1.toInt = 0
  · refine J_tabIn E 0 32 dX6_factOfOne_1 h1 (by decide) (by decide) rfl (by decide) ?_
    have b2 : Bd x_1 0 0 := ⟨by omega, by omega⟩
    refine J_aload_n E dX6_factOfOne_32 0 rfl ?_
    refine J_getR E in_X6 rfl (S_X6.h S0) 4 (by decide) wd203 rfl dX6_factOfOne_33 ?_
    refine J_iload_n E dX6_factOfOne_36 1 rfl ?_
    refine J_iald1 E (S_X6.f4 S0) (Bd.in bx_0 (by decide)) dX6_factOfOne_37 (fun x3 e4 => ?_)
    exact J_iret E hr dX6_factOfOne_38 ⟨rfl, rfl, trivial, trivial⟩
  by_cases h5 : x_1.toInt = 1
  · refine J_tabIn E 1 39 dX6_factOfOne_1 h5 (by decide) (by decide) rfl (by decide) ?_
    have b6 : Bd x_1 1 1 := ⟨by omega, by omega⟩
    refine J_aload_n E dX6_factOfOne_39 0 rfl ?_
    refine J_getR E in_X6 rfl (S_X6.h S0) 5 (by decide) wd205 rfl dX6_factOfOne_40 ?_
    refine J_iload_n E dX6_factOfOne_43 1 rfl ?_
    refine J_iald1 E (S_X6.f5 S0) (Bd.in bx_0 (by decide)) dX6_factOfOne_44 (fun x7 e8 => ?_)
    exact J_iret E hr dX6_factOfOne_45 ⟨rfl, rfl, trivial, trivial⟩
  by_cases h9 : x_1.toInt = 2
  · refine J_tabIn E 2 46 dX6_factOfOne_1 h9 (by decide) (by decide) rfl (by decide) ?_
    have b10 : Bd x_1 2 2 := ⟨by omega, by omega⟩
    refine J_aload_n E dX6_factOfOne_46 0 rfl ?_
    refine J_getR E in_X6 rfl (S_X6.h S0) 6 (by decide) wd207 rfl dX6_factOfOne_47 ?_
    refine J_getRN E in_X2 rfl (S_X2.h (S_X6.f6 S0)) 0 (by decide) wd151 rfl dX6_factOfOne_50 ?_
    refine J_iload_n E dX6_factOfOne_53 1 rfl ?_
    refine J_iald1 E (S_X2.f0 (S_X6.f6 S0)) (Bd.in bx_0 (by decide)) dX6_factOfOne_54 (fun x11 e12 => ?_)
    exact J_iret E hr dX6_factOfOne_55 ⟨rfl, rfl, trivial, trivial⟩
  by_cases h13 : x_1.toInt = 3
  · refine J_tabIn E 3 56 dX6_factOfOne_1 h13 (by decide) (by decide) rfl (by decide) ?_
    have b14 : Bd x_1 3 3 := ⟨by omega, by omega⟩
    refine J_aload_n E dX6_factOfOne_56 0 rfl ?_
    refine J_getR E in_X6 rfl (S_X6.h S0) 6 (by decide) wd207 rfl dX6_factOfOne_57 ?_
    refine J_getRN E in_X2 rfl (S_X2.h (S_X6.f6 S0)) 1 (by decide) wd153 rfl dX6_factOfOne_60 ?_
    refine J_iload_n E dX6_factOfOne_63 1 rfl ?_
    refine J_iald1 E (S_X2.f1 (S_X6.f6 S0)) (Bd.in bx_0 (by decide)) dX6_factOfOne_64 (fun x15 e16 => ?_)
    exact J_iret E hr dX6_factOfOne_65 ⟨rfl, rfl, trivial, trivial⟩
  refine J_tabOut (x := x_1) E 66 dX6_factOfOne_1 (by have := bx_1; simp only [Bd, I0, I1] at this; omega) (by decide) ?_
  refine J_aload_n E dX6_factOfOne_66 0 rfl ?_
  refine J_getR E in_X6 rfl (S_X6.h S0) 6 (by decide) wd207 rfl dX6_factOfOne_67 ?_
  refine J_iload_n E dX6_factOfOne_70 1 rfl ?_
  refine J_callVNI E cal_X2_isHere wd496 rfl (S_X2.h (S_X6.f6 S0)) [.int x_0] [] (ct_X2_isHere l D dA G v w (hOk) (rf G h0 6) (S_X6.f6 S0) x_0 bx_0) rfl rfl (Nat.le_of_ble_eq_true rfl) ⟨rfl, rfl⟩ ⟨Nat.le_of_ble_eq_true rfl, Nat.le_of_ble_eq_true rfl⟩ dX6_factOfOne_71 (fun x20 v17 w18 p19 => ?_)
  rw [p19.1, p19.2.1]
  have b21 : Bd x20 0 1 := p19.2.2.1
  refine J_if_eq E 81 dX6_factOfOne_74 (by decide) (fun c22 => ?_) (fun c22 => ?_)
  · have b23 : Bd x20 0 0 := Bd.eq_l c22 b21 (Bd.lit 0 0 (by decide)) 0 0 (by decide)
    refine J_iconst E 0 dX6_factOfOne_81 (by decide) ?_
    exact J_iret E hr dX6_factOfOne_82 ⟨rfl, rfl, trivial, trivial⟩
  · have b24 : Bd x20 1 1 := (Bd.ne_lo c22 b21 (Bd.lit 0 0 (by decide))).w _ _ (by decide)
    refine J_iconst E 1 dX6_factOfOne_77 (by decide) ?_
    refine J_goto E 82 dX6_factOfOne_78 (by decide) ?_
    exact J_iret E hr dX6_factOfOne_82 ⟨rfl, rfl, trivial, trivial⟩

abbrev rm_X6_toldWeight : Room := { frames := 0, cells := 0, slots := 0, locals := 0 }
set_option maxHeartbeats 4000000 in
set_option maxRecDepth 100000 in
theorem ct_X6_toldWeight (l : Launch) (D : va_G) (dA : Nat → ClassId) (G : Gm) (v : Mv) (w : Mw) (hOk : Ok G v w) (h0 : Nat) (S0 : S_X6 G h0) (x_0 : Int32) (bx_0 : Bd x_0 0 127) : CtI l yX6_toldWeight cX6_toldWeight 4 (some .int) rm_X6_toldWeight D dA G [.ref h0, .int x_0] v w (fun r v1 w1 => v1 = v ∧ w1 = w ∧ True ∧ True) := by
  refine CtI.of RX6 [(0, .ref h0), (1, .int x_0)] (Nat.le_of_ble_eq_true rfl) rfl (by decide) rfl ?_
  intro p e s m args below meth c E hr
  have J4 : ∀ n4 : Nat, Bd x_0 0 127 → ∀ x2 : Int32, ∀ x3 : Int32, Bd x3 0 7 → Mu x3 7 n4 → J p l e rm_X6_toldWeight s m args below meth c 0 0 (MQ below (QcI D dA G (fun r v1 w1 => v1 = v ∧ w1 = w ∧ True ∧ True)) args s 0 0 (dm G)) D dA G (dm G) s.heap 4 v w [(0, .ref h0), (1, .int x_0), (2, .int x2), (3, .int x3)] 4 [] := by
    intro n4
    induction n4 with
    | zero => intro b1 x2 x3 b4 hm; exact hm.zero b4 (by decide)
    | succ n4 ih4 =>
      intro b1 x2 x3 b4 hmu4
      have J30 : Bd x_0 0 127 → ∀ x6 : Int32, Bd x3 0 6 → J p l e rm_X6_toldWeight s m args below meth c 0 0 (MQ below (QcI D dA G (fun r v1 w1 => v1 = v ∧ w1 = w ∧ True ∧ True)) args s 0 0 (dm G)) D dA G (dm G) s.heap 4 v w [(0, .ref h0), (1, .int x_0), (2, .int x6), (3, .int x3)] 30 [] := by
        intro b5 x6 b7
        refine J_iinc E 3 1 (fun z => [(3, .int z), (0, .ref h0), (1, .int x_0), (2, .int x6)]) dX6_toldWeight_30 rfl (by decide) (by decide) (fun _ => rfl) (fun x8 e9 => ?_)
        have b10 : Bd x8 1 7 := (Bd.add e9 b7 (Bd.lit 1 1 (by decide)) (by decide)).w _ _ (by decide)
        refine J_goto E 4 dX6_toldWeight_33 (by decide) ?_
        exact J.sub [1, 2, 3, 0] rfl (ih4 b5 x6 x8 (b10.w 0 7 (by decide)) (Mu.step hmu4 e9 b7 (Bd.lit 1 1 (by decide)) (by decide)))
      refine J_iload_n E dX6_toldWeight_4 3 rfl ?_
      refine J_aload_n E dX6_toldWeight_5 0 rfl ?_
      refine J_getI E in_X6 rfl (S_X6.h S0) 0 (by decide) wd191 rfl dX6_toldWeight_6 (fun x11 e12 => ?_)
      have b13 : Bd x11 0 7 := Ok.fd hOk e12 (S_X6.h S0) rfl
      refine J_icmp_ge E 36 dX6_toldWeight_9 (by decide) (fun c14 => ?_) (fun c14 => ?_)
      · refine J_iload_n E dX6_toldWeight_36 2 rfl ?_
        exact J_iret E hr dX6_toldWeight_37 ⟨rfl, rfl, trivial, trivial⟩
      · have b15 : Bd x3 0 6 := Bd.lt_l (nle c14) b4 b13 6 (by decide)
        have b16 : Bd x11 1 7 := Bd.lt_r (nle c14) b4 b13 1 (by decide)
        refine J_iload_n E dX6_toldWeight_12 1 rfl ?_
        refine J_iload_n E dX6_toldWeight_13 3 rfl ?_
        refine J_ishr E dX6_toldWeight_14 (fun x17 e18 => ?_)
        have b19 : Bd x17 0 127 := Bd.shr e18 b1 (by decide)
        refine J_iconst E 1 dX6_toldWeight_15 (by decide) ?_
        refine J_iand E dX6_toldWeight_16 (fun x20 e21 => ?_)
        have b22 : Bd x20 0 1 := Bd.and_r e21 (Bd.lit 1 1 (by decide)) (by decide)
        refine J_iconst E 1 dX6_toldWeight_17 (by decide) ?_
        refine J_icmp_ne E 30 dX6_toldWeight_18 (by decide) (fun c23 => ?_) (fun c23 => ?_)
        · have b24 : Bd x20 0 0 := (Bd.ne_hi c23 b22 (Bd.lit 1 1 (by decide))).w _ _ (by decide)
          exact J.sub [0, 1, 2, 3] rfl (J30 b1 x2 b15)
        · have b25 : Bd x20 1 1 := Bd.eq_l c23 b22 (Bd.lit 1 1 (by decide)) 1 1 (by decide)
          refine J_iload_n E dX6_toldWeight_21 2 rfl ?_
          refine J_aload_n E dX6_toldWeight_22 0 rfl ?_
          refine J_getR E in_X6 rfl (S_X6.h S0) 2 (by decide) wd197 rfl dX6_toldWeight_23 ?_
          refine J_iload_n E dX6_toldWeight_26 3 rfl ?_
          refine J_iald1 E (S_X6.f2 S0) (Bd.in b15 (by decide)) dX6_toldWeight_27 (fun x26 e27 => ?_)
          refine J_iadd E dX6_toldWeight_28 (fun x28 e29 => ?_)
          refine J_istore_n E [(2, .int x28), (0, .ref h0), (1, .int x_0), (3, .int x3)] dX6_toldWeight_29 rfl (by decide) rfl ?_
          exact J.sub [1, 2, 0, 3] rfl (J30 b1 x28 b15)
  refine J_iconst E 0 dX6_toldWeight_0 (by decide) ?_
  refine J_istore_n E [(2, .int 0), (0, .ref h0), (1, .int x_0)] dX6_toldWeight_1 rfl (by decide) rfl ?_
  refine J_iconst E 0 dX6_toldWeight_2 (by decide) ?_
  refine J_istore_n E [(3, .int 0), (2, .int 0), (0, .ref h0), (1, .int x_0)] dX6_toldWeight_3 rfl (by decide) rfl ?_
  exact J.sub [2, 3, 1, 0] rfl (J4 8 bx_0 0 0 ((Bd.lit 0 0 (by decide)).w 0 7 (by decide)) (Mu.start _ (Bd.lit 0 0 (by decide)) (by decide)))

abbrev rm_X6_liftByTwo : Room := { frames := 3, cells := 0, slots := 0, locals := 67 }
set_option maxHeartbeats 4000000 in
set_option maxRecDepth 100000 in
theorem ct_X6_liftByTwo (l : Launch) (D : va_G) (dA : Nat → ClassId) (G : Gm) (v : Mv) (w : Mw) (hOk : Ok G v w) (h0 : Nat) (S0 : S_X6 G h0) (x_0 : Int32) (bx_0 : Bd x_0 0 6) (x_1 : Int32) (bx_1 : Bd x_1 0 6) (x_2 : Int32) (bx_2 : Bd x_2 1 6) : CtI l yX6_liftByTwo cX6_liftByTwo 7 (some .boolean) rm_X6_liftByTwo D dA G [.ref h0, .int x_0, .int x_1, .int x_2] v w (fun r v1 w1 => v1 = v ∧ w1 = w ∧ Bd r 0 1 ∧ True) := by
  refine CtI.of RX6 [(0, .ref h0), (1, .int x_0), (2, .int x_1), (3, .int x_2)] (Nat.le_of_ble_eq_true rfl) rfl (by decide) rfl ?_
  intro p e s m args below meth c E hr
  refine J_aload_n E dX6_liftByTwo_0 0 rfl ?_
  refine J_getR E in_X6 rfl (S_X6.h S0) 6 (by decide) wd207 rfl dX6_liftByTwo_1 ?_
  refine J_iload_n E dX6_liftByTwo_4 2 rfl ?_
  refine J_callVNI E cal_X2_isHere wd496 rfl (S_X2.h (S_X6.f6 S0)) [.int x_1] [] (ct_X2_isHere l D dA G v w (hOk) (rf G h0 6) (S_X6.f6 S0) x_1 bx_1) rfl rfl (Nat.le_of_ble_eq_true rfl) ⟨rfl, rfl⟩ ⟨Nat.le_of_ble_eq_true rfl, Nat.le_of_ble_eq_true rfl⟩ dX6_liftByTwo_5 (fun x4 v1 w2 p3 => ?_)
  rw [p3.1, p3.2.1]
  have b5 : Bd x4 0 1 := p3.2.2.1
  refine J_if_eq E 22 dX6_liftByTwo_8 (by decide) (fun c6 => ?_) (fun c6 => ?_)
  · have b7 : Bd x4 0 0 := Bd.eq_l c6 b5 (Bd.lit 0 0 (by decide)) 0 0 (by decide)
    refine J_iconst E 0 dX6_liftByTwo_22 (by decide) ?_
    exact J_zret E hr (Bd.z (Bd.lit 0 0 (by decide)) (by decide)) dX6_liftByTwo_23 ⟨rfl, rfl, ((Bd.lit 0 0 (by decide)).w 0 1 (by decide)), trivial⟩
  · have b8 : Bd x4 1 1 := (Bd.ne_lo c6 b5 (Bd.lit 0 0 (by decide))).w _ _ (by decide)
    refine J_aload_n E dX6_liftByTwo_11 0 rfl ?_
    refine J_getR E in_X6 rfl (S_X6.h S0) 6 (by decide) wd207 rfl dX6_liftByTwo_12 ?_
    refine J_iload_n E dX6_liftByTwo_15 3 rfl ?_
    refine J_callVNI E cal_X2_isHere wd496 rfl (S_X2.h (S_X6.f6 S0)) [.int x_2] [] (ct_X2_isHere l D dA G v w (hOk) (rf G h0 6) (S_X6.f6 S0) x_2 (bx_2.w 0 6 (by decide))) rfl rfl (Nat.le_of_ble_eq_true rfl) ⟨rfl, rfl⟩ ⟨Nat.le_of_ble_eq_true rfl, Nat.le_of_ble_eq_true rfl⟩ dX6_liftByTwo_16 (fun x12 v9 w10 p11 => ?_)
    rw [p11.1, p11.2.1]
    have b13 : Bd x12 0 1 := p11.2.2.1
    refine J_if_ne E 24 dX6_liftByTwo_19 (by decide) (fun c14 => ?_) (fun c14 => ?_)
    · have b15 : Bd x12 1 1 := (Bd.ne_lo c14 b13 (Bd.lit 0 0 (by decide))).w _ _ (by decide)
      refine J_aload_n E dX6_liftByTwo_24 0 rfl ?_
      refine J_iload_n E dX6_liftByTwo_25 1 rfl ?_
      refine J_iconst E 0 dX6_liftByTwo_26 (by decide) ?_
      refine J_callVI E cal_X6_weightOf wd603 rfl (S_X6.h S0) [.int x_0, .int 0] [] (ct_X6_weightOf l D dA G v w (hOk) h0 S0 x_0 bx_0 0 ((Bd.lit 0 0 (by decide)).w 0 60 (by decide))) rfl rfl (Nat.le_of_ble_eq_true rfl) ⟨rfl, rfl⟩ ⟨Nat.le_of_ble_eq_true rfl, Nat.le_of_ble_eq_true rfl⟩ dX6_liftByTwo_27 (fun x19 v16 w17 p18 => ?_)
      rw [p18.1, p18.2.1]
      refine J_istore E [(4, .int x19), (0, .ref h0), (1, .int x_0), (2, .int x_1), (3, .int x_2)] dX6_liftByTwo_30 (by decide) rfl ?_
      refine J_aload_n E dX6_liftByTwo_32 1 rfl ?_
      refine J_iload_n E dX6_liftByTwo_33 3 rfl ?_
      refine J_iconst E 0 dX6_liftByTwo_34 (by decide) ?_
      refine J_callVI E cal_X6_liftOf wd607 rfl (S_X6.h S0) [.int x_1, .int 0] [] (ct_X6_liftOf l D dA G v w (hOk) h0 S0 x_1 bx_1 0 ((Bd.lit 0 0 (by decide)).w 0 60 (by decide))) rfl rfl (Nat.le_of_ble_eq_true rfl) ⟨rfl, rfl⟩ ⟨Nat.le_of_ble_eq_true rfl, Nat.le_of_ble_eq_true rfl⟩ dX6_liftByTwo_35 (fun x23 v20 w21 p22 => ?_)
      rw [p22.1, p22.2.1]
      refine J_istore E [(5, .int x23), (4, .int x19), (0, .ref h0), (1, .int x_0), (2, .int x_1), (3, .int x_2)] dX6_liftByTwo_38 (by decide) rfl ?_
      refine J_aload_n E dX6_liftByTwo_40 2 rfl ?_
      refine J_iload_n E dX6_liftByTwo_41 5 rfl ?_
      refine J_iconst E 0 dX6_liftByTwo_42 (by decide) ?_
      refine J_callVI E cal_X6_liftOf wd607 rfl (S_X6.h S0) [.int x_2, .int 0] [] (ct_X6_liftOf l D dA G v w (hOk) h0 S0 x_2 (bx_2.w 0 6 (by decide)) 0 ((Bd.lit 0 0 (by decide)).w 0 60 (by decide))) rfl rfl (Nat.le_of_ble_eq_true rfl) ⟨rfl, rfl⟩ ⟨Nat.le_of_ble_eq_true rfl, Nat.le_of_ble_eq_true rfl⟩ dX6_liftByTwo_43 (fun x27 v24 w25 p26 => ?_)
      rw [p26.1, p26.2.1]
      refine J_istore E [(6, .int x27), (5, .int x23), (4, .int x19), (0, .ref h0), (1, .int x_0), (2, .int x_1), (3, .int x_2)] dX6_liftByTwo_46 (by decide) rfl ?_
      refine J_iload E dX6_liftByTwo_48 1 rfl ?_
      refine J_iload E dX6_liftByTwo_50 2 rfl ?_
      refine J_icmp_ge E 76 dX6_liftByTwo_52 (by decide) (fun c28 => ?_) (fun c28 => ?_)
      · refine J_iconst E 0 dX6_liftByTwo_76 (by decide) ?_
        exact J_zret E hr (Bd.z (Bd.lit 0 0 (by decide)) (by decide)) dX6_liftByTwo_77 ⟨rfl, rfl, ((Bd.lit 0 0 (by decide)).w 0 1 (by decide)), trivial⟩
      · refine J_iload E dX6_liftByTwo_55 0 rfl ?_
        refine J_iload E dX6_liftByTwo_57 2 rfl ?_
        refine J_icmp_ge E 76 dX6_liftByTwo_59 (by decide) (fun c29 => ?_) (fun c29 => ?_)
        · refine J_iconst E 0 dX6_liftByTwo_76 (by decide) ?_
          exact J_zret E hr (Bd.z (Bd.lit 0 0 (by decide)) (by decide)) dX6_liftByTwo_77 ⟨rfl, rfl, ((Bd.lit 0 0 (by decide)).w 0 1 (by decide)), trivial⟩
        · refine J_iload E dX6_liftByTwo_62 1 rfl ?_
          refine J_iload E dX6_liftByTwo_64 0 rfl ?_
          refine J_iadd E dX6_liftByTwo_66 (fun x30 e31 => ?_)
          refine J_iload E dX6_liftByTwo_67 2 rfl ?_
          refine J_icmp_lt E 76 dX6_liftByTwo_69 (by decide) (fun c32 => ?_) (fun c32 => ?_)
          · refine J_iconst E 0 dX6_liftByTwo_76 (by decide) ?_
            exact J_zret E hr (Bd.z (Bd.lit 0 0 (by decide)) (by decide)) dX6_liftByTwo_77 ⟨rfl, rfl, ((Bd.lit 0 0 (by decide)).w 0 1 (by decide)), trivial⟩
          · refine J_iconst E 1 dX6_liftByTwo_72 (by decide) ?_
            refine J_goto E 77 dX6_liftByTwo_73 (by decide) ?_
            exact J_zret E hr (Bd.z (Bd.lit 1 1 (by decide)) (by decide)) dX6_liftByTwo_77 ⟨rfl, rfl, ((Bd.lit 1 1 (by decide)).w 0 1 (by decide)), trivial⟩
    · have b33 : Bd x12 0 0 := Bd.eq_l c14 b13 (Bd.lit 0 0 (by decide)) 0 0 (by decide)
      refine J_iconst E 0 dX6_liftByTwo_22 (by decide) ?_
      exact J_zret E hr (Bd.z (Bd.lit 0 0 (by decide)) (by decide)) dX6_liftByTwo_23 ⟨rfl, rfl, ((Bd.lit 0 0 (by decide)).w 0 1 (by decide)), trivial⟩

abbrev rm_X6_giveIfFree : Room := { frames := 1, cells := 0, slots := 0, locals := 23 }
set_option maxHeartbeats 4000000 in
set_option maxRecDepth 100000 in
theorem ct_X6_giveIfFree (l : Launch) (D : va_G) (dA : Nat → ClassId) (G : Gm) (v : Mv) (w : Mw) (hOk : Ok G v w) (h0 : Nat) (S0 : S_X6 G h0) (h_0 : Nat) (S_0 : S_X2 G h_0) (x_1 : Int32) (x_2 : Int32) : CtV l yX6_giveIfFree cX6_giveIfFree 4 none rm_X6_giveIfFree D dA G [.ref h0, .ref h_0, .int x_1, .int x_2] v w (fun v1 w1 => Ok G v1 w1 ∧ Kp G v v1 ∧ Fr G [107] v v1) := by
  refine CtV.of RX6 [(0, .ref h0), (1, .ref h_0), (2, .int x_1), (3, .int x_2)] (Nat.le_of_ble_eq_true rfl) rfl (by decide) rfl ?_
  intro p e s m args below meth c E hr
  refine J_aload_n E dX6_giveIfFree_0 0 rfl ?_
  refine J_iload_n E dX6_giveIfFree_1 2 rfl ?_
  refine J_callVI E cal_X6_hasOne wd879 rfl (S_X6.h S0) [.int x_1] [] (ct_X6_hasOne l D dA G v w (hOk) h0 S0 x_1) rfl rfl (Nat.le_of_ble_eq_true rfl) ⟨rfl, rfl⟩ ⟨Nat.le_of_ble_eq_true rfl, Nat.le_of_ble_eq_true rfl⟩ dX6_giveIfFree_2 (fun x4 v1 w2 p3 => ?_)
  rw [p3.1, p3.2.1]
  have b5 : Bd x4 0 1 := p3.2.2.1
  refine J_if_eq E 51 dX6_giveIfFree_5 (by decide) (fun c6 => ?_) (fun c6 => ?_)
  · have b7 : Bd x4 0 0 := Bd.eq_l c6 b5 (Bd.lit 0 0 (by decide)) 0 0 (by decide)
    exact J_vret E hr dX6_giveIfFree_51 ⟨hOk, Kp.rf, Fr.rf⟩
  · have b8 : Bd x4 1 1 := (Bd.ne_lo c6 b5 (Bd.lit 0 0 (by decide))).w _ _ (by decide)
    have b9 : Bd x_1 0 6 := (p3.2.2.2.1).resolve_left c6
    refine J_aload_n E dX6_giveIfFree_8 1 rfl ?_
    refine J_iload_n E dX6_giveIfFree_9 2 rfl ?_
    refine J_callVNI E cal_X2_isHere wd496 rfl (S_X2.h S_0) [.int x_1] [] (ct_X2_isHere l D dA G v w (hOk) h_0 S_0 x_1 b9) rfl rfl (Nat.le_of_ble_eq_true rfl) ⟨rfl, rfl⟩ ⟨Nat.le_of_ble_eq_true rfl, Nat.le_of_ble_eq_true rfl⟩ dX6_giveIfFree_10 (fun x13 v10 w11 p12 => ?_)
    rw [p12.1, p12.2.1]
    have b14 : Bd x13 0 1 := p12.2.2.1
    refine J_if_eq E 51 dX6_giveIfFree_13 (by decide) (fun c15 => ?_) (fun c15 => ?_)
    · have b16 : Bd x13 0 0 := Bd.eq_l c15 b14 (Bd.lit 0 0 (by decide)) 0 0 (by decide)
      exact J_vret E hr dX6_giveIfFree_51 ⟨hOk, Kp.rf, Fr.rf⟩
    · have b17 : Bd x13 1 1 := (Bd.ne_lo c15 b14 (Bd.lit 0 0 (by decide))).w _ _ (by decide)
      refine J_aload_n E dX6_giveIfFree_16 1 rfl ?_
      refine J_getRN E in_X2 rfl (S_X2.h S_0) 1 (by decide) wd153 rfl dX6_giveIfFree_17 ?_
      refine J_iload_n E dX6_giveIfFree_20 2 rfl ?_
      refine J_iald1 E (S_X2.f1 S_0) (Bd.in b9 (by decide)) dX6_giveIfFree_21 (fun x18 e19 => ?_)
      refine J_iconst E (-1) dX6_giveIfFree_22 (by decide) ?_
      refine J_icmp_ne E 51 dX6_giveIfFree_23 (by decide) (fun c20 => ?_) (fun c20 => ?_)
      · exact J_vret E hr dX6_giveIfFree_51 ⟨hOk, Kp.rf, Fr.rf⟩
      · have b21 : Bd x18 (-1) (-1) := Bd.eq_l c20 (Bd.any x18) (Bd.lit (-1) (-1) (by decide)) (-1) (-1) (by decide)
        refine J_aload_n E dX6_giveIfFree_26 0 rfl ?_
        refine J_iload_n E dX6_giveIfFree_27 3 rfl ?_
        refine J_callVI E cal_X6_hasThing wd526 rfl (S_X6.h S0) [.int x_2] [] (ct_X6_hasThing l D dA G v w (hOk) h0 S0 x_2) rfl rfl (Nat.le_of_ble_eq_true rfl) ⟨rfl, rfl⟩ ⟨Nat.le_of_ble_eq_true rfl, Nat.le_of_ble_eq_true rfl⟩ dX6_giveIfFree_28 (fun x25 v22 w23 p24 => ?_)
        rw [p24.1, p24.2.1]
        have b26 : Bd x25 0 1 := p24.2.2.1
        refine J_if_eq E 51 dX6_giveIfFree_31 (by decide) (fun c27 => ?_) (fun c27 => ?_)
        · have b28 : Bd x25 0 0 := Bd.eq_l c27 b26 (Bd.lit 0 0 (by decide)) 0 0 (by decide)
          exact J_vret E hr dX6_giveIfFree_51 ⟨hOk, Kp.rf, Fr.rf⟩
        · have b29 : Bd x25 1 1 := (Bd.ne_lo c27 b26 (Bd.lit 0 0 (by decide))).w _ _ (by decide)
          have b30 : Bd x_2 0 6 := (p24.2.2.2.1).resolve_left c27
          refine J_aload_n E dX6_giveIfFree_34 0 rfl ?_
          refine J_aload_n E dX6_giveIfFree_35 1 rfl ?_
          refine J_iload_n E dX6_giveIfFree_36 3 rfl ?_
          refine J_callVI E cal_X6_ownerIn wd504 rfl (S_X6.h S0) [.ref h_0, .int x_2] [] (ct_X6_ownerIn l D dA G v w (hOk) h0 S0 h_0 S_0 x_2 b30) rfl rfl (Nat.le_of_ble_eq_true rfl) ⟨rfl, rfl⟩ ⟨Nat.le_of_ble_eq_true rfl, Nat.le_of_ble_eq_true rfl⟩ dX6_giveIfFree_37 (fun x34 v31 w32 p33 => ?_)
          rw [p33.1, p33.2.1]
          have b35 : Bd x34 (-1) 6 := p33.2.2.1
          refine J_iconst E (-1) dX6_giveIfFree_40 (by decide) ?_
          refine J_icmp_ne E 51 dX6_giveIfFree_41 (by decide) (fun c36 => ?_) (fun c36 => ?_)
          · have b37 : Bd x34 0 6 := (Bd.ne_lo c36 b35 (Bd.lit (-1) (-1) (by decide))).w _ _ (by decide)
            exact J_vret E hr dX6_giveIfFree_51 ⟨hOk, Kp.rf, Fr.rf⟩
          · have b38 : Bd x34 (-1) (-1) := Bd.eq_l c36 b35 (Bd.lit (-1) (-1) (by decide)) (-1) (-1) (by decide)
            refine J_aload_n E dX6_giveIfFree_44 1 rfl ?_
            refine J_getRN E in_X2 rfl (S_X2.h S_0) 1 (by decide) wd153 rfl dX6_giveIfFree_45 ?_
            refine J_iload_n E dX6_giveIfFree_48 2 rfl ?_
            refine J_iload_n E dX6_giveIfFree_49 3 rfl ?_
            refine J_iast1 E (S_X2.f1 S_0) (Bd.in b9 (by decide)) dX6_giveIfFree_50 (fun v39 e40 => ?_)
            have o41 : Ok G v39 w := by rw [e40]; exact Ok.sv hOk (S_X2.f1 S_0) b9 b30 0 7 (by decide) (by decide +kernel)
            have k42 : Kp G v v39 := by rw [e40]; exact Kp.sv Kp.rf (S_X2.f1 S_0) b9 0 7 0 6 (by decide) (by decide +kernel)
            have f43 : Fr G [107] v v39 := Fr.st Fr.rf e40 (S_X2.f1 S_0) rfl
            exact J_vret E hr dX6_giveIfFree_51 ⟨o41, k42, f43⟩

abbrev rm_X6_tenthsHeld : Room := { frames := 3, cells := 0, slots := 0, locals := 67 }
set_option maxHeartbeats 4000000 in
set_option maxRecDepth 100000 in
theorem ct_X6_tenthsHeld (l : Launch) (D : va_G) (dA : Nat → ClassId) (G : Gm) (v : Mv) (w : Mw) (hOk : Ok G v w) (h0 : Nat) (S0 : S_X6 G h0) (x_0 : Int32) (bx_0 : Bd x_0 0 6) (x_1 : Int32) (bx_1 : Bd x_1 0 5) (x_2 : Int32) (bx_2 : Bd x_2 0 10) : CtI l yX6_tenthsHeld cX6_tenthsHeld 7 (some .int) rm_X6_tenthsHeld D dA G [.ref h0, .int x_0, .int x_1, .int x_2] v w (fun r v1 w1 => v1 = v ∧ w1 = w ∧ Bd r 0 20 ∧ True) := by
  refine CtI.of RX6 [(0, .ref h0), (1, .int x_0), (2, .int x_1), (3, .int x_2)] (Nat.le_of_ble_eq_true rfl) rfl (by decide) rfl ?_
  intro p e s m args below meth c E hr
  have J54 : Bd x_2 0 10 → ∀ x2 : Int32, ∀ x3 : Int32, ∀ x4 : Int32, Bd x4 0 10 → J p l e rm_X6_tenthsHeld s m args below meth c 0 0 (MQ below (QcI D dA G (fun r v1 w1 => v1 = v ∧ w1 = w ∧ Bd r 0 20 ∧ True)) args s 0 0 (dm G)) D dA G (dm G) s.heap 7 v w [(3, .int x_2), (5, .int x2), (6, .int x3)] 54 [.int x4] := by
    intro b1 x2 x3 x4 b5
    refine J_iload E dX6_tenthsHeld_54 1 rfl ?_
    refine J_iload E dX6_tenthsHeld_56 2 rfl ?_
    refine J_iconst E 5 dX6_tenthsHeld_58 (by decide) ?_
    refine J_iadd E dX6_tenthsHeld_59 (fun x6 e7 => ?_)
    refine J_icmp_le E 67 dX6_tenthsHeld_60 (by decide) (fun c8 => ?_) (fun c8 => ?_)
    · refine J_iconst E 0 dX6_tenthsHeld_67 (by decide) ?_
      refine J_iadd E dX6_tenthsHeld_68 (fun x9 e10 => ?_)
      have b11 : Bd x9 0 10 := (Bd.add e10 b5 (Bd.lit 0 0 (by decide)) (by decide)).w _ _ (by decide)
      exact J_iret E hr dX6_tenthsHeld_69 ⟨rfl, rfl, (b11.w 0 20 (by decide)), trivial⟩
    · refine J_iload_n E dX6_tenthsHeld_63 0 rfl ?_
      refine J_goto E 68 dX6_tenthsHeld_64 (by decide) ?_
      refine J_iadd E dX6_tenthsHeld_68 (fun x12 e13 => ?_)
      have b14 : Bd x12 0 20 := (Bd.add e13 b5 b1 (by decide)).w _ _ (by decide)
      exact J_iret E hr dX6_tenthsHeld_69 ⟨rfl, rfl, b14, trivial⟩
  refine J_aload_n E dX6_tenthsHeld_0 0 rfl ?_
  refine J_getR E in_X6 rfl (S_X6.h S0) 6 (by decide) wd207 rfl dX6_tenthsHeld_1 ?_
  refine J_getRN E in_X2 rfl (S_X2.h (S_X6.f6 S0)) 1 (by decide) wd153 rfl dX6_tenthsHeld_4 ?_
  refine J_iload_n E dX6_tenthsHeld_7 1 rfl ?_
  refine J_iald1 E (S_X2.f1 (S_X6.f6 S0)) (Bd.in bx_0 (by decide)) dX6_tenthsHeld_8 (fun x15 e16 => ?_)
  refine J_istore E [(4, .int x15), (0, .ref h0), (1, .int x_0), (2, .int x_1), (3, .int x_2)] dX6_tenthsHeld_9 (by decide) rfl ?_
  refine J_aload_n E dX6_tenthsHeld_11 1 rfl ?_
  refine J_iload E dX6_tenthsHeld_12 0 rfl ?_
  refine J_callVI E cal_X6_hasThing wd526 rfl (S_X6.h S0) [.int x15] [] (ct_X6_hasThing l D dA G v w (hOk) h0 S0 x15) rfl rfl (Nat.le_of_ble_eq_true rfl) ⟨rfl, rfl⟩ ⟨Nat.le_of_ble_eq_true rfl, Nat.le_of_ble_eq_true rfl⟩ dX6_tenthsHeld_14 (fun x20 v17 w18 p19 => ?_)
  rw [p19.1, p19.2.1]
  have b21 : Bd x20 0 1 := p19.2.2.1
  refine J_if_ne E 22 dX6_tenthsHeld_17 (by decide) (fun c22 => ?_) (fun c22 => ?_)
  · have b23 : Bd x20 1 1 := (Bd.ne_lo c22 b21 (Bd.lit 0 0 (by decide))).w _ _ (by decide)
    have b24 : Bd x15 0 6 := (p19.2.2.2.1).resolve_left c22
    refine J_aload_n E dX6_tenthsHeld_22 1 rfl ?_
    refine J_iload E dX6_tenthsHeld_23 0 rfl ?_
    refine J_iload_n E dX6_tenthsHeld_25 3 rfl ?_
    refine J_callVI E cal_X6_weightOf wd603 rfl (S_X6.h S0) [.int x15, .int x_1] [] (ct_X6_weightOf l D dA G v w (hOk) h0 S0 x15 b24 x_1 (bx_1.w 0 60 (by decide))) rfl rfl (Nat.le_of_ble_eq_true rfl) ⟨rfl, rfl⟩ ⟨Nat.le_of_ble_eq_true rfl, Nat.le_of_ble_eq_true rfl⟩ dX6_tenthsHeld_26 (fun x28 v25 w26 p27 => ?_)
    rw [p27.1, p27.2.1]
    refine J_istore E [(5, .int x28), (4, .int x15), (0, .ref h0), (1, .int x_0), (2, .int x_1), (3, .int x_2)] dX6_tenthsHeld_29 (by decide) rfl ?_
    refine J_aload_n E dX6_tenthsHeld_31 2 rfl ?_
    refine J_iload_n E dX6_tenthsHeld_32 3 rfl ?_
    refine J_iload_n E dX6_tenthsHeld_33 4 rfl ?_
    refine J_callVI E cal_X6_liftOf wd607 rfl (S_X6.h S0) [.int x_0, .int x_1] [] (ct_X6_liftOf l D dA G v w (hOk) h0 S0 x_0 bx_0 x_1 (bx_1.w 0 60 (by decide))) rfl rfl (Nat.le_of_ble_eq_true rfl) ⟨rfl, rfl⟩ ⟨Nat.le_of_ble_eq_true rfl, Nat.le_of_ble_eq_true rfl⟩ dX6_tenthsHeld_34 (fun x32 v29 w30 p31 => ?_)
    rw [p31.1, p31.2.1]
    refine J_istore E [(6, .int x32), (5, .int x28), (4, .int x15), (0, .ref h0), (1, .int x_0), (2, .int x_1), (3, .int x_2)] dX6_tenthsHeld_37 (by decide) rfl ?_
    refine J_iload E dX6_tenthsHeld_39 1 rfl ?_
    refine J_iload E dX6_tenthsHeld_41 0 rfl ?_
    refine J_icmp_le E 53 dX6_tenthsHeld_43 (by decide) (fun c33 => ?_) (fun c33 => ?_)
    · refine J_iconst E 0 dX6_tenthsHeld_53 (by decide) ?_
      exact J.sub [6, 1, 0] rfl (J54 bx_2 x28 x32 0 ((Bd.lit 0 0 (by decide)).w 0 10 (by decide)))
    · refine J_bipush E 10 dX6_tenthsHeld_46 (by decide) ?_
      refine J_iload_n E dX6_tenthsHeld_48 6 rfl ?_
      refine J_isub E dX6_tenthsHeld_49 (fun x34 e35 => ?_)
      have b36 : Bd x34 0 10 := (Bd.sub e35 (Bd.lit 10 10 (by decide)) bx_2 (by decide)).w _ _ (by decide)
      refine J_goto E 54 dX6_tenthsHeld_50 (by decide) ?_
      exact J.sub [6, 1, 0] rfl (J54 bx_2 x28 x32 x34 b36)
  · have b37 : Bd x20 0 0 := Bd.eq_l c22 b21 (Bd.lit 0 0 (by decide)) 0 0 (by decide)
    refine J_iconst E 0 dX6_tenthsHeld_20 (by decide) ?_
    exact J_iret E hr dX6_tenthsHeld_21 ⟨rfl, rfl, ((Bd.lit 0 0 (by decide)).w 0 20 (by decide)), trivial⟩

def K_X6_fitsSeen_84 (G : Gm) (w : Mw) (h0 : Nat) (rec2 : Mv → Int32 → Int32 → Int32 → Int32) (v : Mv) (x_0 : Int32) (x_1 : Int32) (x3 : Int32) : Int32 :=
  rec2 v x_0 x_1 (x3 + (1 : Int32))
def K_X6_fitsSeen_66 (G : Gm) (w : Mw) (h0 : Nat) (rec2 : Mv → Int32 → Int32 → Int32 → Int32) (v : Mv) (x_0 : Int32) (x_1 : Int32) (x3 : Int32) (x14 : Int32) : Int32 :=
  if x14 = (F_X4_cell_5 G w v (rf G h0 9) x3 (3 : Int32)) then (K_X6_fitsSeen_84 G w h0 rec2 v x_0 x_1 x3) else ((0 : Int32))
def K_X6_fitsSeen_2 (G : Gm) (w : Mw) (h0 : Nat) : Nat → Mv → Int32 → Int32 → Int32 → Int32
  | 0, _, _, _, _ => (0 : Int32)
  | n2 + 1, v, x_0, x_1, x3 =>
    if (v (rf G h0 9) 2) ≤ x3 then ((1 : Int32)) else (if (F_X4_cell_5 G w v (rf G h0 9) x3 (0 : Int32)) = x_0 then (if (F_X5_oneLifts G w v (v (rf G h0 4) (Int32.toNatClampNeg x_0)) x_1 (F_X4_cell_5 G w v (rf G h0 9) x3 (1 : Int32))) < (F_X4_cell_5 G w v (rf G h0 9) x3 (2 : Int32)) then (K_X6_fitsSeen_66 G w h0 (K_X6_fitsSeen_2 G w h0 n2) v x_0 x_1 x3 (0 : Int32)) else (K_X6_fitsSeen_66 G w h0 (K_X6_fitsSeen_2 G w h0 n2) v x_0 x_1 x3 (1 : Int32))) else (K_X6_fitsSeen_84 G w h0 (K_X6_fitsSeen_2 G w h0 n2) v x_0 x_1 x3))
def K_X6_fitsSeen_e (G : Gm) (w : Mw) (v : Mv) (h0 : Nat) (x_0 : Int32) (x_1 : Int32) : Int32 :=
  K_X6_fitsSeen_2 G w h0 6 v x_0 x_1 (0 : Int32)
def F_X6_fitsSeen (G : Gm) (w : Mw) (v : Mv) (h0 : Nat) (x_0 : Int32) (x_1 : Int32) : Int32 := K_X6_fitsSeen_e G w v h0 x_0 x_1
set_option maxRecDepth 100000 in
theorem kx_X6_fitsSeen_1 {G : Gm} {w : Mw} {h0 : Nat} {rec2 : Mv → Int32 → Int32 → Int32 → Int32} {v : Mv} {x_0 : Int32} {x_1 : Int32} {x3 : Int32} {x8 : Int32} (a0 : x8 = x3 + (1 : Int32))  : K_X6_fitsSeen_84 G w h0 rec2 v x_0 x_1 x3 = rec2 v x_0 x_1 x8 := by
  subst a0; first | rw [K_X6_fitsSeen_84] | simp only [K_X6_fitsSeen_84]
set_option maxRecDepth 100000 in
theorem kx_X6_fitsSeen_2 {G : Gm} {w : Mw} {h0 : Nat} {rec2 : Mv → Int32 → Int32 → Int32 → Int32} {v : Mv} {x_0 : Int32} {x_1 : Int32} {x3 : Int32} {x14 : Int32} {x19 : Int32} (a0 : x19 = F_X4_cell_5 G w v (rf G h0 9) x3 (3 : Int32)) (k0 : x14 = x19) : K_X6_fitsSeen_66 G w h0 rec2 v x_0 x_1 x3 x14 = K_X6_fitsSeen_84 G w h0 rec2 v x_0 x_1 x3 := by
  subst a0; first | rw [K_X6_fitsSeen_66, if_pos k0] | simp only [K_X6_fitsSeen_66, if_pos k0]
set_option maxRecDepth 100000 in
theorem kx_X6_fitsSeen_3 {G : Gm} {w : Mw} {h0 : Nat} {rec2 : Mv → Int32 → Int32 → Int32 → Int32} {v : Mv} {x_0 : Int32} {x_1 : Int32} {x3 : Int32} {x14 : Int32} {x19 : Int32} (a0 : x19 = F_X4_cell_5 G w v (rf G h0 9) x3 (3 : Int32)) (k0 : ¬ (x14 = x19)) : K_X6_fitsSeen_66 G w h0 rec2 v x_0 x_1 x3 x14 = (0 : Int32) := by
  subst a0; first | rw [K_X6_fitsSeen_66, if_neg k0] | simp only [K_X6_fitsSeen_66, if_neg k0]
set_option maxRecDepth 100000 in
theorem kx_X6_fitsSeen_4 {G : Gm} {w : Mw} {h0 : Nat} {n2 : Nat} {v : Mv} {x_0 : Int32} {x_1 : Int32} {x3 : Int32} {x23 : Int32} (a0 : x23 = v (rf G h0 9) 2) (k0 : x23 ≤ x3) : K_X6_fitsSeen_2 G w h0 (n2 + 1) v x_0 x_1 x3 = (1 : Int32) := by
  subst a0; first | rw [K_X6_fitsSeen_2, if_pos k0] | simp only [K_X6_fitsSeen_2, if_pos k0]
set_option maxRecDepth 100000 in
theorem kx_X6_fitsSeen_5 {G : Gm} {w : Mw} {h0 : Nat} {n2 : Nat} {v : Mv} {x_0 : Int32} {x_1 : Int32} {x3 : Int32} {x23 : Int32} {x32 : Int32} (a0 : x23 = v (rf G h0 9) 2) (a1 : x32 = F_X4_cell_5 G w v (rf G h0 9) x3 (0 : Int32)) (k0 : ¬ (x23 ≤ x3)) (k1 : ¬ (x32 = x_0)) : K_X6_fitsSeen_2 G w h0 (n2 + 1) v x_0 x_1 x3 = K_X6_fitsSeen_84 G w h0 (K_X6_fitsSeen_2 G w h0 n2) v x_0 x_1 x3 := by
  subst a1; subst a0; first | rw [K_X6_fitsSeen_2, if_neg k0, if_neg k1] | simp only [K_X6_fitsSeen_2, if_neg k0, if_neg k1]
set_option maxRecDepth 100000 in
theorem kx_X6_fitsSeen_6 {G : Gm} {w : Mw} {h0 : Nat} {n2 : Nat} {v : Mv} {x_0 : Int32} {x_1 : Int32} {x3 : Int32} {x36 : Int32} {x41 : Int32} {x23 : Int32} {x32 : Int32} {x46 : Int32} {x51 : Int32} (a0 : x23 = v (rf G h0 9) 2) (a1 : x32 = F_X4_cell_5 G w v (rf G h0 9) x3 (0 : Int32)) (a2 : x36 = v (rf G h0 4) (Int32.toNatClampNeg x_0)) (a3 : x41 = F_X4_cell_5 G w v (rf G h0 9) x3 (1 : Int32)) (a4 : x46 = F_X5_oneLifts G w v x36 x_1 x41) (a5 : x51 = F_X4_cell_5 G w v (rf G h0 9) x3 (2 : Int32)) (k0 : ¬ (x23 ≤ x3)) (k1 : x32 = x_0) (k2 : x46 < x51) : K_X6_fitsSeen_2 G w h0 (n2 + 1) v x_0 x_1 x3 = K_X6_fitsSeen_66 G w h0 (K_X6_fitsSeen_2 G w h0 n2) v x_0 x_1 x3 (0 : Int32) := by
  subst a5; subst a4; subst a3; subst a2; subst a1; subst a0; first | rw [K_X6_fitsSeen_2, if_neg k0, if_pos k1, if_pos k2] | simp only [K_X6_fitsSeen_2, if_neg k0, if_pos k1, if_pos k2]
set_option maxRecDepth 100000 in
theorem kx_X6_fitsSeen_7 {G : Gm} {w : Mw} {h0 : Nat} {n2 : Nat} {v : Mv} {x_0 : Int32} {x_1 : Int32} {x3 : Int32} {x36 : Int32} {x41 : Int32} {x23 : Int32} {x32 : Int32} {x46 : Int32} {x51 : Int32} (a0 : x23 = v (rf G h0 9) 2) (a1 : x32 = F_X4_cell_5 G w v (rf G h0 9) x3 (0 : Int32)) (a2 : x36 = v (rf G h0 4) (Int32.toNatClampNeg x_0)) (a3 : x41 = F_X4_cell_5 G w v (rf G h0 9) x3 (1 : Int32)) (a4 : x46 = F_X5_oneLifts G w v x36 x_1 x41) (a5 : x51 = F_X4_cell_5 G w v (rf G h0 9) x3 (2 : Int32)) (k0 : ¬ (x23 ≤ x3)) (k1 : x32 = x_0) (k2 : ¬ (x46 < x51)) : K_X6_fitsSeen_2 G w h0 (n2 + 1) v x_0 x_1 x3 = K_X6_fitsSeen_66 G w h0 (K_X6_fitsSeen_2 G w h0 n2) v x_0 x_1 x3 (1 : Int32) := by
  subst a5; subst a4; subst a3; subst a2; subst a1; subst a0; first | rw [K_X6_fitsSeen_2, if_neg k0, if_pos k1, if_neg k2] | simp only [K_X6_fitsSeen_2, if_neg k0, if_pos k1, if_neg k2]
set_option maxRecDepth 100000 in
theorem kx_X6_fitsSeen_8 {G : Gm} {w : Mw} {v : Mv} {h0 : Nat} {x_0 : Int32} {x_1 : Int32}   : K_X6_fitsSeen_e G w v h0 x_0 x_1 = K_X6_fitsSeen_2 G w h0 6 v x_0 x_1 (0 : Int32) := by
  first | rw [K_X6_fitsSeen_e] | simp only [K_X6_fitsSeen_e]
abbrev rm_X6_fitsSeen : Room := { frames := 2, cells := 0, slots := 0, locals := 44 }
set_option maxHeartbeats 4000000 in
set_option maxRecDepth 100000 in
theorem ct_X6_fitsSeen (l : Launch) (D : va_G) (dA : Nat → ClassId) (G : Gm) (v : Mv) (w : Mw) (hOk : Ok G v w) (h0 : Nat) (S0 : S_X6 G h0) (x_0 : Int32) (bx_0 : Bd x_0 0 6) (x_1 : Int32) (bx_1 : Bd x_1 1 9) : CtI l yX6_fitsSeen cX6_fitsSeen 6 (some .boolean) rm_X6_fitsSeen D dA G [.ref h0, .int x_0, .int x_1] v w (fun r v1 w1 => v1 = v ∧ w1 = w ∧ Bd r 0 1 ∧ r = F_X6_fitsSeen G w v h0 x_0 x_1) := by
  refine CtI.of RX6 [(0, .ref h0), (1, .int x_0), (2, .int x_1)] (Nat.le_of_ble_eq_true rfl) rfl (by decide) rfl ?_
  intro p e s m args below meth c E hr
  have J2 : ∀ n2 : Nat, Bd x_0 0 6 → Bd x_1 1 9 → ∀ x3 : Int32, Bd x3 0 5 → Mu x3 5 n2 → K_X6_fitsSeen_2 G w h0 n2 v x_0 x_1 x3 = F_X6_fitsSeen G w v h0 x_0 x_1 → J p l e rm_X6_fitsSeen s m args below meth c 0 0 (MQ below (QcI D dA G (fun r v1 w1 => v1 = v ∧ w1 = w ∧ Bd r 0 1 ∧ r = F_X6_fitsSeen G w v h0 x_0 x_1)) args s 0 0 (dm G)) D dA G (dm G) s.heap 6 v w [(0, .ref h0), (1, .int x_0), (2, .int x_1), (3, .int x3)] 2 [] := by
    intro n2
    induction n2 with
    | zero => intro b1 b2 x3 b4 hm hK; exact hm.zero b4 (by decide)
    | succ n2 ih2 =>
      intro b1 b2 x3 b4 hmu2 hK
      have J84 : Bd x_0 0 6 → Bd x_1 1 9 → Bd x3 0 4 → K_X6_fitsSeen_84 G w h0 (K_X6_fitsSeen_2 G w h0 n2) v x_0 x_1 x3 = F_X6_fitsSeen G w v h0 x_0 x_1 → J p l e rm_X6_fitsSeen s m args below meth c 0 0 (MQ below (QcI D dA G (fun r v1 w1 => v1 = v ∧ w1 = w ∧ Bd r 0 1 ∧ r = F_X6_fitsSeen G w v h0 x_0 x_1)) args s 0 0 (dm G)) D dA G (dm G) s.heap 6 v w [(0, .ref h0), (1, .int x_0), (2, .int x_1), (3, .int x3)] 84 [] := by
        intro b5 b6 b7 hK
        refine J_iinc E 3 1 (fun z => [(3, .int z), (0, .ref h0), (1, .int x_0), (2, .int x_1)]) dX6_fitsSeen_84 rfl (by decide) (by decide) (fun _ => rfl) (fun x8 e9 => ?_)
        have b10 : Bd x8 1 5 := (Bd.add e9 b7 (Bd.lit 1 1 (by decide)) (by decide)).w _ _ (by decide)
        refine J_goto E 2 dX6_fitsSeen_87 (by decide) ?_
        exact J.sub [1, 2, 3, 0] rfl (ih2 b5 b6 x8 (b10.w 0 5 (by decide)) (Mu.step hmu2 e9 b7 (Bd.lit 1 1 (by decide)) (by decide)) ((kx_X6_fitsSeen_1 (e9)).symm.trans hK))
      have J66 : Bd x_0 0 6 → Bd x_1 1 9 → Bd x3 0 4 → ∀ x14 : Int32, Bd x14 0 1 → K_X6_fitsSeen_66 G w h0 (K_X6_fitsSeen_2 G w h0 n2) v x_0 x_1 x3 x14 = F_X6_fitsSeen G w v h0 x_0 x_1 → J p l e rm_X6_fitsSeen s m args below meth c 0 0 (MQ below (QcI D dA G (fun r v1 w1 => v1 = v ∧ w1 = w ∧ Bd r 0 1 ∧ r = F_X6_fitsSeen G w v h0 x_0 x_1)) args s 0 0 (dm G)) D dA G (dm G) s.heap 6 v w [(0, .ref h0), (1, .int x_0), (2, .int x_1), (3, .int x3)] 66 [.int x14] := by
        intro b11 b12 b13 x14 b15 hK
        refine J_istore E [(5, .int x14), (0, .ref h0), (1, .int x_0), (2, .int x_1), (3, .int x3)] dX6_fitsSeen_66 (by decide) rfl ?_
        refine J_iload E dX6_fitsSeen_68 0 rfl ?_
        refine J_aload_n E dX6_fitsSeen_70 1 rfl ?_
        refine J_getR E in_X6 rfl (S_X6.h S0) 9 (by decide) wd213 rfl dX6_fitsSeen_71 ?_
        refine J_iload_n E dX6_fitsSeen_74 4 rfl ?_
        refine J_iconst E 3 dX6_fitsSeen_75 (by decide) ?_
        refine J_callVNI E cal_X4_cell wd751 rfl (S_X4.h (S_X6.f9 S0)) [.int x3, .int 3] [.int x14] (ct_X4_cell_5 l D dA G v w (hOk) (rf G h0 9) (S_X6.f9 S0) x3 b13 3 ((Bd.lit 3 3 (by decide)).w 0 3 (by decide))) rfl rfl (Nat.le_of_ble_eq_true rfl) ⟨rfl, rfl⟩ ⟨Nat.le_of_ble_eq_true rfl, Nat.le_of_ble_eq_true rfl⟩ dX6_fitsSeen_76 (fun x19 v16 w17 p18 => ?_)
        rw [p18.1, p18.2.1]
        have e20 : x19 = F_X4_cell_5 G w v (rf G h0 9) x3 (3 : Int32) := (p18.2.2.2)
        refine J_icmp_eq E 84 dX6_fitsSeen_79 (by decide) (fun c21 => ?_) (fun c21 => ?_)
        · have b22 : Bd x19 0 1 := Bd.eq_r c21 b15 (Bd.any x19) 0 1 (by decide)
          exact J.sub [1, 2, 3, 4] rfl (J84 b11 b12 b13 ((kx_X6_fitsSeen_2 (e20) (c21)).symm.trans hK))
        · refine J_iconst E 0 dX6_fitsSeen_82 (by decide) ?_
          exact J_zret E hr (Bd.z (Bd.lit 0 0 (by decide)) (by decide)) dX6_fitsSeen_83 ⟨rfl, rfl, ((Bd.lit 0 0 (by decide)).w 0 1 (by decide)), ((kx_X6_fitsSeen_3 (e20) (c21)).symm.trans hK)⟩
      refine J_iload_n E dX6_fitsSeen_2 3 rfl ?_
      refine J_aload_n E dX6_fitsSeen_3 0 rfl ?_
      refine J_getR E in_X6 rfl (S_X6.h S0) 9 (by decide) wd213 rfl dX6_fitsSeen_4 ?_
      refine J_getIN E in_X4 rfl (S_X4.h (S_X6.f9 S0)) 2 (by decide) wd182 rfl dX6_fitsSeen_7 (fun x23 e24 => ?_)
      have b25 : Bd x23 0 5 := Ok.fd hOk e24 (S_X4.h (S_X6.f9 S0)) rfl
      refine J_icmp_ge E 90 dX6_fitsSeen_10 (by decide) (fun c26 => ?_) (fun c26 => ?_)
      · refine J_iconst E 1 dX6_fitsSeen_90 (by decide) ?_
        exact J_zret E hr (Bd.z (Bd.lit 1 1 (by decide)) (by decide)) dX6_fitsSeen_91 ⟨rfl, rfl, ((Bd.lit 1 1 (by decide)).w 0 1 (by decide)), ((kx_X6_fitsSeen_4 (e24) (c26)).symm.trans hK)⟩
      · have b27 : Bd x3 0 4 := Bd.lt_l (nle c26) b4 b25 4 (by decide)
        have b28 : Bd x23 1 5 := Bd.lt_r (nle c26) b4 b25 1 (by decide)
        refine J_aload_n E dX6_fitsSeen_13 0 rfl ?_
        refine J_getR E in_X6 rfl (S_X6.h S0) 9 (by decide) wd213 rfl dX6_fitsSeen_14 ?_
        refine J_iload_n E dX6_fitsSeen_17 3 rfl ?_
        refine J_iconst E 0 dX6_fitsSeen_18 (by decide) ?_
        refine J_callVNI E cal_X4_cell wd751 rfl (S_X4.h (S_X6.f9 S0)) [.int x3, .int 0] [] (ct_X4_cell_5 l D dA G v w (hOk) (rf G h0 9) (S_X6.f9 S0) x3 b27 0 ((Bd.lit 0 0 (by decide)).w 0 3 (by decide))) rfl rfl (Nat.le_of_ble_eq_true rfl) ⟨rfl, rfl⟩ ⟨Nat.le_of_ble_eq_true rfl, Nat.le_of_ble_eq_true rfl⟩ dX6_fitsSeen_19 (fun x32 v29 w30 p31 => ?_)
        rw [p31.1, p31.2.1]
        have e33 : x32 = F_X4_cell_5 G w v (rf G h0 9) x3 (0 : Int32) := (p31.2.2.2)
        refine J_iload_n E dX6_fitsSeen_22 1 rfl ?_
        refine J_icmp_ne E 84 dX6_fitsSeen_23 (by decide) (fun c34 => ?_) (fun c34 => ?_)
        · exact J.sub [0, 1, 2, 3] rfl (J84 b1 b2 b27 ((kx_X6_fitsSeen_5 (e24) (e33) (c26) (c34)).symm.trans hK))
        · have b35 : Bd x32 0 6 := Bd.eq_l c34 (Bd.any x32) b1 0 6 (by decide)
          refine J_aload_n E dX6_fitsSeen_26 0 rfl ?_
          refine J_getR E in_X6 rfl (S_X6.h S0) 4 (by decide) wd203 rfl dX6_fitsSeen_27 ?_
          refine J_iload_n E dX6_fitsSeen_30 1 rfl ?_
          refine J_iald1 E (S_X6.f4 S0) (Bd.in b1 (by decide)) dX6_fitsSeen_31 (fun x36 e37 => ?_)
          refine J_iload_n E dX6_fitsSeen_32 2 rfl ?_
          refine J_aload_n E dX6_fitsSeen_33 0 rfl ?_
          refine J_getR E in_X6 rfl (S_X6.h S0) 9 (by decide) wd213 rfl dX6_fitsSeen_34 ?_
          refine J_iload_n E dX6_fitsSeen_37 3 rfl ?_
          refine J_iconst E 1 dX6_fitsSeen_38 (by decide) ?_
          refine J_callVNI E cal_X4_cell wd751 rfl (S_X4.h (S_X6.f9 S0)) [.int x3, .int 1] [.int x_1, .int x36] (ct_X4_cell_5 l D dA G v w (hOk) (rf G h0 9) (S_X6.f9 S0) x3 b27 1 ((Bd.lit 1 1 (by decide)).w 0 3 (by decide))) rfl rfl (Nat.le_of_ble_eq_true rfl) ⟨rfl, rfl⟩ ⟨Nat.le_of_ble_eq_true rfl, Nat.le_of_ble_eq_true rfl⟩ dX6_fitsSeen_39 (fun x41 v38 w39 p40 => ?_)
          rw [p40.1, p40.2.1]
          have e42 : x41 = F_X4_cell_5 G w v (rf G h0 9) x3 (1 : Int32) := (p40.2.2.2)
          refine J_callSNI E cal_X5_oneLifts wd542 [.int x36, .int x_1, .int x41] [] (ct_X5_oneLifts l D dA G v w (hOk) x36 x_1 x41) rfl rfl (Nat.le_of_ble_eq_true rfl) ⟨rfl, rfl⟩ ⟨Nat.le_of_ble_eq_true rfl, Nat.le_of_ble_eq_true rfl⟩ dX6_fitsSeen_42 (fun x46 v43 w44 p45 => ?_)
          rw [p45.1, p45.2.1]
          have e47 : x46 = F_X5_oneLifts G w v x36 x_1 x41 := (p45.2.2.2)
          refine J_istore E [(4, .int x46), (0, .ref h0), (1, .int x_0), (2, .int x_1), (3, .int x3)] dX6_fitsSeen_45 (by decide) rfl ?_
          refine J_iload E dX6_fitsSeen_47 0 rfl ?_
          refine J_aload_n E dX6_fitsSeen_49 1 rfl ?_
          refine J_getR E in_X6 rfl (S_X6.h S0) 9 (by decide) wd213 rfl dX6_fitsSeen_50 ?_
          refine J_iload_n E dX6_fitsSeen_53 4 rfl ?_
          refine J_iconst E 2 dX6_fitsSeen_54 (by decide) ?_
          refine J_callVNI E cal_X4_cell wd751 rfl (S_X4.h (S_X6.f9 S0)) [.int x3, .int 2] [.int x46] (ct_X4_cell_5 l D dA G v w (hOk) (rf G h0 9) (S_X6.f9 S0) x3 b27 2 ((Bd.lit 2 2 (by decide)).w 0 3 (by decide))) rfl rfl (Nat.le_of_ble_eq_true rfl) ⟨rfl, rfl⟩ ⟨Nat.le_of_ble_eq_true rfl, Nat.le_of_ble_eq_true rfl⟩ dX6_fitsSeen_55 (fun x51 v48 w49 p50 => ?_)
          rw [p50.1, p50.2.1]
          have e52 : x51 = F_X4_cell_5 G w v (rf G h0 9) x3 (2 : Int32) := (p50.2.2.2)
          refine J_icmp_lt E 65 dX6_fitsSeen_58 (by decide) (fun c53 => ?_) (fun c53 => ?_)
          · refine J_iconst E 0 dX6_fitsSeen_65 (by decide) ?_
            exact J.sub [1, 2, 3, 4] rfl (J66 b1 b2 b27 0 ((Bd.lit 0 0 (by decide)).w 0 1 (by decide)) ((kx_X6_fitsSeen_6 (e24) (e33) (e37) (e42) (e47) (e52) (c26) (c34) (c53)).symm.trans hK))
          · refine J_iconst E 1 dX6_fitsSeen_61 (by decide) ?_
            refine J_goto E 66 dX6_fitsSeen_62 (by decide) ?_
            exact J.sub [1, 2, 3, 4] rfl (J66 b1 b2 b27 1 ((Bd.lit 1 1 (by decide)).w 0 1 (by decide)) ((kx_X6_fitsSeen_7 (e24) (e33) (e37) (e42) (e47) (e52) (c26) (c34) (c53)).symm.trans hK))
  have hK : K_X6_fitsSeen_e G w v h0 x_0 x_1 = F_X6_fitsSeen G w v h0 x_0 x_1 := rfl
  refine J_iconst E 0 dX6_fitsSeen_0 (by decide) ?_
  refine J_istore_n E [(3, .int 0), (0, .ref h0), (1, .int x_0), (2, .int x_1)] dX6_fitsSeen_1 rfl (by decide) rfl ?_
  exact J.sub [1, 2, 3, 0] rfl (J2 6 bx_0 bx_1 0 ((Bd.lit 0 0 (by decide)).w 0 5 (by decide)) (Mu.start _ (Bd.lit 0 0 (by decide)) (by decide)) ((kx_X6_fitsSeen_8).symm.trans hK))

def K_X6_fittingStrengths_25 (G : Gm) (w : Mw) (h0 : Nat) (rec4 : Mv → Int32 → Int32 → Int32 → Int32) (v : Mv) (x_0 : Int32) (x7 : Int32) (x4 : Int32) : Int32 :=
  rec4 v x_0 x7 (x4 + (1 : Int32))
def K_X6_fittingStrengths_4 (G : Gm) (w : Mw) (h0 : Nat) : Nat → Mv → Int32 → Int32 → Int32 → Int32
  | 0, _, _, _, _ => (0 : Int32)
  | n4 + 1, v, x_0, x2, x4 =>
    if (9 : Int32) < x4 then (x2) else (if (F_X6_fitsSeen G w v h0 x_0 x4) = (0 : Int32) then (K_X6_fittingStrengths_25 G w h0 (K_X6_fittingStrengths_4 G w h0 n4) v x_0 x2 x4) else (K_X6_fittingStrengths_25 G w h0 (K_X6_fittingStrengths_4 G w h0 n4) v x_0 (x2 ||| ((1 : Int32) <<< (x4 &&& 31))) x4))
def K_X6_fittingStrengths_e (G : Gm) (w : Mw) (v : Mv) (h0 : Nat) (x_0 : Int32) : Int32 :=
  K_X6_fittingStrengths_4 G w h0 10 v x_0 (0 : Int32) (1 : Int32)
def F_X6_fittingStrengths (G : Gm) (w : Mw) (v : Mv) (h0 : Nat) (x_0 : Int32) : Int32 := K_X6_fittingStrengths_e G w v h0 x_0
set_option maxRecDepth 100000 in
theorem kx_X6_fittingStrengths_1 {G : Gm} {w : Mw} {h0 : Nat} {rec4 : Mv → Int32 → Int32 → Int32 → Int32} {v : Mv} {x_0 : Int32} {x7 : Int32} {x4 : Int32} {x10 : Int32} (a0 : x10 = x4 + (1 : Int32))  : K_X6_fittingStrengths_25 G w h0 rec4 v x_0 x7 x4 = rec4 v x_0 x7 x10 := by
  subst a0; first | rw [K_X6_fittingStrengths_25] | simp only [K_X6_fittingStrengths_25]
set_option maxRecDepth 100000 in
theorem kx_X6_fittingStrengths_2 {G : Gm} {w : Mw} {h0 : Nat} {n4 : Nat} {v : Mv} {x_0 : Int32} {x2 : Int32} {x4 : Int32}  (k0 : (9 : Int32) < x4) : K_X6_fittingStrengths_4 G w h0 (n4 + 1) v x_0 x2 x4 = x2 := by
  first | rw [K_X6_fittingStrengths_4, if_pos k0] | simp only [K_X6_fittingStrengths_4, if_pos k0]
set_option maxRecDepth 100000 in
theorem kx_X6_fittingStrengths_3 {G : Gm} {w : Mw} {h0 : Nat} {n4 : Nat} {v : Mv} {x_0 : Int32} {x2 : Int32} {x4 : Int32} {x19 : Int32} (a0 : x19 = F_X6_fitsSeen G w v h0 x_0 x4) (k0 : ¬ ((9 : Int32) < x4)) (k1 : x19 = (0 : Int32)) : K_X6_fittingStrengths_4 G w h0 (n4 + 1) v x_0 x2 x4 = K_X6_fittingStrengths_25 G w h0 (K_X6_fittingStrengths_4 G w h0 n4) v x_0 x2 x4 := by
  subst a0; first | rw [K_X6_fittingStrengths_4, if_neg k0, if_pos k1] | simp only [K_X6_fittingStrengths_4, if_neg k0, if_pos k1]
set_option maxRecDepth 100000 in
theorem kx_X6_fittingStrengths_4 {G : Gm} {w : Mw} {h0 : Nat} {n4 : Nat} {v : Mv} {x_0 : Int32} {x2 : Int32} {x4 : Int32} {x28 : Int32} {x25 : Int32} {x19 : Int32} (a0 : x19 = F_X6_fitsSeen G w v h0 x_0 x4) (a1 : x25 = (1 : Int32) <<< (x4 &&& 31)) (a2 : x28 = x2 ||| x25) (k0 : ¬ ((9 : Int32) < x4)) (k1 : ¬ (x19 = (0 : Int32))) : K_X6_fittingStrengths_4 G w h0 (n4 + 1) v x_0 x2 x4 = K_X6_fittingStrengths_25 G w h0 (K_X6_fittingStrengths_4 G w h0 n4) v x_0 x28 x4 := by
  subst a2; subst a1; subst a0; first | rw [K_X6_fittingStrengths_4, if_neg k0, if_neg k1] | simp only [K_X6_fittingStrengths_4, if_neg k0, if_neg k1]
set_option maxRecDepth 100000 in
theorem kx_X6_fittingStrengths_5 {G : Gm} {w : Mw} {v : Mv} {h0 : Nat} {x_0 : Int32}   : K_X6_fittingStrengths_e G w v h0 x_0 = K_X6_fittingStrengths_4 G w h0 10 v x_0 (0 : Int32) (1 : Int32) := by
  first | rw [K_X6_fittingStrengths_e] | simp only [K_X6_fittingStrengths_e]
abbrev rm_X6_fittingStrengths : Room := { frames := 3, cells := 0, slots := 0, locals := 69 }
set_option maxHeartbeats 4000000 in
set_option maxRecDepth 100000 in
theorem ct_X6_fittingStrengths (l : Launch) (D : va_G) (dA : Nat → ClassId) (G : Gm) (v : Mv) (w : Mw) (hOk : Ok G v w) (h0 : Nat) (S0 : S_X6 G h0) (x_0 : Int32) (bx_0 : Bd x_0 0 6) : CtI l yX6_fittingStrengths cX6_fittingStrengths 4 (some .int) rm_X6_fittingStrengths D dA G [.ref h0, .int x_0] v w (fun r v1 w1 => v1 = v ∧ w1 = w ∧ Bd r 0 1023 ∧ r = F_X6_fittingStrengths G w v h0 x_0) := by
  refine CtI.of RX6 [(0, .ref h0), (1, .int x_0)] (Nat.le_of_ble_eq_true rfl) rfl (by decide) rfl ?_
  intro p e s m args below meth c E hr
  have J4 : ∀ n4 : Nat, Bd x_0 0 6 → ∀ x2 : Int32, Bd x2 0 1023 → ∀ x4 : Int32, Bd x4 1 10 → Mu x4 10 n4 → K_X6_fittingStrengths_4 G w h0 n4 v x_0 x2 x4 = F_X6_fittingStrengths G w v h0 x_0 → J p l e rm_X6_fittingStrengths s m args below meth c 0 0 (MQ below (QcI D dA G (fun r v1 w1 => v1 = v ∧ w1 = w ∧ Bd r 0 1023 ∧ r = F_X6_fittingStrengths G w v h0 x_0)) args s 0 0 (dm G)) D dA G (dm G) s.heap 4 v w [(0, .ref h0), (1, .int x_0), (2, .int x2), (3, .int x4)] 4 [] := by
    intro n4
    induction n4 with
    | zero => intro b1 x2 b3 x4 b5 hm hK; exact hm.zero b5 (by decide)
    | succ n4 ih4 =>
      intro b1 x2 b3 x4 b5 hmu4 hK
      have J25 : Bd x_0 0 6 → ∀ x7 : Int32, Bd x7 0 1023 → Bd x4 1 9 → K_X6_fittingStrengths_25 G w h0 (K_X6_fittingStrengths_4 G w h0 n4) v x_0 x7 x4 = F_X6_fittingStrengths G w v h0 x_0 → J p l e rm_X6_fittingStrengths s m args below meth c 0 0 (MQ below (QcI D dA G (fun r v1 w1 => v1 = v ∧ w1 = w ∧ Bd r 0 1023 ∧ r = F_X6_fittingStrengths G w v h0 x_0)) args s 0 0 (dm G)) D dA G (dm G) s.heap 4 v w [(0, .ref h0), (1, .int x_0), (2, .int x7), (3, .int x4)] 25 [] := by
        intro b6 x7 b8 b9 hK
        refine J_iinc E 3 1 (fun z => [(3, .int z), (0, .ref h0), (1, .int x_0), (2, .int x7)]) dX6_fittingStrengths_25 rfl (by decide) (by decide) (fun _ => rfl) (fun x10 e11 => ?_)
        have b12 : Bd x10 2 10 := (Bd.add e11 b9 (Bd.lit 1 1 (by decide)) (by decide)).w _ _ (by decide)
        refine J_goto E 4 dX6_fittingStrengths_28 (by decide) ?_
        exact J.sub [1, 2, 3, 0] rfl (ih4 b6 x7 b8 x10 (b12.w 1 10 (by decide)) (Mu.step hmu4 e11 b9 (Bd.lit 1 1 (by decide)) (by decide)) ((kx_X6_fittingStrengths_1 (e11)).symm.trans hK))
      refine J_iload_n E dX6_fittingStrengths_4 3 rfl ?_
      refine J_bipush E 9 dX6_fittingStrengths_5 (by decide) ?_
      refine J_icmp_gt E 31 dX6_fittingStrengths_7 (by decide) (fun c13 => ?_) (fun c13 => ?_)
      · have b14 : Bd x4 10 10 := Bd.lt_r c13 (Bd.lit 9 9 (by decide)) b5 10 (by decide)
        refine J_iload_n E dX6_fittingStrengths_31 2 rfl ?_
        exact J_iret E hr dX6_fittingStrengths_32 ⟨rfl, rfl, b3, ((kx_X6_fittingStrengths_2 (c13)).symm.trans hK)⟩
      · have b15 : Bd x4 1 9 := Bd.le_l (nlt c13) b5 (Bd.lit 9 9 (by decide)) 9 (by decide)
        refine J_aload_n E dX6_fittingStrengths_10 0 rfl ?_
        refine J_iload_n E dX6_fittingStrengths_11 1 rfl ?_
        refine J_iload_n E dX6_fittingStrengths_12 3 rfl ?_
        refine J_callVI E cal_X6_fitsSeen wd747 rfl (S_X6.h S0) [.int x_0, .int x4] [] (ct_X6_fitsSeen l D dA G v w (hOk) h0 S0 x_0 b1 x4 b15) rfl rfl (Nat.le_of_ble_eq_true rfl) ⟨rfl, rfl⟩ ⟨Nat.le_of_ble_eq_true rfl, Nat.le_of_ble_eq_true rfl⟩ dX6_fittingStrengths_13 (fun x19 v16 w17 p18 => ?_)
        rw [p18.1, p18.2.1]
        have b20 : Bd x19 0 1 := p18.2.2.1
        have e21 : x19 = F_X6_fitsSeen G w v h0 x_0 x4 := (p18.2.2.2)
        refine J_if_eq E 25 dX6_fittingStrengths_16 (by decide) (fun c22 => ?_) (fun c22 => ?_)
        · have b23 : Bd x19 0 0 := Bd.eq_l c22 b20 (Bd.lit 0 0 (by decide)) 0 0 (by decide)
          exact J.sub [0, 1, 2, 3] rfl (J25 b1 x2 b3 b15 ((kx_X6_fittingStrengths_3 (e21) (c13) (c22)).symm.trans hK))
        · have b24 : Bd x19 1 1 := (Bd.ne_lo c22 b20 (Bd.lit 0 0 (by decide))).w _ _ (by decide)
          refine J_iload_n E dX6_fittingStrengths_19 2 rfl ?_
          refine J_iconst E 1 dX6_fittingStrengths_20 (by decide) ?_
          refine J_iload_n E dX6_fittingStrengths_21 3 rfl ?_
          refine J_ishl E dX6_fittingStrengths_22 (fun x25 e26 => ?_)
          have b27 : Bd x25 1 512 := Bd.shl1 e26 b15 9 (by decide)
          refine J_ior E dX6_fittingStrengths_23 (fun x28 e29 => ?_)
          have b30 : Bd x28 0 1023 := Bd.or e29 b3 b27 10 (by decide)
          refine J_istore_n E [(2, .int x28), (0, .ref h0), (1, .int x_0), (3, .int x4)] dX6_fittingStrengths_24 rfl (by decide) rfl ?_
          exact J.sub [1, 2, 0, 3] rfl (J25 b1 x28 b30 b15 ((kx_X6_fittingStrengths_4 (e21) (e26) (e29) (c13) (c22)).symm.trans hK))
  have hK : K_X6_fittingStrengths_e G w v h0 x_0 = F_X6_fittingStrengths G w v h0 x_0 := rfl
  refine J_iconst E 0 dX6_fittingStrengths_0 (by decide) ?_
  refine J_istore_n E [(2, .int 0), (0, .ref h0), (1, .int x_0)] dX6_fittingStrengths_1 rfl (by decide) rfl ?_
  refine J_iconst E 1 dX6_fittingStrengths_2 (by decide) ?_
  refine J_istore_n E [(3, .int 1), (2, .int 0), (0, .ref h0), (1, .int x_0)] dX6_fittingStrengths_3 rfl (by decide) rfl ?_
  exact J.sub [2, 3, 1, 0] rfl (J4 10 bx_0 0 ((Bd.lit 0 0 (by decide)).w 0 1023 (by decide)) 1 ((Bd.lit 1 1 (by decide)).w 1 10 (by decide)) (Mu.start _ (Bd.lit 1 1 (by decide)) (by decide)) ((kx_X6_fittingStrengths_5).symm.trans hK))

def K_X6_fitsNotes_62 (G : Gm) (w : Mw) (h0 : Nat) (rec2 : Mv → Int32 → Int32 → Int32 → Int32) (v : Mv) (x_0 : Int32) (x_1 : Int32) (x3 : Int32) : Int32 :=
  rec2 v x_0 x_1 (x3 + (1 : Int32))
def K_X6_fitsNotes_2 (G : Gm) (w : Mw) (h0 : Nat) : Nat → Mv → Int32 → Int32 → Int32 → Int32
  | 0, _, _, _, _ => (0 : Int32)
  | n2 + 1, v, x_0, x_1, x3 =>
    if (v (rf G h0 10) 2) ≤ x3 then ((1 : Int32)) else (if (F_X4_cell_6 G w v (rf G h0 10) x3 (0 : Int32)) = x_0 then (if (F_X4_cell_6 G w v (rf G h0 10) x3 (3 : Int32)) = (F_X5_thingWeighs G w v x_1 (F_X4_cell_6 G w v (rf G h0 10) x3 (1 : Int32)) (F_X4_cell_6 G w v (rf G h0 10) x3 (2 : Int32))) then (K_X6_fitsNotes_62 G w h0 (K_X6_fitsNotes_2 G w h0 n2) v x_0 x_1 x3) else ((0 : Int32))) else (K_X6_fitsNotes_62 G w h0 (K_X6_fitsNotes_2 G w h0 n2) v x_0 x_1 x3))
def K_X6_fitsNotes_e (G : Gm) (w : Mw) (v : Mv) (h0 : Nat) (x_0 : Int32) (x_1 : Int32) : Int32 :=
  K_X6_fitsNotes_2 G w h0 7 v x_0 x_1 (0 : Int32)
def F_X6_fitsNotes (G : Gm) (w : Mw) (v : Mv) (h0 : Nat) (x_0 : Int32) (x_1 : Int32) : Int32 := K_X6_fitsNotes_e G w v h0 x_0 x_1
set_option maxRecDepth 100000 in
theorem kx_X6_fitsNotes_1 {G : Gm} {w : Mw} {h0 : Nat} {rec2 : Mv → Int32 → Int32 → Int32 → Int32} {v : Mv} {x_0 : Int32} {x_1 : Int32} {x3 : Int32} {x8 : Int32} (a0 : x8 = x3 + (1 : Int32))  : K_X6_fitsNotes_62 G w h0 rec2 v x_0 x_1 x3 = rec2 v x_0 x_1 x8 := by
  subst a0; first | rw [K_X6_fitsNotes_62] | simp only [K_X6_fitsNotes_62]
set_option maxRecDepth 100000 in
theorem kx_X6_fitsNotes_2 {G : Gm} {w : Mw} {h0 : Nat} {n2 : Nat} {v : Mv} {x_0 : Int32} {x_1 : Int32} {x3 : Int32} {x11 : Int32} (a0 : x11 = v (rf G h0 10) 2) (k0 : x11 ≤ x3) : K_X6_fitsNotes_2 G w h0 (n2 + 1) v x_0 x_1 x3 = (1 : Int32) := by
  subst a0; first | rw [K_X6_fitsNotes_2, if_pos k0] | simp only [K_X6_fitsNotes_2, if_pos k0]
set_option maxRecDepth 100000 in
theorem kx_X6_fitsNotes_3 {G : Gm} {w : Mw} {h0 : Nat} {n2 : Nat} {v : Mv} {x_0 : Int32} {x_1 : Int32} {x3 : Int32} {x11 : Int32} {x20 : Int32} (a0 : x11 = v (rf G h0 10) 2) (a1 : x20 = F_X4_cell_6 G w v (rf G h0 10) x3 (0 : Int32)) (k0 : ¬ (x11 ≤ x3)) (k1 : ¬ (x20 = x_0)) : K_X6_fitsNotes_2 G w h0 (n2 + 1) v x_0 x_1 x3 = K_X6_fitsNotes_62 G w h0 (K_X6_fitsNotes_2 G w h0 n2) v x_0 x_1 x3 := by
  subst a1; subst a0; first | rw [K_X6_fitsNotes_2, if_neg k0, if_neg k1] | simp only [K_X6_fitsNotes_2, if_neg k0, if_neg k1]
set_option maxRecDepth 100000 in
theorem kx_X6_fitsNotes_4 {G : Gm} {w : Mw} {h0 : Nat} {n2 : Nat} {v : Mv} {x_0 : Int32} {x_1 : Int32} {x3 : Int32} {x32 : Int32} {x37 : Int32} {x11 : Int32} {x20 : Int32} {x27 : Int32} {x42 : Int32} (a0 : x11 = v (rf G h0 10) 2) (a1 : x20 = F_X4_cell_6 G w v (rf G h0 10) x3 (0 : Int32)) (a2 : x27 = F_X4_cell_6 G w v (rf G h0 10) x3 (3 : Int32)) (a3 : x32 = F_X4_cell_6 G w v (rf G h0 10) x3 (1 : Int32)) (a4 : x37 = F_X4_cell_6 G w v (rf G h0 10) x3 (2 : Int32)) (a5 : x42 = F_X5_thingWeighs G w v x_1 x32 x37) (k0 : ¬ (x11 ≤ x3)) (k1 : x20 = x_0) (k2 : x27 = x42) : K_X6_fitsNotes_2 G w h0 (n2 + 1) v x_0 x_1 x3 = K_X6_fitsNotes_62 G w h0 (K_X6_fitsNotes_2 G w h0 n2) v x_0 x_1 x3 := by
  subst a5; subst a4; subst a3; subst a2; subst a1; subst a0; first | rw [K_X6_fitsNotes_2, if_neg k0, if_pos k1, if_pos k2] | simp only [K_X6_fitsNotes_2, if_neg k0, if_pos k1, if_pos k2]
set_option maxRecDepth 100000 in
theorem kx_X6_fitsNotes_5 {G : Gm} {w : Mw} {h0 : Nat} {n2 : Nat} {v : Mv} {x_0 : Int32} {x_1 : Int32} {x3 : Int32} {x32 : Int32} {x37 : Int32} {x11 : Int32} {x20 : Int32} {x27 : Int32} {x42 : Int32} (a0 : x11 = v (rf G h0 10) 2) (a1 : x20 = F_X4_cell_6 G w v (rf G h0 10) x3 (0 : Int32)) (a2 : x27 = F_X4_cell_6 G w v (rf G h0 10) x3 (3 : Int32)) (a3 : x32 = F_X4_cell_6 G w v (rf G h0 10) x3 (1 : Int32)) (a4 : x37 = F_X4_cell_6 G w v (rf G h0 10) x3 (2 : Int32)) (a5 : x42 = F_X5_thingWeighs G w v x_1 x32 x37) (k0 : ¬ (x11 ≤ x3)) (k1 : x20 = x_0) (k2 : ¬ (x27 = x42)) : K_X6_fitsNotes_2 G w h0 (n2 + 1) v x_0 x_1 x3 = (0 : Int32) := by
  subst a5; subst a4; subst a3; subst a2; subst a1; subst a0; first | rw [K_X6_fitsNotes_2, if_neg k0, if_pos k1, if_neg k2] | simp only [K_X6_fitsNotes_2, if_neg k0, if_pos k1, if_neg k2]
set_option maxRecDepth 100000 in
theorem kx_X6_fitsNotes_6 {G : Gm} {w : Mw} {v : Mv} {h0 : Nat} {x_0 : Int32} {x_1 : Int32}   : K_X6_fitsNotes_e G w v h0 x_0 x_1 = K_X6_fitsNotes_2 G w h0 7 v x_0 x_1 (0 : Int32) := by
  first | rw [K_X6_fitsNotes_e] | simp only [K_X6_fitsNotes_e]
abbrev rm_X6_fitsNotes : Room := { frames := 2, cells := 0, slots := 0, locals := 43 }
set_option maxHeartbeats 4000000 in
set_option maxRecDepth 100000 in
theorem ct_X6_fitsNotes (l : Launch) (D : va_G) (dA : Nat → ClassId) (G : Gm) (v : Mv) (w : Mw) (hOk : Ok G v w) (h0 : Nat) (S0 : S_X6 G h0) (x_0 : Int32) (bx_0 : Bd x_0 0 6) (x_1 : Int32) (bx_1 : Bd x_1 0 5) : CtI l yX6_fitsNotes cX6_fitsNotes 4 (some .boolean) rm_X6_fitsNotes D dA G [.ref h0, .int x_0, .int x_1] v w (fun r v1 w1 => v1 = v ∧ w1 = w ∧ Bd r 0 1 ∧ r = F_X6_fitsNotes G w v h0 x_0 x_1) := by
  refine CtI.of RX6 [(0, .ref h0), (1, .int x_0), (2, .int x_1)] (Nat.le_of_ble_eq_true rfl) rfl (by decide) rfl ?_
  intro p e s m args below meth c E hr
  have J2 : ∀ n2 : Nat, Bd x_0 0 6 → Bd x_1 0 5 → ∀ x3 : Int32, Bd x3 0 6 → Mu x3 6 n2 → K_X6_fitsNotes_2 G w h0 n2 v x_0 x_1 x3 = F_X6_fitsNotes G w v h0 x_0 x_1 → J p l e rm_X6_fitsNotes s m args below meth c 0 0 (MQ below (QcI D dA G (fun r v1 w1 => v1 = v ∧ w1 = w ∧ Bd r 0 1 ∧ r = F_X6_fitsNotes G w v h0 x_0 x_1)) args s 0 0 (dm G)) D dA G (dm G) s.heap 4 v w [(0, .ref h0), (1, .int x_0), (2, .int x_1), (3, .int x3)] 2 [] := by
    intro n2
    induction n2 with
    | zero => intro b1 b2 x3 b4 hm hK; exact hm.zero b4 (by decide)
    | succ n2 ih2 =>
      intro b1 b2 x3 b4 hmu2 hK
      have J62 : Bd x_0 0 6 → Bd x_1 0 5 → Bd x3 0 5 → K_X6_fitsNotes_62 G w h0 (K_X6_fitsNotes_2 G w h0 n2) v x_0 x_1 x3 = F_X6_fitsNotes G w v h0 x_0 x_1 → J p l e rm_X6_fitsNotes s m args below meth c 0 0 (MQ below (QcI D dA G (fun r v1 w1 => v1 = v ∧ w1 = w ∧ Bd r 0 1 ∧ r = F_X6_fitsNotes G w v h0 x_0 x_1)) args s 0 0 (dm G)) D dA G (dm G) s.heap 4 v w [(0, .ref h0), (1, .int x_0), (2, .int x_1), (3, .int x3)] 62 [] := by
        intro b5 b6 b7 hK
        refine J_iinc E 3 1 (fun z => [(3, .int z), (0, .ref h0), (1, .int x_0), (2, .int x_1)]) dX6_fitsNotes_62 rfl (by decide) (by decide) (fun _ => rfl) (fun x8 e9 => ?_)
        have b10 : Bd x8 1 6 := (Bd.add e9 b7 (Bd.lit 1 1 (by decide)) (by decide)).w _ _ (by decide)
        refine J_goto E 2 dX6_fitsNotes_65 (by decide) ?_
        exact J.sub [1, 2, 3, 0] rfl (ih2 b5 b6 x8 (b10.w 0 6 (by decide)) (Mu.step hmu2 e9 b7 (Bd.lit 1 1 (by decide)) (by decide)) ((kx_X6_fitsNotes_1 (e9)).symm.trans hK))
      refine J_iload_n E dX6_fitsNotes_2 3 rfl ?_
      refine J_aload_n E dX6_fitsNotes_3 0 rfl ?_
      refine J_getR E in_X6 rfl (S_X6.h S0) 10 (by decide) wd215 rfl dX6_fitsNotes_4 ?_
      refine J_getIN E in_X4 rfl (S_X4.h (S_X6.f10 S0)) 2 (by decide) wd182 rfl dX6_fitsNotes_7 (fun x11 e12 => ?_)
      have b13 : Bd x11 0 6 := Ok.fd hOk e12 (S_X4.h (S_X6.f10 S0)) rfl
      refine J_icmp_ge E 68 dX6_fitsNotes_10 (by decide) (fun c14 => ?_) (fun c14 => ?_)
      · refine J_iconst E 1 dX6_fitsNotes_68 (by decide) ?_
        exact J_zret E hr (Bd.z (Bd.lit 1 1 (by decide)) (by decide)) dX6_fitsNotes_69 ⟨rfl, rfl, ((Bd.lit 1 1 (by decide)).w 0 1 (by decide)), ((kx_X6_fitsNotes_2 (e12) (c14)).symm.trans hK)⟩
      · have b15 : Bd x3 0 5 := Bd.lt_l (nle c14) b4 b13 5 (by decide)
        have b16 : Bd x11 1 6 := Bd.lt_r (nle c14) b4 b13 1 (by decide)
        refine J_aload_n E dX6_fitsNotes_13 0 rfl ?_
        refine J_getR E in_X6 rfl (S_X6.h S0) 10 (by decide) wd215 rfl dX6_fitsNotes_14 ?_
        refine J_iload_n E dX6_fitsNotes_17 3 rfl ?_
        refine J_iconst E 0 dX6_fitsNotes_18 (by decide) ?_
        refine J_callVNI E cal_X4_cell wd751 rfl (S_X4.h (S_X6.f10 S0)) [.int x3, .int 0] [] (ct_X4_cell_6 l D dA G v w (hOk) (rf G h0 10) (S_X6.f10 S0) x3 b15 0 ((Bd.lit 0 0 (by decide)).w 0 3 (by decide))) rfl rfl (Nat.le_of_ble_eq_true rfl) ⟨rfl, rfl⟩ ⟨Nat.le_of_ble_eq_true rfl, Nat.le_of_ble_eq_true rfl⟩ dX6_fitsNotes_19 (fun x20 v17 w18 p19 => ?_)
        rw [p19.1, p19.2.1]
        have e21 : x20 = F_X4_cell_6 G w v (rf G h0 10) x3 (0 : Int32) := (p19.2.2.2)
        refine J_iload_n E dX6_fitsNotes_22 1 rfl ?_
        refine J_icmp_ne E 62 dX6_fitsNotes_23 (by decide) (fun c22 => ?_) (fun c22 => ?_)
        · exact J.sub [0, 1, 2, 3] rfl (J62 b1 b2 b15 ((kx_X6_fitsNotes_3 (e12) (e21) (c14) (c22)).symm.trans hK))
        · have b23 : Bd x20 0 6 := Bd.eq_l c22 (Bd.any x20) b1 0 6 (by decide)
          refine J_aload_n E dX6_fitsNotes_26 0 rfl ?_
          refine J_getR E in_X6 rfl (S_X6.h S0) 10 (by decide) wd215 rfl dX6_fitsNotes_27 ?_
          refine J_iload_n E dX6_fitsNotes_30 3 rfl ?_
          refine J_iconst E 3 dX6_fitsNotes_31 (by decide) ?_
          refine J_callVNI E cal_X4_cell wd751 rfl (S_X4.h (S_X6.f10 S0)) [.int x3, .int 3] [] (ct_X4_cell_6 l D dA G v w (hOk) (rf G h0 10) (S_X6.f10 S0) x3 b15 3 ((Bd.lit 3 3 (by decide)).w 0 3 (by decide))) rfl rfl (Nat.le_of_ble_eq_true rfl) ⟨rfl, rfl⟩ ⟨Nat.le_of_ble_eq_true rfl, Nat.le_of_ble_eq_true rfl⟩ dX6_fitsNotes_32 (fun x27 v24 w25 p26 => ?_)
          rw [p26.1, p26.2.1]
          have e28 : x27 = F_X4_cell_6 G w v (rf G h0 10) x3 (3 : Int32) := (p26.2.2.2)
          refine J_iload_n E dX6_fitsNotes_35 2 rfl ?_
          refine J_aload_n E dX6_fitsNotes_36 0 rfl ?_
          refine J_getR E in_X6 rfl (S_X6.h S0) 10 (by decide) wd215 rfl dX6_fitsNotes_37 ?_
          refine J_iload_n E dX6_fitsNotes_40 3 rfl ?_
          refine J_iconst E 1 dX6_fitsNotes_41 (by decide) ?_
          refine J_callVNI E cal_X4_cell wd751 rfl (S_X4.h (S_X6.f10 S0)) [.int x3, .int 1] [.int x_1, .int x27] (ct_X4_cell_6 l D dA G v w (hOk) (rf G h0 10) (S_X6.f10 S0) x3 b15 1 ((Bd.lit 1 1 (by decide)).w 0 3 (by decide))) rfl rfl (Nat.le_of_ble_eq_true rfl) ⟨rfl, rfl⟩ ⟨Nat.le_of_ble_eq_true rfl, Nat.le_of_ble_eq_true rfl⟩ dX6_fitsNotes_42 (fun x32 v29 w30 p31 => ?_)
          rw [p31.1, p31.2.1]
          have e33 : x32 = F_X4_cell_6 G w v (rf G h0 10) x3 (1 : Int32) := (p31.2.2.2)
          refine J_aload_n E dX6_fitsNotes_45 0 rfl ?_
          refine J_getR E in_X6 rfl (S_X6.h S0) 10 (by decide) wd215 rfl dX6_fitsNotes_46 ?_
          refine J_iload_n E dX6_fitsNotes_49 3 rfl ?_
          refine J_iconst E 2 dX6_fitsNotes_50 (by decide) ?_
          refine J_callVNI E cal_X4_cell wd751 rfl (S_X4.h (S_X6.f10 S0)) [.int x3, .int 2] [.int x32, .int x_1, .int x27] (ct_X4_cell_6 l D dA G v w (hOk) (rf G h0 10) (S_X6.f10 S0) x3 b15 2 ((Bd.lit 2 2 (by decide)).w 0 3 (by decide))) rfl rfl (Nat.le_of_ble_eq_true rfl) ⟨rfl, rfl⟩ ⟨Nat.le_of_ble_eq_true rfl, Nat.le_of_ble_eq_true rfl⟩ dX6_fitsNotes_51 (fun x37 v34 w35 p36 => ?_)
          rw [p36.1, p36.2.1]
          have e38 : x37 = F_X4_cell_6 G w v (rf G h0 10) x3 (2 : Int32) := (p36.2.2.2)
          refine J_callSNI E cal_X5_thingWeighs wd530 [.int x_1, .int x32, .int x37] [.int x27] (ct_X5_thingWeighs l D dA G v w (hOk) x_1 x32 x37) rfl rfl (Nat.le_of_ble_eq_true rfl) ⟨rfl, rfl⟩ ⟨Nat.le_of_ble_eq_true rfl, Nat.le_of_ble_eq_true rfl⟩ dX6_fitsNotes_54 (fun x42 v39 w40 p41 => ?_)
          rw [p41.1, p41.2.1]
          have e43 : x42 = F_X5_thingWeighs G w v x_1 x32 x37 := (p41.2.2.2)
          refine J_icmp_eq E 62 dX6_fitsNotes_57 (by decide) (fun c44 => ?_) (fun c44 => ?_)
          · exact J.sub [0, 1, 2, 3] rfl (J62 b1 b2 b15 ((kx_X6_fitsNotes_4 (e12) (e21) (e28) (e33) (e38) (e43) (c14) (c22) (c44)).symm.trans hK))
          · refine J_iconst E 0 dX6_fitsNotes_60 (by decide) ?_
            exact J_zret E hr (Bd.z (Bd.lit 0 0 (by decide)) (by decide)) dX6_fitsNotes_61 ⟨rfl, rfl, ((Bd.lit 0 0 (by decide)).w 0 1 (by decide)), ((kx_X6_fitsNotes_5 (e12) (e21) (e28) (e33) (e38) (e43) (c14) (c22) (c44)).symm.trans hK)⟩
  have hK : K_X6_fitsNotes_e G w v h0 x_0 x_1 = F_X6_fitsNotes G w v h0 x_0 x_1 := rfl
  refine J_iconst E 0 dX6_fitsNotes_0 (by decide) ?_
  refine J_istore_n E [(3, .int 0), (0, .ref h0), (1, .int x_0), (2, .int x_1)] dX6_fitsNotes_1 rfl (by decide) rfl ?_
  exact J.sub [1, 2, 3, 0] rfl (J2 7 bx_0 bx_1 0 ((Bd.lit 0 0 (by decide)).w 0 6 (by decide)) (Mu.start _ (Bd.lit 0 0 (by decide)) (by decide)) ((kx_X6_fitsNotes_6).symm.trans hK))

def K_X6_fittingThingKinds_25 (G : Gm) (w : Mw) (h0 : Nat) (rec4 : Mv → Int32 → Int32 → Int32 → Int32) (v : Mv) (x_0 : Int32) (x7 : Int32) (x4 : Int32) : Int32 :=
  rec4 v x_0 x7 (x4 + (1 : Int32))
def K_X6_fittingThingKinds_4 (G : Gm) (w : Mw) (h0 : Nat) : Nat → Mv → Int32 → Int32 → Int32 → Int32
  | 0, _, _, _, _ => (0 : Int32)
  | n4 + 1, v, x_0, x2, x4 =>
    if (6 : Int32) ≤ x4 then (x2) else (if (F_X6_fitsNotes G w v h0 x_0 x4) = (0 : Int32) then (K_X6_fittingThingKinds_25 G w h0 (K_X6_fittingThingKinds_4 G w h0 n4) v x_0 x2 x4) else (K_X6_fittingThingKinds_25 G w h0 (K_X6_fittingThingKinds_4 G w h0 n4) v x_0 (x2 ||| ((1 : Int32) <<< (x4 &&& 31))) x4))
def K_X6_fittingThingKinds_e (G : Gm) (w : Mw) (v : Mv) (h0 : Nat) (x_0 : Int32) : Int32 :=
  K_X6_fittingThingKinds_4 G w h0 7 v x_0 (0 : Int32) (0 : Int32)
def F_X6_fittingThingKinds (G : Gm) (w : Mw) (v : Mv) (h0 : Nat) (x_0 : Int32) : Int32 := K_X6_fittingThingKinds_e G w v h0 x_0
set_option maxRecDepth 100000 in
theorem kx_X6_fittingThingKinds_1 {G : Gm} {w : Mw} {h0 : Nat} {rec4 : Mv → Int32 → Int32 → Int32 → Int32} {v : Mv} {x_0 : Int32} {x7 : Int32} {x4 : Int32} {x10 : Int32} (a0 : x10 = x4 + (1 : Int32))  : K_X6_fittingThingKinds_25 G w h0 rec4 v x_0 x7 x4 = rec4 v x_0 x7 x10 := by
  subst a0; first | rw [K_X6_fittingThingKinds_25] | simp only [K_X6_fittingThingKinds_25]
set_option maxRecDepth 100000 in
theorem kx_X6_fittingThingKinds_2 {G : Gm} {w : Mw} {h0 : Nat} {n4 : Nat} {v : Mv} {x_0 : Int32} {x2 : Int32} {x4 : Int32}  (k0 : (6 : Int32) ≤ x4) : K_X6_fittingThingKinds_4 G w h0 (n4 + 1) v x_0 x2 x4 = x2 := by
  first | rw [K_X6_fittingThingKinds_4, if_pos k0] | simp only [K_X6_fittingThingKinds_4, if_pos k0]
set_option maxRecDepth 100000 in
theorem kx_X6_fittingThingKinds_3 {G : Gm} {w : Mw} {h0 : Nat} {n4 : Nat} {v : Mv} {x_0 : Int32} {x2 : Int32} {x4 : Int32} {x19 : Int32} (a0 : x19 = F_X6_fitsNotes G w v h0 x_0 x4) (k0 : ¬ ((6 : Int32) ≤ x4)) (k1 : x19 = (0 : Int32)) : K_X6_fittingThingKinds_4 G w h0 (n4 + 1) v x_0 x2 x4 = K_X6_fittingThingKinds_25 G w h0 (K_X6_fittingThingKinds_4 G w h0 n4) v x_0 x2 x4 := by
  subst a0; first | rw [K_X6_fittingThingKinds_4, if_neg k0, if_pos k1] | simp only [K_X6_fittingThingKinds_4, if_neg k0, if_pos k1]
set_option maxRecDepth 100000 in
theorem kx_X6_fittingThingKinds_4 {G : Gm} {w : Mw} {h0 : Nat} {n4 : Nat} {v : Mv} {x_0 : Int32} {x2 : Int32} {x4 : Int32} {x28 : Int32} {x25 : Int32} {x19 : Int32} (a0 : x19 = F_X6_fitsNotes G w v h0 x_0 x4) (a1 : x25 = (1 : Int32) <<< (x4 &&& 31)) (a2 : x28 = x2 ||| x25) (k0 : ¬ ((6 : Int32) ≤ x4)) (k1 : ¬ (x19 = (0 : Int32))) : K_X6_fittingThingKinds_4 G w h0 (n4 + 1) v x_0 x2 x4 = K_X6_fittingThingKinds_25 G w h0 (K_X6_fittingThingKinds_4 G w h0 n4) v x_0 x28 x4 := by
  subst a2; subst a1; subst a0; first | rw [K_X6_fittingThingKinds_4, if_neg k0, if_neg k1] | simp only [K_X6_fittingThingKinds_4, if_neg k0, if_neg k1]
set_option maxRecDepth 100000 in
theorem kx_X6_fittingThingKinds_5 {G : Gm} {w : Mw} {v : Mv} {h0 : Nat} {x_0 : Int32}   : K_X6_fittingThingKinds_e G w v h0 x_0 = K_X6_fittingThingKinds_4 G w h0 7 v x_0 (0 : Int32) (0 : Int32) := by
  first | rw [K_X6_fittingThingKinds_e] | simp only [K_X6_fittingThingKinds_e]
abbrev rm_X6_fittingThingKinds : Room := { frames := 3, cells := 0, slots := 0, locals := 66 }
set_option maxHeartbeats 4000000 in
set_option maxRecDepth 100000 in
theorem ct_X6_fittingThingKinds (l : Launch) (D : va_G) (dA : Nat → ClassId) (G : Gm) (v : Mv) (w : Mw) (hOk : Ok G v w) (h0 : Nat) (S0 : S_X6 G h0) (x_0 : Int32) (bx_0 : Bd x_0 0 6) : CtI l yX6_fittingThingKinds cX6_fittingThingKinds 4 (some .int) rm_X6_fittingThingKinds D dA G [.ref h0, .int x_0] v w (fun r v1 w1 => v1 = v ∧ w1 = w ∧ Bd r 0 63 ∧ r = F_X6_fittingThingKinds G w v h0 x_0) := by
  refine CtI.of RX6 [(0, .ref h0), (1, .int x_0)] (Nat.le_of_ble_eq_true rfl) rfl (by decide) rfl ?_
  intro p e s m args below meth c E hr
  have J4 : ∀ n4 : Nat, Bd x_0 0 6 → ∀ x2 : Int32, Bd x2 0 63 → ∀ x4 : Int32, Bd x4 0 6 → Mu x4 6 n4 → K_X6_fittingThingKinds_4 G w h0 n4 v x_0 x2 x4 = F_X6_fittingThingKinds G w v h0 x_0 → J p l e rm_X6_fittingThingKinds s m args below meth c 0 0 (MQ below (QcI D dA G (fun r v1 w1 => v1 = v ∧ w1 = w ∧ Bd r 0 63 ∧ r = F_X6_fittingThingKinds G w v h0 x_0)) args s 0 0 (dm G)) D dA G (dm G) s.heap 4 v w [(0, .ref h0), (1, .int x_0), (2, .int x2), (3, .int x4)] 4 [] := by
    intro n4
    induction n4 with
    | zero => intro b1 x2 b3 x4 b5 hm hK; exact hm.zero b5 (by decide)
    | succ n4 ih4 =>
      intro b1 x2 b3 x4 b5 hmu4 hK
      have J25 : Bd x_0 0 6 → ∀ x7 : Int32, Bd x7 0 63 → Bd x4 0 5 → K_X6_fittingThingKinds_25 G w h0 (K_X6_fittingThingKinds_4 G w h0 n4) v x_0 x7 x4 = F_X6_fittingThingKinds G w v h0 x_0 → J p l e rm_X6_fittingThingKinds s m args below meth c 0 0 (MQ below (QcI D dA G (fun r v1 w1 => v1 = v ∧ w1 = w ∧ Bd r 0 63 ∧ r = F_X6_fittingThingKinds G w v h0 x_0)) args s 0 0 (dm G)) D dA G (dm G) s.heap 4 v w [(0, .ref h0), (1, .int x_0), (2, .int x7), (3, .int x4)] 25 [] := by
        intro b6 x7 b8 b9 hK
        refine J_iinc E 3 1 (fun z => [(3, .int z), (0, .ref h0), (1, .int x_0), (2, .int x7)]) dX6_fittingThingKinds_25 rfl (by decide) (by decide) (fun _ => rfl) (fun x10 e11 => ?_)
        have b12 : Bd x10 1 6 := (Bd.add e11 b9 (Bd.lit 1 1 (by decide)) (by decide)).w _ _ (by decide)
        refine J_goto E 4 dX6_fittingThingKinds_28 (by decide) ?_
        exact J.sub [1, 2, 3, 0] rfl (ih4 b6 x7 b8 x10 (b12.w 0 6 (by decide)) (Mu.step hmu4 e11 b9 (Bd.lit 1 1 (by decide)) (by decide)) ((kx_X6_fittingThingKinds_1 (e11)).symm.trans hK))
      refine J_iload_n E dX6_fittingThingKinds_4 3 rfl ?_
      refine J_bipush E 6 dX6_fittingThingKinds_5 (by decide) ?_
      refine J_icmp_ge E 31 dX6_fittingThingKinds_7 (by decide) (fun c13 => ?_) (fun c13 => ?_)
      · have b14 : Bd x4 6 6 := Bd.le_r c13 (Bd.lit 6 6 (by decide)) b5 6 (by decide)
        refine J_iload_n E dX6_fittingThingKinds_31 2 rfl ?_
        exact J_iret E hr dX6_fittingThingKinds_32 ⟨rfl, rfl, b3, ((kx_X6_fittingThingKinds_2 (c13)).symm.trans hK)⟩
      · have b15 : Bd x4 0 5 := Bd.lt_l (nle c13) b5 (Bd.lit 6 6 (by decide)) 5 (by decide)
        refine J_aload_n E dX6_fittingThingKinds_10 0 rfl ?_
        refine J_iload_n E dX6_fittingThingKinds_11 1 rfl ?_
        refine J_iload_n E dX6_fittingThingKinds_12 3 rfl ?_
        refine J_callVI E cal_X6_fitsNotes wd801 rfl (S_X6.h S0) [.int x_0, .int x4] [] (ct_X6_fitsNotes l D dA G v w (hOk) h0 S0 x_0 b1 x4 b15) rfl rfl (Nat.le_of_ble_eq_true rfl) ⟨rfl, rfl⟩ ⟨Nat.le_of_ble_eq_true rfl, Nat.le_of_ble_eq_true rfl⟩ dX6_fittingThingKinds_13 (fun x19 v16 w17 p18 => ?_)
        rw [p18.1, p18.2.1]
        have b20 : Bd x19 0 1 := p18.2.2.1
        have e21 : x19 = F_X6_fitsNotes G w v h0 x_0 x4 := (p18.2.2.2)
        refine J_if_eq E 25 dX6_fittingThingKinds_16 (by decide) (fun c22 => ?_) (fun c22 => ?_)
        · have b23 : Bd x19 0 0 := Bd.eq_l c22 b20 (Bd.lit 0 0 (by decide)) 0 0 (by decide)
          exact J.sub [0, 1, 2, 3] rfl (J25 b1 x2 b3 b15 ((kx_X6_fittingThingKinds_3 (e21) (c13) (c22)).symm.trans hK))
        · have b24 : Bd x19 1 1 := (Bd.ne_lo c22 b20 (Bd.lit 0 0 (by decide))).w _ _ (by decide)
          refine J_iload_n E dX6_fittingThingKinds_19 2 rfl ?_
          refine J_iconst E 1 dX6_fittingThingKinds_20 (by decide) ?_
          refine J_iload_n E dX6_fittingThingKinds_21 3 rfl ?_
          refine J_ishl E dX6_fittingThingKinds_22 (fun x25 e26 => ?_)
          have b27 : Bd x25 1 32 := Bd.shl1 e26 b15 5 (by decide)
          refine J_ior E dX6_fittingThingKinds_23 (fun x28 e29 => ?_)
          have b30 : Bd x28 0 63 := Bd.or e29 b3 b27 6 (by decide)
          refine J_istore_n E [(2, .int x28), (0, .ref h0), (1, .int x_0), (3, .int x4)] dX6_fittingThingKinds_24 rfl (by decide) rfl ?_
          exact J.sub [1, 2, 0, 3] rfl (J25 b1 x28 b30 b15 ((kx_X6_fittingThingKinds_4 (e21) (e26) (e29) (c13) (c22)).symm.trans hK))
  have hK : K_X6_fittingThingKinds_e G w v h0 x_0 = F_X6_fittingThingKinds G w v h0 x_0 := rfl
  refine J_iconst E 0 dX6_fittingThingKinds_0 (by decide) ?_
  refine J_istore_n E [(2, .int 0), (0, .ref h0), (1, .int x_0)] dX6_fittingThingKinds_1 rfl (by decide) rfl ?_
  refine J_iconst E 0 dX6_fittingThingKinds_2 (by decide) ?_
  refine J_istore_n E [(3, .int 0), (2, .int 0), (0, .ref h0), (1, .int x_0)] dX6_fittingThingKinds_3 rfl (by decide) rfl ?_
  exact J.sub [2, 3, 1, 0] rfl (J4 7 bx_0 0 ((Bd.lit 0 0 (by decide)).w 0 63 (by decide)) 0 ((Bd.lit 0 0 (by decide)).w 0 6 (by decide)) (Mu.start _ (Bd.lit 0 0 (by decide)) (by decide)) ((kx_X6_fittingThingKinds_5).symm.trans hK))

def K_X6_fitsMarks_62 (G : Gm) (w : Mw) (h0 : Nat) (rec2 : Mv → Int32 → Int32 → Int32 → Int32) (v : Mv) (x_0 : Int32) (x_1 : Int32) (x3 : Int32) : Int32 :=
  rec2 v x_0 x_1 (x3 + (1 : Int32))
def K_X6_fitsMarks_2 (G : Gm) (w : Mw) (h0 : Nat) : Nat → Mv → Int32 → Int32 → Int32 → Int32
  | 0, _, _, _, _ => (0 : Int32)
  | n2 + 1, v, x_0, x_1, x3 =>
    if (v (rf G h0 11) 2) ≤ x3 then ((1 : Int32)) else (if (F_X4_cell_6 G w v (rf G h0 11) x3 (0 : Int32)) = x_0 then (if (F_X4_cell_6 G w v (rf G h0 11) x3 (3 : Int32)) = (F_X5_oneLifts G w v x_1 (F_X4_cell_6 G w v (rf G h0 11) x3 (1 : Int32)) (F_X4_cell_6 G w v (rf G h0 11) x3 (2 : Int32))) then (K_X6_fitsMarks_62 G w h0 (K_X6_fitsMarks_2 G w h0 n2) v x_0 x_1 x3) else ((0 : Int32))) else (K_X6_fitsMarks_62 G w h0 (K_X6_fitsMarks_2 G w h0 n2) v x_0 x_1 x3))
def K_X6_fitsMarks_e (G : Gm) (w : Mw) (v : Mv) (h0 : Nat) (x_0 : Int32) (x_1 : Int32) : Int32 :=
  K_X6_fitsMarks_2 G w h0 7 v x_0 x_1 (0 : Int32)
def F_X6_fitsMarks (G : Gm) (w : Mw) (v : Mv) (h0 : Nat) (x_0 : Int32) (x_1 : Int32) : Int32 := K_X6_fitsMarks_e G w v h0 x_0 x_1
set_option maxRecDepth 100000 in
theorem kx_X6_fitsMarks_1 {G : Gm} {w : Mw} {h0 : Nat} {rec2 : Mv → Int32 → Int32 → Int32 → Int32} {v : Mv} {x_0 : Int32} {x_1 : Int32} {x3 : Int32} {x8 : Int32} (a0 : x8 = x3 + (1 : Int32))  : K_X6_fitsMarks_62 G w h0 rec2 v x_0 x_1 x3 = rec2 v x_0 x_1 x8 := by
  subst a0; first | rw [K_X6_fitsMarks_62] | simp only [K_X6_fitsMarks_62]
set_option maxRecDepth 100000 in
theorem kx_X6_fitsMarks_2 {G : Gm} {w : Mw} {h0 : Nat} {n2 : Nat} {v : Mv} {x_0 : Int32} {x_1 : Int32} {x3 : Int32} {x11 : Int32} (a0 : x11 = v (rf G h0 11) 2) (k0 : x11 ≤ x3) : K_X6_fitsMarks_2 G w h0 (n2 + 1) v x_0 x_1 x3 = (1 : Int32) := by
  subst a0; first | rw [K_X6_fitsMarks_2, if_pos k0] | simp only [K_X6_fitsMarks_2, if_pos k0]
set_option maxRecDepth 100000 in
theorem kx_X6_fitsMarks_3 {G : Gm} {w : Mw} {h0 : Nat} {n2 : Nat} {v : Mv} {x_0 : Int32} {x_1 : Int32} {x3 : Int32} {x11 : Int32} {x20 : Int32} (a0 : x11 = v (rf G h0 11) 2) (a1 : x20 = F_X4_cell_6 G w v (rf G h0 11) x3 (0 : Int32)) (k0 : ¬ (x11 ≤ x3)) (k1 : ¬ (x20 = x_0)) : K_X6_fitsMarks_2 G w h0 (n2 + 1) v x_0 x_1 x3 = K_X6_fitsMarks_62 G w h0 (K_X6_fitsMarks_2 G w h0 n2) v x_0 x_1 x3 := by
  subst a1; subst a0; first | rw [K_X6_fitsMarks_2, if_neg k0, if_neg k1] | simp only [K_X6_fitsMarks_2, if_neg k0, if_neg k1]
set_option maxRecDepth 100000 in
theorem kx_X6_fitsMarks_4 {G : Gm} {w : Mw} {h0 : Nat} {n2 : Nat} {v : Mv} {x_0 : Int32} {x_1 : Int32} {x3 : Int32} {x32 : Int32} {x37 : Int32} {x11 : Int32} {x20 : Int32} {x27 : Int32} {x42 : Int32} (a0 : x11 = v (rf G h0 11) 2) (a1 : x20 = F_X4_cell_6 G w v (rf G h0 11) x3 (0 : Int32)) (a2 : x27 = F_X4_cell_6 G w v (rf G h0 11) x3 (3 : Int32)) (a3 : x32 = F_X4_cell_6 G w v (rf G h0 11) x3 (1 : Int32)) (a4 : x37 = F_X4_cell_6 G w v (rf G h0 11) x3 (2 : Int32)) (a5 : x42 = F_X5_oneLifts G w v x_1 x32 x37) (k0 : ¬ (x11 ≤ x3)) (k1 : x20 = x_0) (k2 : x27 = x42) : K_X6_fitsMarks_2 G w h0 (n2 + 1) v x_0 x_1 x3 = K_X6_fitsMarks_62 G w h0 (K_X6_fitsMarks_2 G w h0 n2) v x_0 x_1 x3 := by
  subst a5; subst a4; subst a3; subst a2; subst a1; subst a0; first | rw [K_X6_fitsMarks_2, if_neg k0, if_pos k1, if_pos k2] | simp only [K_X6_fitsMarks_2, if_neg k0, if_pos k1, if_pos k2]
set_option maxRecDepth 100000 in
theorem kx_X6_fitsMarks_5 {G : Gm} {w : Mw} {h0 : Nat} {n2 : Nat} {v : Mv} {x_0 : Int32} {x_1 : Int32} {x3 : Int32} {x32 : Int32} {x37 : Int32} {x11 : Int32} {x20 : Int32} {x27 : Int32} {x42 : Int32} (a0 : x11 = v (rf G h0 11) 2) (a1 : x20 = F_X4_cell_6 G w v (rf G h0 11) x3 (0 : Int32)) (a2 : x27 = F_X4_cell_6 G w v (rf G h0 11) x3 (3 : Int32)) (a3 : x32 = F_X4_cell_6 G w v (rf G h0 11) x3 (1 : Int32)) (a4 : x37 = F_X4_cell_6 G w v (rf G h0 11) x3 (2 : Int32)) (a5 : x42 = F_X5_oneLifts G w v x_1 x32 x37) (k0 : ¬ (x11 ≤ x3)) (k1 : x20 = x_0) (k2 : ¬ (x27 = x42)) : K_X6_fitsMarks_2 G w h0 (n2 + 1) v x_0 x_1 x3 = (0 : Int32) := by
  subst a5; subst a4; subst a3; subst a2; subst a1; subst a0; first | rw [K_X6_fitsMarks_2, if_neg k0, if_pos k1, if_neg k2] | simp only [K_X6_fitsMarks_2, if_neg k0, if_pos k1, if_neg k2]
set_option maxRecDepth 100000 in
theorem kx_X6_fitsMarks_6 {G : Gm} {w : Mw} {v : Mv} {h0 : Nat} {x_0 : Int32} {x_1 : Int32}   : K_X6_fitsMarks_e G w v h0 x_0 x_1 = K_X6_fitsMarks_2 G w h0 7 v x_0 x_1 (0 : Int32) := by
  first | rw [K_X6_fitsMarks_e] | simp only [K_X6_fitsMarks_e]
abbrev rm_X6_fitsMarks : Room := { frames := 2, cells := 0, slots := 0, locals := 44 }
set_option maxHeartbeats 4000000 in
set_option maxRecDepth 100000 in
theorem ct_X6_fitsMarks (l : Launch) (D : va_G) (dA : Nat → ClassId) (G : Gm) (v : Mv) (w : Mw) (hOk : Ok G v w) (h0 : Nat) (S0 : S_X6 G h0) (x_0 : Int32) (bx_0 : Bd x_0 0 6) (x_1 : Int32) (bx_1 : Bd x_1 0 5) : CtI l yX6_fitsMarks cX6_fitsMarks 4 (some .boolean) rm_X6_fitsMarks D dA G [.ref h0, .int x_0, .int x_1] v w (fun r v1 w1 => v1 = v ∧ w1 = w ∧ Bd r 0 1 ∧ r = F_X6_fitsMarks G w v h0 x_0 x_1) := by
  refine CtI.of RX6 [(0, .ref h0), (1, .int x_0), (2, .int x_1)] (Nat.le_of_ble_eq_true rfl) rfl (by decide) rfl ?_
  intro p e s m args below meth c E hr
  have J2 : ∀ n2 : Nat, Bd x_0 0 6 → Bd x_1 0 5 → ∀ x3 : Int32, Bd x3 0 6 → Mu x3 6 n2 → K_X6_fitsMarks_2 G w h0 n2 v x_0 x_1 x3 = F_X6_fitsMarks G w v h0 x_0 x_1 → J p l e rm_X6_fitsMarks s m args below meth c 0 0 (MQ below (QcI D dA G (fun r v1 w1 => v1 = v ∧ w1 = w ∧ Bd r 0 1 ∧ r = F_X6_fitsMarks G w v h0 x_0 x_1)) args s 0 0 (dm G)) D dA G (dm G) s.heap 4 v w [(0, .ref h0), (1, .int x_0), (2, .int x_1), (3, .int x3)] 2 [] := by
    intro n2
    induction n2 with
    | zero => intro b1 b2 x3 b4 hm hK; exact hm.zero b4 (by decide)
    | succ n2 ih2 =>
      intro b1 b2 x3 b4 hmu2 hK
      have J62 : Bd x_0 0 6 → Bd x_1 0 5 → Bd x3 0 5 → K_X6_fitsMarks_62 G w h0 (K_X6_fitsMarks_2 G w h0 n2) v x_0 x_1 x3 = F_X6_fitsMarks G w v h0 x_0 x_1 → J p l e rm_X6_fitsMarks s m args below meth c 0 0 (MQ below (QcI D dA G (fun r v1 w1 => v1 = v ∧ w1 = w ∧ Bd r 0 1 ∧ r = F_X6_fitsMarks G w v h0 x_0 x_1)) args s 0 0 (dm G)) D dA G (dm G) s.heap 4 v w [(0, .ref h0), (1, .int x_0), (2, .int x_1), (3, .int x3)] 62 [] := by
        intro b5 b6 b7 hK
        refine J_iinc E 3 1 (fun z => [(3, .int z), (0, .ref h0), (1, .int x_0), (2, .int x_1)]) dX6_fitsMarks_62 rfl (by decide) (by decide) (fun _ => rfl) (fun x8 e9 => ?_)
        have b10 : Bd x8 1 6 := (Bd.add e9 b7 (Bd.lit 1 1 (by decide)) (by decide)).w _ _ (by decide)
        refine J_goto E 2 dX6_fitsMarks_65 (by decide) ?_
        exact J.sub [1, 2, 3, 0] rfl (ih2 b5 b6 x8 (b10.w 0 6 (by decide)) (Mu.step hmu2 e9 b7 (Bd.lit 1 1 (by decide)) (by decide)) ((kx_X6_fitsMarks_1 (e9)).symm.trans hK))
      refine J_iload_n E dX6_fitsMarks_2 3 rfl ?_
      refine J_aload_n E dX6_fitsMarks_3 0 rfl ?_
      refine J_getR E in_X6 rfl (S_X6.h S0) 11 (by decide) wd217 rfl dX6_fitsMarks_4 ?_
      refine J_getIN E in_X4 rfl (S_X4.h (S_X6.f11 S0)) 2 (by decide) wd182 rfl dX6_fitsMarks_7 (fun x11 e12 => ?_)
      have b13 : Bd x11 0 6 := Ok.fd hOk e12 (S_X4.h (S_X6.f11 S0)) rfl
      refine J_icmp_ge E 68 dX6_fitsMarks_10 (by decide) (fun c14 => ?_) (fun c14 => ?_)
      · refine J_iconst E 1 dX6_fitsMarks_68 (by decide) ?_
        exact J_zret E hr (Bd.z (Bd.lit 1 1 (by decide)) (by decide)) dX6_fitsMarks_69 ⟨rfl, rfl, ((Bd.lit 1 1 (by decide)).w 0 1 (by decide)), ((kx_X6_fitsMarks_2 (e12) (c14)).symm.trans hK)⟩
      · have b15 : Bd x3 0 5 := Bd.lt_l (nle c14) b4 b13 5 (by decide)
        have b16 : Bd x11 1 6 := Bd.lt_r (nle c14) b4 b13 1 (by decide)
        refine J_aload_n E dX6_fitsMarks_13 0 rfl ?_
        refine J_getR E in_X6 rfl (S_X6.h S0) 11 (by decide) wd217 rfl dX6_fitsMarks_14 ?_
        refine J_iload_n E dX6_fitsMarks_17 3 rfl ?_
        refine J_iconst E 0 dX6_fitsMarks_18 (by decide) ?_
        refine J_callVNI E cal_X4_cell wd751 rfl (S_X4.h (S_X6.f11 S0)) [.int x3, .int 0] [] (ct_X4_cell_6 l D dA G v w (hOk) (rf G h0 11) (S_X6.f11 S0) x3 b15 0 ((Bd.lit 0 0 (by decide)).w 0 3 (by decide))) rfl rfl (Nat.le_of_ble_eq_true rfl) ⟨rfl, rfl⟩ ⟨Nat.le_of_ble_eq_true rfl, Nat.le_of_ble_eq_true rfl⟩ dX6_fitsMarks_19 (fun x20 v17 w18 p19 => ?_)
        rw [p19.1, p19.2.1]
        have e21 : x20 = F_X4_cell_6 G w v (rf G h0 11) x3 (0 : Int32) := (p19.2.2.2)
        refine J_iload_n E dX6_fitsMarks_22 1 rfl ?_
        refine J_icmp_ne E 62 dX6_fitsMarks_23 (by decide) (fun c22 => ?_) (fun c22 => ?_)
        · exact J.sub [0, 1, 2, 3] rfl (J62 b1 b2 b15 ((kx_X6_fitsMarks_3 (e12) (e21) (c14) (c22)).symm.trans hK))
        · have b23 : Bd x20 0 6 := Bd.eq_l c22 (Bd.any x20) b1 0 6 (by decide)
          refine J_aload_n E dX6_fitsMarks_26 0 rfl ?_
          refine J_getR E in_X6 rfl (S_X6.h S0) 11 (by decide) wd217 rfl dX6_fitsMarks_27 ?_
          refine J_iload_n E dX6_fitsMarks_30 3 rfl ?_
          refine J_iconst E 3 dX6_fitsMarks_31 (by decide) ?_
          refine J_callVNI E cal_X4_cell wd751 rfl (S_X4.h (S_X6.f11 S0)) [.int x3, .int 3] [] (ct_X4_cell_6 l D dA G v w (hOk) (rf G h0 11) (S_X6.f11 S0) x3 b15 3 ((Bd.lit 3 3 (by decide)).w 0 3 (by decide))) rfl rfl (Nat.le_of_ble_eq_true rfl) ⟨rfl, rfl⟩ ⟨Nat.le_of_ble_eq_true rfl, Nat.le_of_ble_eq_true rfl⟩ dX6_fitsMarks_32 (fun x27 v24 w25 p26 => ?_)
          rw [p26.1, p26.2.1]
          have e28 : x27 = F_X4_cell_6 G w v (rf G h0 11) x3 (3 : Int32) := (p26.2.2.2)
          refine J_iload_n E dX6_fitsMarks_35 2 rfl ?_
          refine J_aload_n E dX6_fitsMarks_36 0 rfl ?_
          refine J_getR E in_X6 rfl (S_X6.h S0) 11 (by decide) wd217 rfl dX6_fitsMarks_37 ?_
          refine J_iload_n E dX6_fitsMarks_40 3 rfl ?_
          refine J_iconst E 1 dX6_fitsMarks_41 (by decide) ?_
          refine J_callVNI E cal_X4_cell wd751 rfl (S_X4.h (S_X6.f11 S0)) [.int x3, .int 1] [.int x_1, .int x27] (ct_X4_cell_6 l D dA G v w (hOk) (rf G h0 11) (S_X6.f11 S0) x3 b15 1 ((Bd.lit 1 1 (by decide)).w 0 3 (by decide))) rfl rfl (Nat.le_of_ble_eq_true rfl) ⟨rfl, rfl⟩ ⟨Nat.le_of_ble_eq_true rfl, Nat.le_of_ble_eq_true rfl⟩ dX6_fitsMarks_42 (fun x32 v29 w30 p31 => ?_)
          rw [p31.1, p31.2.1]
          have e33 : x32 = F_X4_cell_6 G w v (rf G h0 11) x3 (1 : Int32) := (p31.2.2.2)
          refine J_aload_n E dX6_fitsMarks_45 0 rfl ?_
          refine J_getR E in_X6 rfl (S_X6.h S0) 11 (by decide) wd217 rfl dX6_fitsMarks_46 ?_
          refine J_iload_n E dX6_fitsMarks_49 3 rfl ?_
          refine J_iconst E 2 dX6_fitsMarks_50 (by decide) ?_
          refine J_callVNI E cal_X4_cell wd751 rfl (S_X4.h (S_X6.f11 S0)) [.int x3, .int 2] [.int x32, .int x_1, .int x27] (ct_X4_cell_6 l D dA G v w (hOk) (rf G h0 11) (S_X6.f11 S0) x3 b15 2 ((Bd.lit 2 2 (by decide)).w 0 3 (by decide))) rfl rfl (Nat.le_of_ble_eq_true rfl) ⟨rfl, rfl⟩ ⟨Nat.le_of_ble_eq_true rfl, Nat.le_of_ble_eq_true rfl⟩ dX6_fitsMarks_51 (fun x37 v34 w35 p36 => ?_)
          rw [p36.1, p36.2.1]
          have e38 : x37 = F_X4_cell_6 G w v (rf G h0 11) x3 (2 : Int32) := (p36.2.2.2)
          refine J_callSNI E cal_X5_oneLifts wd542 [.int x_1, .int x32, .int x37] [.int x27] (ct_X5_oneLifts l D dA G v w (hOk) x_1 x32 x37) rfl rfl (Nat.le_of_ble_eq_true rfl) ⟨rfl, rfl⟩ ⟨Nat.le_of_ble_eq_true rfl, Nat.le_of_ble_eq_true rfl⟩ dX6_fitsMarks_54 (fun x42 v39 w40 p41 => ?_)
          rw [p41.1, p41.2.1]
          have e43 : x42 = F_X5_oneLifts G w v x_1 x32 x37 := (p41.2.2.2)
          refine J_icmp_eq E 62 dX6_fitsMarks_57 (by decide) (fun c44 => ?_) (fun c44 => ?_)
          · exact J.sub [0, 1, 2, 3] rfl (J62 b1 b2 b15 ((kx_X6_fitsMarks_4 (e12) (e21) (e28) (e33) (e38) (e43) (c14) (c22) (c44)).symm.trans hK))
          · refine J_iconst E 0 dX6_fitsMarks_60 (by decide) ?_
            exact J_zret E hr (Bd.z (Bd.lit 0 0 (by decide)) (by decide)) dX6_fitsMarks_61 ⟨rfl, rfl, ((Bd.lit 0 0 (by decide)).w 0 1 (by decide)), ((kx_X6_fitsMarks_5 (e12) (e21) (e28) (e33) (e38) (e43) (c14) (c22) (c44)).symm.trans hK)⟩
  have hK : K_X6_fitsMarks_e G w v h0 x_0 x_1 = F_X6_fitsMarks G w v h0 x_0 x_1 := rfl
  refine J_iconst E 0 dX6_fitsMarks_0 (by decide) ?_
  refine J_istore_n E [(3, .int 0), (0, .ref h0), (1, .int x_0), (2, .int x_1)] dX6_fitsMarks_1 rfl (by decide) rfl ?_
  exact J.sub [1, 2, 3, 0] rfl (J2 7 bx_0 bx_1 0 ((Bd.lit 0 0 (by decide)).w 0 6 (by decide)) (Mu.start _ (Bd.lit 0 0 (by decide)) (by decide)) ((kx_X6_fitsMarks_6).symm.trans hK))

def K_X6_fittingOneKinds_25 (G : Gm) (w : Mw) (h0 : Nat) (rec4 : Mv → Int32 → Int32 → Int32 → Int32) (v : Mv) (x_0 : Int32) (x7 : Int32) (x4 : Int32) : Int32 :=
  rec4 v x_0 x7 (x4 + (1 : Int32))
def K_X6_fittingOneKinds_4 (G : Gm) (w : Mw) (h0 : Nat) : Nat → Mv → Int32 → Int32 → Int32 → Int32
  | 0, _, _, _, _ => (0 : Int32)
  | n4 + 1, v, x_0, x2, x4 =>
    if (6 : Int32) ≤ x4 then (x2) else (if (F_X6_fitsMarks G w v h0 x_0 x4) = (0 : Int32) then (K_X6_fittingOneKinds_25 G w h0 (K_X6_fittingOneKinds_4 G w h0 n4) v x_0 x2 x4) else (K_X6_fittingOneKinds_25 G w h0 (K_X6_fittingOneKinds_4 G w h0 n4) v x_0 (x2 ||| ((1 : Int32) <<< (x4 &&& 31))) x4))
def K_X6_fittingOneKinds_e (G : Gm) (w : Mw) (v : Mv) (h0 : Nat) (x_0 : Int32) : Int32 :=
  K_X6_fittingOneKinds_4 G w h0 7 v x_0 (0 : Int32) (0 : Int32)
def F_X6_fittingOneKinds (G : Gm) (w : Mw) (v : Mv) (h0 : Nat) (x_0 : Int32) : Int32 := K_X6_fittingOneKinds_e G w v h0 x_0
set_option maxRecDepth 100000 in
theorem kx_X6_fittingOneKinds_1 {G : Gm} {w : Mw} {h0 : Nat} {rec4 : Mv → Int32 → Int32 → Int32 → Int32} {v : Mv} {x_0 : Int32} {x7 : Int32} {x4 : Int32} {x10 : Int32} (a0 : x10 = x4 + (1 : Int32))  : K_X6_fittingOneKinds_25 G w h0 rec4 v x_0 x7 x4 = rec4 v x_0 x7 x10 := by
  subst a0; first | rw [K_X6_fittingOneKinds_25] | simp only [K_X6_fittingOneKinds_25]
set_option maxRecDepth 100000 in
theorem kx_X6_fittingOneKinds_2 {G : Gm} {w : Mw} {h0 : Nat} {n4 : Nat} {v : Mv} {x_0 : Int32} {x2 : Int32} {x4 : Int32}  (k0 : (6 : Int32) ≤ x4) : K_X6_fittingOneKinds_4 G w h0 (n4 + 1) v x_0 x2 x4 = x2 := by
  first | rw [K_X6_fittingOneKinds_4, if_pos k0] | simp only [K_X6_fittingOneKinds_4, if_pos k0]
set_option maxRecDepth 100000 in
theorem kx_X6_fittingOneKinds_3 {G : Gm} {w : Mw} {h0 : Nat} {n4 : Nat} {v : Mv} {x_0 : Int32} {x2 : Int32} {x4 : Int32} {x19 : Int32} (a0 : x19 = F_X6_fitsMarks G w v h0 x_0 x4) (k0 : ¬ ((6 : Int32) ≤ x4)) (k1 : x19 = (0 : Int32)) : K_X6_fittingOneKinds_4 G w h0 (n4 + 1) v x_0 x2 x4 = K_X6_fittingOneKinds_25 G w h0 (K_X6_fittingOneKinds_4 G w h0 n4) v x_0 x2 x4 := by
  subst a0; first | rw [K_X6_fittingOneKinds_4, if_neg k0, if_pos k1] | simp only [K_X6_fittingOneKinds_4, if_neg k0, if_pos k1]
set_option maxRecDepth 100000 in
theorem kx_X6_fittingOneKinds_4 {G : Gm} {w : Mw} {h0 : Nat} {n4 : Nat} {v : Mv} {x_0 : Int32} {x2 : Int32} {x4 : Int32} {x28 : Int32} {x25 : Int32} {x19 : Int32} (a0 : x19 = F_X6_fitsMarks G w v h0 x_0 x4) (a1 : x25 = (1 : Int32) <<< (x4 &&& 31)) (a2 : x28 = x2 ||| x25) (k0 : ¬ ((6 : Int32) ≤ x4)) (k1 : ¬ (x19 = (0 : Int32))) : K_X6_fittingOneKinds_4 G w h0 (n4 + 1) v x_0 x2 x4 = K_X6_fittingOneKinds_25 G w h0 (K_X6_fittingOneKinds_4 G w h0 n4) v x_0 x28 x4 := by
  subst a2; subst a1; subst a0; first | rw [K_X6_fittingOneKinds_4, if_neg k0, if_neg k1] | simp only [K_X6_fittingOneKinds_4, if_neg k0, if_neg k1]
set_option maxRecDepth 100000 in
theorem kx_X6_fittingOneKinds_5 {G : Gm} {w : Mw} {v : Mv} {h0 : Nat} {x_0 : Int32}   : K_X6_fittingOneKinds_e G w v h0 x_0 = K_X6_fittingOneKinds_4 G w h0 7 v x_0 (0 : Int32) (0 : Int32) := by
  first | rw [K_X6_fittingOneKinds_e] | simp only [K_X6_fittingOneKinds_e]
abbrev rm_X6_fittingOneKinds : Room := { frames := 3, cells := 0, slots := 0, locals := 67 }
set_option maxHeartbeats 4000000 in
set_option maxRecDepth 100000 in
theorem ct_X6_fittingOneKinds (l : Launch) (D : va_G) (dA : Nat → ClassId) (G : Gm) (v : Mv) (w : Mw) (hOk : Ok G v w) (h0 : Nat) (S0 : S_X6 G h0) (x_0 : Int32) (bx_0 : Bd x_0 0 6) : CtI l yX6_fittingOneKinds cX6_fittingOneKinds 4 (some .int) rm_X6_fittingOneKinds D dA G [.ref h0, .int x_0] v w (fun r v1 w1 => v1 = v ∧ w1 = w ∧ Bd r 0 63 ∧ r = F_X6_fittingOneKinds G w v h0 x_0) := by
  refine CtI.of RX6 [(0, .ref h0), (1, .int x_0)] (Nat.le_of_ble_eq_true rfl) rfl (by decide) rfl ?_
  intro p e s m args below meth c E hr
  have J4 : ∀ n4 : Nat, Bd x_0 0 6 → ∀ x2 : Int32, Bd x2 0 63 → ∀ x4 : Int32, Bd x4 0 6 → Mu x4 6 n4 → K_X6_fittingOneKinds_4 G w h0 n4 v x_0 x2 x4 = F_X6_fittingOneKinds G w v h0 x_0 → J p l e rm_X6_fittingOneKinds s m args below meth c 0 0 (MQ below (QcI D dA G (fun r v1 w1 => v1 = v ∧ w1 = w ∧ Bd r 0 63 ∧ r = F_X6_fittingOneKinds G w v h0 x_0)) args s 0 0 (dm G)) D dA G (dm G) s.heap 4 v w [(0, .ref h0), (1, .int x_0), (2, .int x2), (3, .int x4)] 4 [] := by
    intro n4
    induction n4 with
    | zero => intro b1 x2 b3 x4 b5 hm hK; exact hm.zero b5 (by decide)
    | succ n4 ih4 =>
      intro b1 x2 b3 x4 b5 hmu4 hK
      have J25 : Bd x_0 0 6 → ∀ x7 : Int32, Bd x7 0 63 → Bd x4 0 5 → K_X6_fittingOneKinds_25 G w h0 (K_X6_fittingOneKinds_4 G w h0 n4) v x_0 x7 x4 = F_X6_fittingOneKinds G w v h0 x_0 → J p l e rm_X6_fittingOneKinds s m args below meth c 0 0 (MQ below (QcI D dA G (fun r v1 w1 => v1 = v ∧ w1 = w ∧ Bd r 0 63 ∧ r = F_X6_fittingOneKinds G w v h0 x_0)) args s 0 0 (dm G)) D dA G (dm G) s.heap 4 v w [(0, .ref h0), (1, .int x_0), (2, .int x7), (3, .int x4)] 25 [] := by
        intro b6 x7 b8 b9 hK
        refine J_iinc E 3 1 (fun z => [(3, .int z), (0, .ref h0), (1, .int x_0), (2, .int x7)]) dX6_fittingOneKinds_25 rfl (by decide) (by decide) (fun _ => rfl) (fun x10 e11 => ?_)
        have b12 : Bd x10 1 6 := (Bd.add e11 b9 (Bd.lit 1 1 (by decide)) (by decide)).w _ _ (by decide)
        refine J_goto E 4 dX6_fittingOneKinds_28 (by decide) ?_
        exact J.sub [1, 2, 3, 0] rfl (ih4 b6 x7 b8 x10 (b12.w 0 6 (by decide)) (Mu.step hmu4 e11 b9 (Bd.lit 1 1 (by decide)) (by decide)) ((kx_X6_fittingOneKinds_1 (e11)).symm.trans hK))
      refine J_iload_n E dX6_fittingOneKinds_4 3 rfl ?_
      refine J_bipush E 6 dX6_fittingOneKinds_5 (by decide) ?_
      refine J_icmp_ge E 31 dX6_fittingOneKinds_7 (by decide) (fun c13 => ?_) (fun c13 => ?_)
      · have b14 : Bd x4 6 6 := Bd.le_r c13 (Bd.lit 6 6 (by decide)) b5 6 (by decide)
        refine J_iload_n E dX6_fittingOneKinds_31 2 rfl ?_
        exact J_iret E hr dX6_fittingOneKinds_32 ⟨rfl, rfl, b3, ((kx_X6_fittingOneKinds_2 (c13)).symm.trans hK)⟩
      · have b15 : Bd x4 0 5 := Bd.lt_l (nle c13) b5 (Bd.lit 6 6 (by decide)) 5 (by decide)
        refine J_aload_n E dX6_fittingOneKinds_10 0 rfl ?_
        refine J_iload_n E dX6_fittingOneKinds_11 1 rfl ?_
        refine J_iload_n E dX6_fittingOneKinds_12 3 rfl ?_
        refine J_callVI E cal_X6_fitsMarks wd826 rfl (S_X6.h S0) [.int x_0, .int x4] [] (ct_X6_fitsMarks l D dA G v w (hOk) h0 S0 x_0 b1 x4 b15) rfl rfl (Nat.le_of_ble_eq_true rfl) ⟨rfl, rfl⟩ ⟨Nat.le_of_ble_eq_true rfl, Nat.le_of_ble_eq_true rfl⟩ dX6_fittingOneKinds_13 (fun x19 v16 w17 p18 => ?_)
        rw [p18.1, p18.2.1]
        have b20 : Bd x19 0 1 := p18.2.2.1
        have e21 : x19 = F_X6_fitsMarks G w v h0 x_0 x4 := (p18.2.2.2)
        refine J_if_eq E 25 dX6_fittingOneKinds_16 (by decide) (fun c22 => ?_) (fun c22 => ?_)
        · have b23 : Bd x19 0 0 := Bd.eq_l c22 b20 (Bd.lit 0 0 (by decide)) 0 0 (by decide)
          exact J.sub [0, 1, 2, 3] rfl (J25 b1 x2 b3 b15 ((kx_X6_fittingOneKinds_3 (e21) (c13) (c22)).symm.trans hK))
        · have b24 : Bd x19 1 1 := (Bd.ne_lo c22 b20 (Bd.lit 0 0 (by decide))).w _ _ (by decide)
          refine J_iload_n E dX6_fittingOneKinds_19 2 rfl ?_
          refine J_iconst E 1 dX6_fittingOneKinds_20 (by decide) ?_
          refine J_iload_n E dX6_fittingOneKinds_21 3 rfl ?_
          refine J_ishl E dX6_fittingOneKinds_22 (fun x25 e26 => ?_)
          have b27 : Bd x25 1 32 := Bd.shl1 e26 b15 5 (by decide)
          refine J_ior E dX6_fittingOneKinds_23 (fun x28 e29 => ?_)
          have b30 : Bd x28 0 63 := Bd.or e29 b3 b27 6 (by decide)
          refine J_istore_n E [(2, .int x28), (0, .ref h0), (1, .int x_0), (3, .int x4)] dX6_fittingOneKinds_24 rfl (by decide) rfl ?_
          exact J.sub [1, 2, 0, 3] rfl (J25 b1 x28 b30 b15 ((kx_X6_fittingOneKinds_4 (e21) (e26) (e29) (c13) (c22)).symm.trans hK))
  have hK : K_X6_fittingOneKinds_e G w v h0 x_0 = F_X6_fittingOneKinds G w v h0 x_0 := rfl
  refine J_iconst E 0 dX6_fittingOneKinds_0 (by decide) ?_
  refine J_istore_n E [(2, .int 0), (0, .ref h0), (1, .int x_0)] dX6_fittingOneKinds_1 rfl (by decide) rfl ?_
  refine J_iconst E 0 dX6_fittingOneKinds_2 (by decide) ?_
  refine J_istore_n E [(3, .int 0), (2, .int 0), (0, .ref h0), (1, .int x_0)] dX6_fittingOneKinds_3 rfl (by decide) rfl ?_
  exact J.sub [2, 3, 1, 0] rfl (J4 7 bx_0 0 ((Bd.lit 0 0 (by decide)).w 0 63 (by decide)) 0 ((Bd.lit 0 0 (by decide)).w 0 6 (by decide)) (Mu.start _ (Bd.lit 0 0 (by decide)) (by decide)) ((kx_X6_fittingOneKinds_5).symm.trans hK))

abbrev rm_X6_mixInto : Room := { frames := 2, cells := 0, slots := 0, locals := 43 }
set_option maxHeartbeats 4000000 in
set_option maxRecDepth 100000 in
theorem ct_X6_mixInto (l : Launch) (D : va_G) (dA : Nat → ClassId) (G : Gm) (v : Mv) (w : Mw) (hOk : Ok G v w) (h0 : Nat) (S0 : S_X6 G h0) (y_0 : Int64) : CtL l yX6_mixInto cX6_mixInto 7 (some .long) rm_X6_mixInto D dA G [.ref h0, .long y_0] v w (fun r v1 w1 => v1 = v ∧ w1 = w ∧ True) := by
  refine CtL.of RX6 [(0, .ref h0), (1, .long y_0)] (Nat.le_of_ble_eq_true rfl) rfl (by decide) rfl ?_
  intro p e s m args below meth c E hr
  have J53 : ∀ n53 : Nat, ∀ y1 : Int64, ∀ x2 : Int32, Bd x2 0 7 → Mu x2 7 n53 → J p l e rm_X6_mixInto s m args below meth c 0 0 (MQ below (QcL D dA G (fun r v1 w1 => v1 = v ∧ w1 = w ∧ True)) args s 0 0 (dm G)) D dA G (dm G) s.heap 7 v w [(0, .ref h0), (3, .long y1), (5, .int x2)] 53 [] := by
    intro n53
    induction n53 with
    | zero => intro y1 x2 b3 hm; exact hm.zero b3 (by decide)
    | succ n53 ih53 =>
      intro y1 x2 b3 hmu53
      have J65 : ∀ n65 : Nat, ∀ y4 : Int64, Bd x2 0 6 → ∀ x6 : Int32, Bd x6 0 5 → Mu x6 5 n65 → J p l e rm_X6_mixInto s m args below meth c 0 0 (MQ below (QcL D dA G (fun r v1 w1 => v1 = v ∧ w1 = w ∧ True)) args s 0 0 (dm G)) D dA G (dm G) s.heap 7 v w [(0, .ref h0), (3, .long y4), (5, .int x2), (6, .int x6)] 65 [] := by
        intro n65
        induction n65 with
        | zero => intro y4 b5 x6 b7 hm; exact hm.zero b7 (by decide)
        | succ n65 ih65 =>
          intro y4 b5 x6 b7 hmu65
          refine J_iload E dX6_mixInto_65 3 rfl ?_
          refine J_iconst E 4 dX6_mixInto_67 (by decide) ?_
          refine J_icmp_gt E 93 dX6_mixInto_68 (by decide) (fun c8 => ?_) (fun c8 => ?_)
          · have b9 : Bd x6 5 5 := Bd.lt_r c8 (Bd.lit 4 4 (by decide)) b7 5 (by decide)
            refine J_iinc E 2 1 (fun z => [(5, .int z), (0, .ref h0), (3, .long y4), (6, .int x6)]) dX6_mixInto_93 rfl (by decide) (by decide) (fun _ => rfl) (fun x10 e11 => ?_)
            have b12 : Bd x10 1 7 := (Bd.add e11 b5 (Bd.lit 1 1 (by decide)) (by decide)).w _ _ (by decide)
            refine J_goto E 53 dX6_mixInto_96 (by decide) ?_
            exact J.sub [1, 2, 0] rfl (ih53 y4 x10 (b12.w 0 7 (by decide)) (Mu.step hmu53 e11 b5 (Bd.lit 1 1 (by decide)) (by decide)))
          · have b13 : Bd x6 0 4 := Bd.le_l (nlt c8) b7 (Bd.lit 4 4 (by decide)) 4 (by decide)
            refine J_ldc2 E wd918 dX6_mixInto_71 ?_
            refine J_lload_n E dX6_mixInto_74 1 rfl ?_
            refine J_lmul E dX6_mixInto_75 (fun y14 e15 => ?_)
            refine J_aload_n E dX6_mixInto_76 0 rfl ?_
            refine J_iload E dX6_mixInto_77 2 rfl ?_
            refine J_iload E dX6_mixInto_79 3 rfl ?_
            refine J_callVI E cal_X6_factOfOne wd919 rfl (S_X6.h S0) [.int x2, .int x6] [.long y14] (ct_X6_factOfOne l D dA G v w (hOk) h0 S0 x2 b5 x6 b13) rfl rfl (Nat.le_of_ble_eq_true rfl) ⟨rfl, rfl⟩ ⟨Nat.le_of_ble_eq_true rfl, Nat.le_of_ble_eq_true rfl⟩ dX6_mixInto_81 (fun x19 v16 w17 p18 => ?_)
            rw [p18.1, p18.2.1]
            refine J_i2l E dX6_mixInto_84 (fun y20 e21 => ?_)
            refine J_ladd E dX6_mixInto_85 (fun y22 e23 => ?_)
            refine J_lstore_n E [(3, .long y22), (0, .ref h0), (5, .int x2), (6, .int x6)] dX6_mixInto_86 rfl (by decide) rfl ?_
            refine J_iinc E 3 1 (fun z => [(6, .int z), (3, .long y22), (0, .ref h0), (5, .int x2)]) dX6_mixInto_87 rfl (by decide) (by decide) (fun _ => rfl) (fun x24 e25 => ?_)
            have b26 : Bd x24 1 5 := (Bd.add e25 b13 (Bd.lit 1 1 (by decide)) (by decide)).w _ _ (by decide)
            refine J_goto E 65 dX6_mixInto_90 (by decide) ?_
            exact J.sub [2, 1, 3, 0] rfl (ih65 y22 b5 x24 (b26.w 0 5 (by decide)) (Mu.step hmu65 e25 b13 (Bd.lit 1 1 (by decide)) (by decide)))
      refine J_iload E dX6_mixInto_53 2 rfl ?_
      refine J_aload_n E dX6_mixInto_55 0 rfl ?_
      refine J_getI E in_X6 rfl (S_X6.h S0) 3 (by decide) wd201 rfl dX6_mixInto_56 (fun x27 e28 => ?_)
      have b29 : Bd x27 0 7 := Ok.fd hOk e28 (S_X6.h S0) rfl
      refine J_icmp_ge E 99 dX6_mixInto_59 (by decide) (fun c30 => ?_) (fun c30 => ?_)
      · refine J_aload_n E dX6_mixInto_99 0 rfl ?_
        refine J_getR E in_X6 rfl (S_X6.h S0) 9 (by decide) wd213 rfl dX6_mixInto_100 ?_
        refine J_lload_n E dX6_mixInto_103 1 rfl ?_
        refine J_callVNL E cal_X4_mixInto wd920 rfl (S_X4.h (S_X6.f9 S0)) [.long y1] [] (ct_X4_mixInto_5 l D dA G v w (hOk) (rf G h0 9) (S_X6.f9 S0) y1) rfl rfl (Nat.le_of_ble_eq_true rfl) ⟨rfl, rfl⟩ ⟨Nat.le_of_ble_eq_true rfl, Nat.le_of_ble_eq_true rfl⟩ dX6_mixInto_104 (fun y34 v31 w32 p33 => ?_)
        rw [p33.1, p33.2.1]
        refine J_lstore_n E [(3, .long y34), (0, .ref h0), (5, .int x2)] dX6_mixInto_107 rfl (by decide) rfl ?_
        refine J_aload_n E dX6_mixInto_108 1 rfl ?_
        refine J_getR E in_X6 rfl (S_X6.h S0) 10 (by decide) wd215 rfl dX6_mixInto_109 ?_
        refine J_lload_n E dX6_mixInto_112 0 rfl ?_
        refine J_callVNL E cal_X4_mixInto wd920 rfl (S_X4.h (S_X6.f10 S0)) [.long y34] [] (ct_X4_mixInto_6 l D dA G v w (hOk) (rf G h0 10) (S_X6.f10 S0) y34) rfl rfl (Nat.le_of_ble_eq_true rfl) ⟨rfl, rfl⟩ ⟨Nat.le_of_ble_eq_true rfl, Nat.le_of_ble_eq_true rfl⟩ dX6_mixInto_113 (fun y38 v35 w36 p37 => ?_)
        rw [p37.1, p37.2.1]
        refine J_lstore_n E [(3, .long y38), (0, .ref h0), (5, .int x2)] dX6_mixInto_116 rfl (by decide) rfl ?_
        refine J_aload_n E dX6_mixInto_117 1 rfl ?_
        refine J_getR E in_X6 rfl (S_X6.h S0) 11 (by decide) wd217 rfl dX6_mixInto_118 ?_
        refine J_lload_n E dX6_mixInto_121 0 rfl ?_
        refine J_callVNL E cal_X4_mixInto wd920 rfl (S_X4.h (S_X6.f11 S0)) [.long y38] [] (ct_X4_mixInto_6 l D dA G v w (hOk) (rf G h0 11) (S_X6.f11 S0) y38) rfl rfl (Nat.le_of_ble_eq_true rfl) ⟨rfl, rfl⟩ ⟨Nat.le_of_ble_eq_true rfl, Nat.le_of_ble_eq_true rfl⟩ dX6_mixInto_122 (fun y42 v39 w40 p41 => ?_)
        rw [p41.1, p41.2.1]
        exact J_lret E hr dX6_mixInto_125 ⟨rfl, rfl, trivial⟩
      · have b43 : Bd x2 0 6 := Bd.lt_l (nle c30) b3 b29 6 (by decide)
        have b44 : Bd x27 1 7 := Bd.lt_r (nle c30) b3 b29 1 (by decide)
        refine J_iconst E 0 dX6_mixInto_62 (by decide) ?_
        refine J_istore E [(6, .int 0), (0, .ref h0), (3, .long y1), (5, .int x2)] dX6_mixInto_63 (by decide) rfl ?_
        exact J.sub [1, 2, 3, 0] rfl (J65 6 y1 b43 0 ((Bd.lit 0 0 (by decide)).w 0 5 (by decide)) (Mu.start _ (Bd.lit 0 0 (by decide)) (by decide)))
  have J5 : ∀ n5 : Nat, ∀ y45 : Int64, ∀ x46 : Int32, Bd x46 0 7 → Mu x46 7 n5 → J p l e rm_X6_mixInto s m args below meth c 0 0 (MQ below (QcL D dA G (fun r v1 w1 => v1 = v ∧ w1 = w ∧ True)) args s 0 0 (dm G)) D dA G (dm G) s.heap 7 v w [(0, .ref h0), (3, .long y45), (5, .int x46)] 5 [] := by
    intro n5
    induction n5 with
    | zero => intro y45 x46 b47 hm; exact hm.zero b47 (by decide)
    | succ n5 ih5 =>
      intro y45 x46 b47 hmu5
      refine J_iload E dX6_mixInto_5 2 rfl ?_
      refine J_aload_n E dX6_mixInto_7 0 rfl ?_
      refine J_getI E in_X6 rfl (S_X6.h S0) 0 (by decide) wd191 rfl dX6_mixInto_8 (fun x48 e49 => ?_)
      have b50 : Bd x48 0 7 := Ok.fd hOk e49 (S_X6.h S0) rfl
      refine J_icmp_ge E 50 dX6_mixInto_11 (by decide) (fun c51 => ?_) (fun c51 => ?_)
      · refine J_iconst E 0 dX6_mixInto_50 (by decide) ?_
        refine J_istore E [(5, .int 0), (0, .ref h0), (3, .long y45)] dX6_mixInto_51 (by decide) rfl ?_
        exact J.sub [1, 2, 0] rfl (J53 8 y45 0 ((Bd.lit 0 0 (by decide)).w 0 7 (by decide)) (Mu.start _ (Bd.lit 0 0 (by decide)) (by decide)))
      · have b52 : Bd x46 0 6 := Bd.lt_l (nle c51) b47 b50 6 (by decide)
        have b53 : Bd x48 1 7 := Bd.lt_r (nle c51) b47 b50 1 (by decide)
        refine J_ldc2 E wd918 dX6_mixInto_14 ?_
        refine J_lload_n E dX6_mixInto_17 1 rfl ?_
        refine J_lmul E dX6_mixInto_18 (fun y54 e55 => ?_)
        refine J_aload_n E dX6_mixInto_19 0 rfl ?_
        refine J_getR E in_X6 rfl (S_X6.h S0) 1 (by decide) wd195 rfl dX6_mixInto_20 ?_
        refine J_iload E dX6_mixInto_23 2 rfl ?_
        refine J_iald1 E (S_X6.f1 S0) (Bd.in b52 (by decide)) dX6_mixInto_25 (fun x56 e57 => ?_)
        refine J_i2l E dX6_mixInto_26 (fun y58 e59 => ?_)
        refine J_ladd E dX6_mixInto_27 (fun y60 e61 => ?_)
        refine J_lstore_n E [(3, .long y60), (0, .ref h0), (5, .int x46)] dX6_mixInto_28 rfl (by decide) rfl ?_
        refine J_ldc2 E wd918 dX6_mixInto_29 ?_
        refine J_lload_n E dX6_mixInto_32 0 rfl ?_
        refine J_lmul E dX6_mixInto_33 (fun y62 e63 => ?_)
        refine J_aload_n E dX6_mixInto_34 1 rfl ?_
        refine J_getR E in_X6 rfl (S_X6.h S0) 2 (by decide) wd197 rfl dX6_mixInto_35 ?_
        refine J_iload E dX6_mixInto_38 2 rfl ?_
        refine J_iald1 E (S_X6.f2 S0) (Bd.in b52 (by decide)) dX6_mixInto_40 (fun x64 e65 => ?_)
        refine J_i2l E dX6_mixInto_41 (fun y66 e67 => ?_)
        refine J_ladd E dX6_mixInto_42 (fun y68 e69 => ?_)
        refine J_lstore_n E [(3, .long y68), (0, .ref h0), (5, .int x46)] dX6_mixInto_43 rfl (by decide) rfl ?_
        refine J_iinc E 2 1 (fun z => [(5, .int z), (3, .long y68), (0, .ref h0)]) dX6_mixInto_44 rfl (by decide) (by decide) (fun _ => rfl) (fun x70 e71 => ?_)
        have b72 : Bd x70 1 7 := (Bd.add e71 b52 (Bd.lit 1 1 (by decide)) (by decide)).w _ _ (by decide)
        refine J_goto E 5 dX6_mixInto_47 (by decide) ?_
        exact J.sub [2, 1, 0] rfl (ih5 y68 x70 (b72.w 0 7 (by decide)) (Mu.step hmu5 e71 b52 (Bd.lit 1 1 (by decide)) (by decide)))
  refine J_lload_n E dX6_mixInto_0 1 rfl ?_
  refine J_lstore_n E [(3, .long y_0), (0, .ref h0), (1, .long y_0)] dX6_mixInto_1 rfl (by decide) rfl ?_
  refine J_iconst E 0 dX6_mixInto_2 (by decide) ?_
  refine J_istore E [(5, .int 0), (3, .long y_0), (0, .ref h0), (1, .long y_0)] dX6_mixInto_3 (by decide) rfl ?_
  exact J.sub [2, 1, 0] rfl (J5 8 y_0 0 ((Bd.lit 0 0 (by decide)).w 0 7 (by decide)) (Mu.start _ (Bd.lit 0 0 (by decide)) (by decide)))

def K_X7_people_c1 (G : Gm) (w : Mw) (h0 : Nat) (v4 : Mv) (x1 : Int32) : Int32 × Mv :=
  (x1, v4)
def K_X7_people_e (G : Gm) (w : Mw) (v : Mv) (h0 : Nat) : Int32 × Mv :=
  K_X7_people_c1 G w h0 (F_X6_startAnew G w v (rf G h0 0)) (v (rf G h0 0) 3)
def F_X7_people (G : Gm) (w : Mw) (v : Mv) (h0 : Nat) : Int32 × Mv := K_X7_people_e G w v h0
set_option maxRecDepth 100000 in
theorem kx_X7_people_1 {G : Gm} {w : Mw} {v : Mv} {h0 : Nat} {v4 : Mv} {x1 : Int32} (a0 : x1 = v (rf G h0 0) 3) (a1 : v4 = F_X6_startAnew G w v (rf G h0 0))  : K_X7_people_e G w v h0 = K_X7_people_c1 G w h0 v4 x1 := by
  subst a1; subst a0; first | rw [K_X7_people_e] | simp only [K_X7_people_e]
set_option maxRecDepth 100000 in
theorem kx_X7_people_2 {G : Gm} {w : Mw} {h0 : Nat} {v4 : Mv} {x1 : Int32}   : K_X7_people_c1 G w h0 v4 x1 = (x1, v4) := by
  first | rw [K_X7_people_c1] | simp only [K_X7_people_c1]
abbrev rm_X7_people : Room := { frames := 2, cells := 0, slots := 0, locals := 41 }
set_option maxHeartbeats 4000000 in
set_option maxRecDepth 100000 in
theorem ct_X7_people (l : Launch) (D : va_G) (dA : Nat → ClassId) (G : Gm) (v : Mv) (w : Mw) (hOk : Ok G v w) (h0 : Nat) (S0 : S_X7 G h0) : CtI l yX7_people cX7_people 2 (some .int) rm_X7_people D dA G [.ref h0] v w (fun r v1 w1 => Ok G v1 w1 ∧ True ∧ Bd r 0 7 ∧ (w1 = w ∧ (r, v1) = F_X7_people G w v h0) ∧ Fr G [2, 4, 6] v v1) := by
  refine CtI.of RX7 [(0, .ref h0)] (Nat.le_of_ble_eq_true rfl) rfl (by decide) rfl ?_
  intro p e s m args below meth c E hr
  have hK : K_X7_people_e G w v h0 = F_X7_people G w v h0 := rfl
  refine J_aload_n E dX7_people_0 0 rfl ?_
  refine J_getR E in_X7 rfl (S_X7.h S0) 0 (by decide) wd308 rfl dX7_people_1 ?_
  refine J_getIN E in_X6 rfl (S_X6.h (S_X7.f0 S0)) 3 (by decide) wd200 rfl dX7_people_4 (fun x1 e2 => ?_)
  have b3 : Bd x1 0 7 := Ok.fd hOk e2 (S_X6.h (S_X7.f0 S0)) rfl
  refine J_istore_n E [(1, .int x1), (0, .ref h0)] dX7_people_7 rfl (by decide) rfl ?_
  refine J_aload_n E dX7_people_8 1 rfl ?_
  refine J_getR E in_X7 rfl (S_X7.h S0) 0 (by decide) wd308 rfl dX7_people_9 ?_
  refine J_callVNV E cal_X6_startAnew wd349 rfl (S_X6.h (S_X7.f0 S0)) [] [] (ct_X6_startAnew l D dA G v w (hOk) (rf G h0 0) (S_X7.f0 S0)) rfl rfl (Nat.le_of_ble_eq_true rfl) ⟨rfl, rfl⟩ ⟨Nat.le_of_ble_eq_true rfl, Nat.le_of_ble_eq_true rfl⟩ dX7_people_12 (fun v4 w5 p6 => ?_)
  have ew9 : w = w5 := p6.2.2.1.1.symm
  subst ew9
  have o8 := p6.1
  have k9 : True := trivial
  have f10 : Fr G [2, 4, 6] v v4 := Fr.tr Fr.rf (p6.2.2.2) (by decide)
  have e11 : v4 = F_X6_startAnew G w v (rf G h0 0) := (p6.2.2.1).2
  have hK : K_X7_people_c1 G w h0 v4 x1 = F_X7_people G w v h0 := ((kx_X7_people_1 (e2) (e11)).symm.trans hK)
  refine J_iload_n E dX7_people_15 0 rfl ?_
  exact J_iret E hr dX7_people_16 ⟨o8, k9, b3, ⟨⟨rfl, ((kx_X7_people_2).symm.trans hK)⟩, f10⟩⟩

def K_X7_bad_e (G : Gm) (w : Mw) (v : Mv) (h0 : Nat) : Int32 × Mv :=
  ((-2 : Int32), (stv v h0 9 ((v h0 9) + (1 : Int32))))
def F_X7_bad (G : Gm) (w : Mw) (v : Mv) (h0 : Nat) : Int32 × Mv := K_X7_bad_e G w v h0
set_option maxRecDepth 100000 in
theorem kx_X7_bad_1 {G : Gm} {w : Mw} {v : Mv} {h0 : Nat} {v5 : Mv} {x1 : Int32} {x3 : Int32} (a0 : x1 = v h0 9) (a1 : x3 = x1 + (1 : Int32)) (a2 : v5 = stv v h0 9 x3)  : K_X7_bad_e G w v h0 = ((-2 : Int32), v5) := by
  subst a2; subst a1; subst a0; first | rw [K_X7_bad_e] | simp only [K_X7_bad_e]
abbrev rm_X7_bad : Room := { frames := 0, cells := 0, slots := 0, locals := 0 }
set_option maxHeartbeats 4000000 in
set_option maxRecDepth 100000 in
theorem ct_X7_bad (l : Launch) (D : va_G) (dA : Nat → ClassId) (G : Gm) (v : Mv) (w : Mw) (hOk : Ok G v w) (h0 : Nat) (S0 : S_X7 G h0) : CtI l yX7_bad cX7_bad 1 (some .int) rm_X7_bad D dA G [.ref h0] v w (fun r v1 w1 => Ok G v1 w1 ∧ Kp G v v1 ∧ Bd r (-2) (-2) ∧ (w1 = w ∧ (r, v1) = F_X7_bad G w v h0) ∧ Fr G [7] v v1) := by
  refine CtI.of RX7 [(0, .ref h0)] (Nat.le_of_ble_eq_true rfl) rfl (by decide) rfl ?_
  intro p e s m args below meth c E hr
  have hK : K_X7_bad_e G w v h0 = F_X7_bad G w v h0 := rfl
  refine J_aload_n E dX7_bad_0 0 rfl ?_
  refine J_dup E dX7_bad_1 rfl ?_
  refine J_getI E in_X7 rfl (S_X7.h S0) 9 (by decide) wd317 rfl dX7_bad_2 (fun x1 e2 => ?_)
  refine J_iconst E 1 dX7_bad_5 (by decide) ?_
  refine J_iadd E dX7_bad_6 (fun x3 e4 => ?_)
  refine J_pI E in_X7 rfl (S_X7.h S0) 9 (by decide) wd317 tyX7 tyX7_ok nmX7 rfl rfl .int (by decide +kernel) rfl rfl dX7_bad_7 (fun v5 e6 => ?_)
  have o7 : Ok G v5 w := Ok.pf hOk e6 (S_X7.h S0) rfl (Bd.any x3)
  have k8 : Kp G v v5 := Kp.pf Kp.rf e6 (S_X7.h S0) rfl
  have f9 : Fr G [7] v v5 := Fr.st Fr.rf e6 (S_X7.h S0) rfl
  have e10 : x3 = v5 h0 9 := by rw [e6, stv_s]
  refine J_bipush E (-2) dX7_bad_10 (by decide) ?_
  exact J_iret E hr dX7_bad_12 ⟨o7, k8, (Bd.lit (-2) (-2) (by decide)), ⟨⟨rfl, ((kx_X7_bad_1 (e2) (e4) (e6)).symm.trans hK)⟩, f9⟩⟩

def K_X7_full_e (G : Gm) (w : Mw) (v : Mv) (h0 : Nat) : Int32 × Mv :=
  ((-4 : Int32), (stv v h0 11 ((v h0 11) + (1 : Int32))))
def F_X7_full (G : Gm) (w : Mw) (v : Mv) (h0 : Nat) : Int32 × Mv := K_X7_full_e G w v h0
set_option maxRecDepth 100000 in
theorem kx_X7_full_1 {G : Gm} {w : Mw} {v : Mv} {h0 : Nat} {v5 : Mv} {x1 : Int32} {x3 : Int32} (a0 : x1 = v h0 11) (a1 : x3 = x1 + (1 : Int32)) (a2 : v5 = stv v h0 11 x3)  : K_X7_full_e G w v h0 = ((-4 : Int32), v5) := by
  subst a2; subst a1; subst a0; first | rw [K_X7_full_e] | simp only [K_X7_full_e]
abbrev rm_X7_full : Room := { frames := 0, cells := 0, slots := 0, locals := 0 }
set_option maxHeartbeats 4000000 in
set_option maxRecDepth 100000 in
theorem ct_X7_full (l : Launch) (D : va_G) (dA : Nat → ClassId) (G : Gm) (v : Mv) (w : Mw) (hOk : Ok G v w) (h0 : Nat) (S0 : S_X7 G h0) : CtI l yX7_full cX7_full 1 (some .int) rm_X7_full D dA G [.ref h0] v w (fun r v1 w1 => Ok G v1 w1 ∧ Kp G v v1 ∧ Bd r (-4) (-4) ∧ (w1 = w ∧ (r, v1) = F_X7_full G w v h0) ∧ Fr G [7] v v1) := by
  refine CtI.of RX7 [(0, .ref h0)] (Nat.le_of_ble_eq_true rfl) rfl (by decide) rfl ?_
  intro p e s m args below meth c E hr
  have hK : K_X7_full_e G w v h0 = F_X7_full G w v h0 := rfl
  refine J_aload_n E dX7_full_0 0 rfl ?_
  refine J_dup E dX7_full_1 rfl ?_
  refine J_getI E in_X7 rfl (S_X7.h S0) 11 (by decide) wd319 rfl dX7_full_2 (fun x1 e2 => ?_)
  refine J_iconst E 1 dX7_full_5 (by decide) ?_
  refine J_iadd E dX7_full_6 (fun x3 e4 => ?_)
  refine J_pI E in_X7 rfl (S_X7.h S0) 11 (by decide) wd319 tyX7 tyX7_ok nmX7 rfl rfl .int (by decide +kernel) rfl rfl dX7_full_7 (fun v5 e6 => ?_)
  have o7 : Ok G v5 w := Ok.pf hOk e6 (S_X7.h S0) rfl (Bd.any x3)
  have k8 : Kp G v v5 := Kp.pf Kp.rf e6 (S_X7.h S0) rfl
  have f9 : Fr G [7] v v5 := Fr.st Fr.rf e6 (S_X7.h S0) rfl
  have e10 : x3 = v5 h0 11 := by rw [e6, stv_s]
  refine J_bipush E (-4) dX7_full_10 (by decide) ?_
  exact J_iret E hr dX7_full_12 ⟨o7, k8, (Bd.lit (-4) (-4) (by decide)), ⟨⟨rfl, ((kx_X7_full_1 (e2) (e4) (e6)).symm.trans hK)⟩, f9⟩⟩

def K_X7_thing_c1 (G : Gm) (w : Mw) (h0 : Nat) (v1 : Mv) (x4 : Int32) : Int32 × Mv :=
  (x4, v1)
def K_X7_thing_19 (G : Gm) (w : Mw) (h0 : Nat) (v : Mv) : Int32 × Mv :=
  K_X7_thing_c1 G w h0 ((F_X7_bad G w v h0).2) ((F_X7_bad G w v h0).1)
def K_X7_thing_c2 (G : Gm) (w : Mw) (h0 : Nat) (v40 : Mv) (x43 : Int32) : Int32 × Mv :=
  (x43, v40)
def K_X7_thing_c3 (G : Gm) (w : Mw) (h0 : Nat) (v51 : Mv) (x54 : Int32) : Int32 × Mv :=
  (x54, v51)
def K_X7_thing_e (G : Gm) (w : Mw) (v : Mv) (h0 : Nat) (x_0 : Int32) (x_1 : Int32) : Int32 × Mv :=
  if (F_X7_isWithin G w v x_0 (0 : Int32) (5 : Int32)) = (0 : Int32) then (K_X7_thing_19 G w h0 v) else (if (F_X7_isWithin G w v x_1 (1 : Int32) (30 : Int32)) = (0 : Int32) then (K_X7_thing_19 G w h0 v) else (if (v (rf G h0 0) 0) < (7 : Int32) then (K_X7_thing_c2 G w h0 ((F_X6_addThing G w v (rf G h0 0) x_0 x_1).2) ((F_X6_addThing G w v (rf G h0 0) x_0 x_1).1)) else (K_X7_thing_c3 G w h0 ((F_X7_full G w v h0).2) ((F_X7_full G w v h0).1))))
def F_X7_thing (G : Gm) (w : Mw) (v : Mv) (h0 : Nat) (x_0 : Int32) (x_1 : Int32) : Int32 × Mv := K_X7_thing_e G w v h0 x_0 x_1
set_option maxRecDepth 100000 in
theorem kx_X7_thing_1 {G : Gm} {w : Mw} {h0 : Nat} {v : Mv} {v1 : Mv} {x4 : Int32} (a0 : x4 = (F_X7_bad G w v h0).1) (a1 : v1 = (F_X7_bad G w v h0).2)  : K_X7_thing_19 G w h0 v = K_X7_thing_c1 G w h0 v1 x4 := by
  subst a1; subst a0; first | rw [K_X7_thing_19] | simp only [K_X7_thing_19]
set_option maxRecDepth 100000 in
theorem kx_X7_thing_2 {G : Gm} {w : Mw} {h0 : Nat} {v1 : Mv} {x4 : Int32}   : K_X7_thing_c1 G w h0 v1 x4 = (x4, v1) := by
  first | rw [K_X7_thing_c1] | simp only [K_X7_thing_c1]
set_option maxRecDepth 100000 in
theorem kx_X7_thing_3 {G : Gm} {w : Mw} {v : Mv} {h0 : Nat} {x_0 : Int32} {x_1 : Int32} {x14 : Int32} (a0 : x14 = F_X7_isWithin G w v x_0 (0 : Int32) (5 : Int32)) (k0 : x14 = (0 : Int32)) : K_X7_thing_e G w v h0 x_0 x_1 = K_X7_thing_19 G w h0 v := by
  subst a0; first | rw [K_X7_thing_e, if_pos k0] | simp only [K_X7_thing_e, if_pos k0]
set_option maxRecDepth 100000 in
theorem kx_X7_thing_4 {G : Gm} {w : Mw} {v : Mv} {h0 : Nat} {x_0 : Int32} {x_1 : Int32} {v40 : Mv} {x43 : Int32} {x14 : Int32} {x27 : Int32} {x35 : Int32} (a0 : x14 = F_X7_isWithin G w v x_0 (0 : Int32) (5 : Int32)) (a1 : x27 = F_X7_isWithin G w v x_1 (1 : Int32) (30 : Int32)) (a2 : x35 = v (rf G h0 0) 0) (a3 : x43 = (F_X6_addThing G w v (rf G h0 0) x_0 x_1).1) (a4 : v40 = (F_X6_addThing G w v (rf G h0 0) x_0 x_1).2) (k0 : ¬ (x14 = (0 : Int32))) (k1 : ¬ (x27 = (0 : Int32))) (k2 : x35 < (7 : Int32)) : K_X7_thing_e G w v h0 x_0 x_1 = K_X7_thing_c2 G w h0 v40 x43 := by
  subst a4; subst a3; subst a2; subst a1; subst a0; first | rw [K_X7_thing_e, if_neg k0, if_neg k1, if_pos k2] | simp only [K_X7_thing_e, if_neg k0, if_neg k1, if_pos k2]
set_option maxRecDepth 100000 in
theorem kx_X7_thing_5 {G : Gm} {w : Mw} {h0 : Nat} {v40 : Mv} {x43 : Int32}   : K_X7_thing_c2 G w h0 v40 x43 = (x43, v40) := by
  first | rw [K_X7_thing_c2] | simp only [K_X7_thing_c2]
set_option maxRecDepth 100000 in
theorem kx_X7_thing_6 {G : Gm} {w : Mw} {v : Mv} {h0 : Nat} {x_0 : Int32} {x_1 : Int32} {v51 : Mv} {x54 : Int32} {x14 : Int32} {x27 : Int32} {x35 : Int32} (a0 : x14 = F_X7_isWithin G w v x_0 (0 : Int32) (5 : Int32)) (a1 : x27 = F_X7_isWithin G w v x_1 (1 : Int32) (30 : Int32)) (a2 : x35 = v (rf G h0 0) 0) (a3 : x54 = (F_X7_full G w v h0).1) (a4 : v51 = (F_X7_full G w v h0).2) (k0 : ¬ (x14 = (0 : Int32))) (k1 : ¬ (x27 = (0 : Int32))) (k2 : ¬ (x35 < (7 : Int32))) : K_X7_thing_e G w v h0 x_0 x_1 = K_X7_thing_c3 G w h0 v51 x54 := by
  subst a4; subst a3; subst a2; subst a1; subst a0; first | rw [K_X7_thing_e, if_neg k0, if_neg k1, if_neg k2] | simp only [K_X7_thing_e, if_neg k0, if_neg k1, if_neg k2]
set_option maxRecDepth 100000 in
theorem kx_X7_thing_7 {G : Gm} {w : Mw} {h0 : Nat} {v51 : Mv} {x54 : Int32}   : K_X7_thing_c3 G w h0 v51 x54 = (x54, v51) := by
  first | rw [K_X7_thing_c3] | simp only [K_X7_thing_c3]
set_option maxRecDepth 100000 in
theorem kx_X7_thing_8 {G : Gm} {w : Mw} {v : Mv} {h0 : Nat} {x_0 : Int32} {x_1 : Int32} {x14 : Int32} {x27 : Int32} (a0 : x14 = F_X7_isWithin G w v x_0 (0 : Int32) (5 : Int32)) (a1 : x27 = F_X7_isWithin G w v x_1 (1 : Int32) (30 : Int32)) (k0 : ¬ (x14 = (0 : Int32))) (k1 : x27 = (0 : Int32)) : K_X7_thing_e G w v h0 x_0 x_1 = K_X7_thing_19 G w h0 v := by
  subst a1; subst a0; first | rw [K_X7_thing_e, if_neg k0, if_pos k1] | simp only [K_X7_thing_e, if_neg k0, if_pos k1]
abbrev rm_X7_thing : Room := { frames := 1, cells := 0, slots := 0, locals := 23 }
set_option maxHeartbeats 4000000 in
set_option maxRecDepth 100000 in
theorem ct_X7_thing (l : Launch) (D : va_G) (dA : Nat → ClassId) (G : Gm) (v : Mv) (w : Mw) (hOk : Ok G v w) (h0 : Nat) (S0 : S_X7 G h0) (x_0 : Int32) (x_1 : Int32) : CtI l yX7_thing cX7_thing 3 (some .int) rm_X7_thing D dA G [.ref h0, .int x_0, .int x_1] v w (fun r v1 w1 => Ok G v1 w1 ∧ True ∧ True ∧ (w1 = w ∧ (r, v1) = F_X7_thing G w v h0 x_0 x_1) ∧ Fr G [6, 7, 107] v v1) := by
  refine CtI.of RX7 [(0, .ref h0), (1, .int x_0), (2, .int x_1)] (Nat.le_of_ble_eq_true rfl) rfl (by decide) rfl ?_
  intro p e s m args below meth c E hr
  have J19 : K_X7_thing_19 G w h0 v = F_X7_thing G w v h0 x_0 x_1 → J p l e rm_X7_thing s m args below meth c 0 0 (MQ below (QcI D dA G (fun r v1 w1 => Ok G v1 w1 ∧ True ∧ True ∧ (w1 = w ∧ (r, v1) = F_X7_thing G w v h0 x_0 x_1) ∧ Fr G [6, 7, 107] v v1)) args s 0 0 (dm G)) D dA G (dm G) s.heap 3 v w [(0, .ref h0)] 19 [] := by
    intro hK
    refine J_aload_n E dX7_thing_19 0 rfl ?_
    refine J_callVI E cal_X7_bad wd364 rfl (S_X7.h S0) [] [] (ct_X7_bad l D dA G v w (hOk) h0 S0) rfl rfl (Nat.le_of_ble_eq_true rfl) ⟨rfl, rfl⟩ ⟨Nat.le_of_ble_eq_true rfl, Nat.le_of_ble_eq_true rfl⟩ dX7_thing_20 (fun x4 v1 w2 p3 => ?_)
    have ew9 : w = w2 := p3.2.2.2.1.1.symm
    subst ew9
    have o5 := p3.1
    have k6 : True := trivial
    have f7 : Fr G [6, 7, 107] v v1 := Fr.tr Fr.rf (p3.2.2.2.2) (by decide)
    have b8 : Bd x4 (-2) (-2) := p3.2.2.1
    have e9 : x4 = (F_X7_bad G w v h0).1 := congrArg Prod.fst (p3.2.2.2.1).2
    have e10 : v1 = (F_X7_bad G w v h0).2 := congrArg Prod.snd (p3.2.2.2.1).2
    have hK : K_X7_thing_c1 G w h0 v1 x4 = F_X7_thing G w v h0 x_0 x_1 := ((kx_X7_thing_1 (e9) (e10)).symm.trans hK)
    exact J_iret E hr dX7_thing_23 ⟨o5, k6, trivial, ⟨⟨rfl, ((kx_X7_thing_2).symm.trans hK)⟩, f7⟩⟩
  have hK : K_X7_thing_e G w v h0 x_0 x_1 = F_X7_thing G w v h0 x_0 x_1 := rfl
  refine J_iload_n E dX7_thing_0 1 rfl ?_
  refine J_iconst E 0 dX7_thing_1 (by decide) ?_
  refine J_iconst E 5 dX7_thing_2 (by decide) ?_
  refine J_callSI E cal_X7_isWithin wd361 [.int x_0, .int 0, .int 5] [] (ct_X7_isWithin l D dA G v w (hOk) x_0 0 5) rfl rfl (Nat.le_of_ble_eq_true rfl) ⟨rfl, rfl⟩ ⟨Nat.le_of_ble_eq_true rfl, Nat.le_of_ble_eq_true rfl⟩ dX7_thing_3 (fun x14 v11 w12 p13 => ?_)
  rw [p13.1, p13.2.1]
  have b15 : Bd x14 0 1 := p13.2.2.1
  have e16 : x14 = F_X7_isWithin G w v x_0 (0 : Int32) (5 : Int32) := (p13.2.2.2.2.2)
  refine J_if_eq E 19 dX7_thing_6 (by decide) (fun c17 => ?_) (fun c17 => ?_)
  · have b18 : Bd x14 0 0 := Bd.eq_l c17 b15 (Bd.lit 0 0 (by decide)) 0 0 (by decide)
    have g19 : ¬ (0 ≤ x_0 ∧ x_0 ≤ 5) := (p13.2.2.2.2.1).resolve_left (fun h9 => h9 c17)
    exact J.sub [0] rfl (J19 ((kx_X7_thing_3 (e16) (c17)).symm.trans hK))
  · have b20 : Bd x14 1 1 := (Bd.ne_lo c17 b15 (Bd.lit 0 0 (by decide))).w _ _ (by decide)
    have g21 := (p13.2.2.2.1).resolve_left c17
    have b22 : Bd x_0 0 I1 := Bd.le_r g21.1 (Bd.lit 0 0 (by decide)) (Bd.any x_0) 0 (by decide)
    have b23 : Bd x_0 0 5 := Bd.le_l g21.2 b22 (Bd.lit 5 5 (by decide)) 5 (by decide)
    refine J_iload_n E dX7_thing_9 2 rfl ?_
    refine J_iconst E 1 dX7_thing_10 (by decide) ?_
    refine J_bipush E 30 dX7_thing_11 (by decide) ?_
    refine J_callSI E cal_X7_isWithin wd361 [.int x_1, .int 1, .int 30] [] (ct_X7_isWithin l D dA G v w (hOk) x_1 1 30) rfl rfl (Nat.le_of_ble_eq_true rfl) ⟨rfl, rfl⟩ ⟨Nat.le_of_ble_eq_true rfl, Nat.le_of_ble_eq_true rfl⟩ dX7_thing_13 (fun x27 v24 w25 p26 => ?_)
    rw [p26.1, p26.2.1]
    have b28 : Bd x27 0 1 := p26.2.2.1
    have e29 : x27 = F_X7_isWithin G w v x_1 (1 : Int32) (30 : Int32) := (p26.2.2.2.2.2)
    refine J_if_ne E 24 dX7_thing_16 (by decide) (fun c30 => ?_) (fun c30 => ?_)
    · have b31 : Bd x27 1 1 := (Bd.ne_lo c30 b28 (Bd.lit 0 0 (by decide))).w _ _ (by decide)
      have g32 := (p26.2.2.2.1).resolve_left c30
      have b33 : Bd x_1 1 I1 := Bd.le_r g32.1 (Bd.lit 1 1 (by decide)) (Bd.any x_1) 1 (by decide)
      have b34 : Bd x_1 1 30 := Bd.le_l g32.2 b33 (Bd.lit 30 30 (by decide)) 30 (by decide)
      refine J_aload_n E dX7_thing_24 0 rfl ?_
      refine J_getR E in_X7 rfl (S_X7.h S0) 0 (by decide) wd308 rfl dX7_thing_25 ?_
      refine J_getIN E in_X6 rfl (S_X6.h (S_X7.f0 S0)) 0 (by decide) wd193 rfl dX7_thing_28 (fun x35 e36 => ?_)
      have b37 : Bd x35 0 7 := Ok.fd hOk e36 (S_X6.h (S_X7.f0 S0)) rfl
      refine J_bipush E 7 dX7_thing_31 (by decide) ?_
      refine J_icmp_lt E 41 dX7_thing_33 (by decide) (fun c38 => ?_) (fun c38 => ?_)
      · have b39 : Bd x35 0 6 := Bd.lt_l c38 b37 (Bd.lit 7 7 (by decide)) 6 (by decide)
        refine J_aload_n E dX7_thing_41 0 rfl ?_
        refine J_getR E in_X7 rfl (S_X7.h S0) 0 (by decide) wd308 rfl dX7_thing_42 ?_
        refine J_iload_n E dX7_thing_45 1 rfl ?_
        refine J_iload_n E dX7_thing_46 2 rfl ?_
        refine J_callVNI E cal_X6_addThing wd372 rfl (S_X6.h (S_X7.f0 S0)) [.int x_0, .int x_1] [] (ct_X6_addThing l D dA G v w (hOk) (rf G h0 0) (S_X7.f0 S0) x_0 b23 x_1 b34 x35 (e36) b39) rfl rfl (Nat.le_of_ble_eq_true rfl) ⟨rfl, rfl⟩ ⟨Nat.le_of_ble_eq_true rfl, Nat.le_of_ble_eq_true rfl⟩ dX7_thing_47 (fun x43 v40 w41 p42 => ?_)
        have ew9 : w = w41 := p42.2.2.2.1.1.symm
        subst ew9
        have o44 := p42.1
        have k45 : True := trivial
        have f46 : Fr G [6, 7, 107] v v40 := Fr.tr Fr.rf (p42.2.2.2.2) (by decide)
        have b47 : Bd x43 0 6 := p42.2.2.1
        have e48 : x43 = (F_X6_addThing G w v (rf G h0 0) x_0 x_1).1 := congrArg Prod.fst (p42.2.2.2.1).2
        have e49 : v40 = (F_X6_addThing G w v (rf G h0 0) x_0 x_1).2 := congrArg Prod.snd (p42.2.2.2.1).2
        have hK : K_X7_thing_c2 G w h0 v40 x43 = F_X7_thing G w v h0 x_0 x_1 := ((kx_X7_thing_4 (e16) (e29) (e36) (e48) (e49) (c17) (c30) (c38)).symm.trans hK)
        exact J_iret E hr dX7_thing_50 ⟨o44, k45, trivial, ⟨⟨rfl, ((kx_X7_thing_5).symm.trans hK)⟩, f46⟩⟩
      · have b50 : Bd x35 7 7 := Bd.le_r (nlt c38) (Bd.lit 7 7 (by decide)) b37 7 (by decide)
        refine J_aload_n E dX7_thing_36 0 rfl ?_
        refine J_callVI E cal_X7_full wd368 rfl (S_X7.h S0) [] [] (ct_X7_full l D dA G v w (hOk) h0 S0) rfl rfl (Nat.le_of_ble_eq_true rfl) ⟨rfl, rfl⟩ ⟨Nat.le_of_ble_eq_true rfl, Nat.le_of_ble_eq_true rfl⟩ dX7_thing_37 (fun x54 v51 w52 p53 => ?_)
        have ew9 : w = w52 := p53.2.2.2.1.1.symm
        subst ew9
        have o55 := p53.1
        have k56 : True := trivial
        have f57 : Fr G [6, 7, 107] v v51 := Fr.tr Fr.rf (p53.2.2.2.2) (by decide)
        have b58 : Bd x54 (-4) (-4) := p53.2.2.1
        have e59 : x54 = (F_X7_full G w v h0).1 := congrArg Prod.fst (p53.2.2.2.1).2
        have e60 : v51 = (F_X7_full G w v h0).2 := congrArg Prod.snd (p53.2.2.2.1).2
        have hK : K_X7_thing_c3 G w h0 v51 x54 = F_X7_thing G w v h0 x_0 x_1 := ((kx_X7_thing_6 (e16) (e29) (e36) (e59) (e60) (c17) (c30) (c38)).symm.trans hK)
        exact J_iret E hr dX7_thing_40 ⟨o55, k56, trivial, ⟨⟨rfl, ((kx_X7_thing_7).symm.trans hK)⟩, f57⟩⟩
    · have b61 : Bd x27 0 0 := Bd.eq_l c30 b28 (Bd.lit 0 0 (by decide)) 0 0 (by decide)
      have g62 : ¬ (1 ≤ x_1 ∧ x_1 ≤ 30) := (p26.2.2.2.2.1).resolve_left (fun h9 => h9 c30)
      exact J.sub [0] rfl (J19 ((kx_X7_thing_8 (e16) (e29) (c17) (c30)).symm.trans hK))

def K_X7_one_c1 (G : Gm) (w : Mw) (h0 : Nat) (v1 : Mv) (x4 : Int32) : Int32 × Mv :=
  (x4, v1)
def K_X7_one_29 (G : Gm) (w : Mw) (h0 : Nat) (v : Mv) : Int32 × Mv :=
  K_X7_one_c1 G w h0 ((F_X7_bad G w v h0).2) ((F_X7_bad G w v h0).1)
def K_X7_one_c2 (G : Gm) (w : Mw) (h0 : Nat) (v53 : Mv) (x56 : Int32) : Int32 × Mv :=
  (x56, v53)
def K_X7_one_c3 (G : Gm) (w : Mw) (h0 : Nat) (v64 : Mv) (x67 : Int32) : Int32 × Mv :=
  (x67, v64)
def K_X7_one_e (G : Gm) (w : Mw) (v : Mv) (h0 : Nat) (x_0 : Int32) (x_1 : Int32) (x_2 : Int32) : Int32 × Mv :=
  if (F_X7_isWithin G w v x_0 (0 : Int32) (5 : Int32)) = (0 : Int32) then (K_X7_one_29 G w h0 v) else (if (F_X7_isWithin G w v x_1 (1 : Int32) (9 : Int32)) = (0 : Int32) then (K_X7_one_29 G w h0 v) else (if (F_X7_isWithin G w v x_2 (0 : Int32) (99 : Int32)) = (0 : Int32) then (K_X7_one_29 G w h0 v) else (if (v (rf G h0 0) 3) < (7 : Int32) then (K_X7_one_c2 G w h0 ((F_X6_addOne G w v (rf G h0 0) x_0 x_1 x_2).2) ((F_X6_addOne G w v (rf G h0 0) x_0 x_1 x_2).1)) else (K_X7_one_c3 G w h0 ((F_X7_full G w v h0).2) ((F_X7_full G w v h0).1)))))
def F_X7_one (G : Gm) (w : Mw) (v : Mv) (h0 : Nat) (x_0 : Int32) (x_1 : Int32) (x_2 : Int32) : Int32 × Mv := K_X7_one_e G w v h0 x_0 x_1 x_2
set_option maxRecDepth 100000 in
theorem kx_X7_one_1 {G : Gm} {w : Mw} {h0 : Nat} {v : Mv} {v1 : Mv} {x4 : Int32} (a0 : x4 = (F_X7_bad G w v h0).1) (a1 : v1 = (F_X7_bad G w v h0).2)  : K_X7_one_29 G w h0 v = K_X7_one_c1 G w h0 v1 x4 := by
  subst a1; subst a0; first | rw [K_X7_one_29] | simp only [K_X7_one_29]
set_option maxRecDepth 100000 in
theorem kx_X7_one_2 {G : Gm} {w : Mw} {h0 : Nat} {v1 : Mv} {x4 : Int32}   : K_X7_one_c1 G w h0 v1 x4 = (x4, v1) := by
  first | rw [K_X7_one_c1] | simp only [K_X7_one_c1]
set_option maxRecDepth 100000 in
theorem kx_X7_one_3 {G : Gm} {w : Mw} {v : Mv} {h0 : Nat} {x_0 : Int32} {x_1 : Int32} {x_2 : Int32} {x14 : Int32} (a0 : x14 = F_X7_isWithin G w v x_0 (0 : Int32) (5 : Int32)) (k0 : x14 = (0 : Int32)) : K_X7_one_e G w v h0 x_0 x_1 x_2 = K_X7_one_29 G w h0 v := by
  subst a0; first | rw [K_X7_one_e, if_pos k0] | simp only [K_X7_one_e, if_pos k0]
set_option maxRecDepth 100000 in
theorem kx_X7_one_4 {G : Gm} {w : Mw} {v : Mv} {h0 : Nat} {x_0 : Int32} {x_1 : Int32} {x_2 : Int32} {x14 : Int32} {x27 : Int32} (a0 : x14 = F_X7_isWithin G w v x_0 (0 : Int32) (5 : Int32)) (a1 : x27 = F_X7_isWithin G w v x_1 (1 : Int32) (9 : Int32)) (k0 : ¬ (x14 = (0 : Int32))) (k1 : x27 = (0 : Int32)) : K_X7_one_e G w v h0 x_0 x_1 x_2 = K_X7_one_29 G w h0 v := by
  subst a1; subst a0; first | rw [K_X7_one_e, if_neg k0, if_pos k1] | simp only [K_X7_one_e, if_neg k0, if_pos k1]
set_option maxRecDepth 100000 in
theorem kx_X7_one_5 {G : Gm} {w : Mw} {v : Mv} {h0 : Nat} {x_0 : Int32} {x_1 : Int32} {x_2 : Int32} {v53 : Mv} {x56 : Int32} {x14 : Int32} {x27 : Int32} {x40 : Int32} {x48 : Int32} (a0 : x14 = F_X7_isWithin G w v x_0 (0 : Int32) (5 : Int32)) (a1 : x27 = F_X7_isWithin G w v x_1 (1 : Int32) (9 : Int32)) (a2 : x40 = F_X7_isWithin G w v x_2 (0 : Int32) (99 : Int32)) (a3 : x48 = v (rf G h0 0) 3) (a4 : x56 = (F_X6_addOne G w v (rf G h0 0) x_0 x_1 x_2).1) (a5 : v53 = (F_X6_addOne G w v (rf G h0 0) x_0 x_1 x_2).2) (k0 : ¬ (x14 = (0 : Int32))) (k1 : ¬ (x27 = (0 : Int32))) (k2 : ¬ (x40 = (0 : Int32))) (k3 : x48 < (7 : Int32)) : K_X7_one_e G w v h0 x_0 x_1 x_2 = K_X7_one_c2 G w h0 v53 x56 := by
  subst a5; subst a4; subst a3; subst a2; subst a1; subst a0; first | rw [K_X7_one_e, if_neg k0, if_neg k1, if_neg k2, if_pos k3] | simp only [K_X7_one_e, if_neg k0, if_neg k1, if_neg k2, if_pos k3]
set_option maxRecDepth 100000 in
theorem kx_X7_one_6 {G : Gm} {w : Mw} {h0 : Nat} {v53 : Mv} {x56 : Int32}   : K_X7_one_c2 G w h0 v53 x56 = (x56, v53) := by
  first | rw [K_X7_one_c2] | simp only [K_X7_one_c2]
set_option maxRecDepth 100000 in
theorem kx_X7_one_7 {G : Gm} {w : Mw} {v : Mv} {h0 : Nat} {x_0 : Int32} {x_1 : Int32} {x_2 : Int32} {v64 : Mv} {x67 : Int32} {x14 : Int32} {x27 : Int32} {x40 : Int32} {x48 : Int32} (a0 : x14 = F_X7_isWithin G w v x_0 (0 : Int32) (5 : Int32)) (a1 : x27 = F_X7_isWithin G w v x_1 (1 : Int32) (9 : Int32)) (a2 : x40 = F_X7_isWithin G w v x_2 (0 : Int32) (99 : Int32)) (a3 : x48 = v (rf G h0 0) 3) (a4 : x67 = (F_X7_full G w v h0).1) (a5 : v64 = (F_X7_full G w v h0).2) (k0 : ¬ (x14 = (0 : Int32))) (k1 : ¬ (x27 = (0 : Int32))) (k2 : ¬ (x40 = (0 : Int32))) (k3 : ¬ (x48 < (7 : Int32))) : K_X7_one_e G w v h0 x_0 x_1 x_2 = K_X7_one_c3 G w h0 v64 x67 := by
  subst a5; subst a4; subst a3; subst a2; subst a1; subst a0; first | rw [K_X7_one_e, if_neg k0, if_neg k1, if_neg k2, if_neg k3] | simp only [K_X7_one_e, if_neg k0, if_neg k1, if_neg k2, if_neg k3]
set_option maxRecDepth 100000 in
theorem kx_X7_one_8 {G : Gm} {w : Mw} {h0 : Nat} {v64 : Mv} {x67 : Int32}   : K_X7_one_c3 G w h0 v64 x67 = (x67, v64) := by
  first | rw [K_X7_one_c3] | simp only [K_X7_one_c3]
set_option maxRecDepth 100000 in
theorem kx_X7_one_9 {G : Gm} {w : Mw} {v : Mv} {h0 : Nat} {x_0 : Int32} {x_1 : Int32} {x_2 : Int32} {x14 : Int32} {x27 : Int32} {x40 : Int32} (a0 : x14 = F_X7_isWithin G w v x_0 (0 : Int32) (5 : Int32)) (a1 : x27 = F_X7_isWithin G w v x_1 (1 : Int32) (9 : Int32)) (a2 : x40 = F_X7_isWithin G w v x_2 (0 : Int32) (99 : Int32)) (k0 : ¬ (x14 = (0 : Int32))) (k1 : ¬ (x27 = (0 : Int32))) (k2 : x40 = (0 : Int32)) : K_X7_one_e G w v h0 x_0 x_1 x_2 = K_X7_one_29 G w h0 v := by
  subst a2; subst a1; subst a0; first | rw [K_X7_one_e, if_neg k0, if_neg k1, if_pos k2] | simp only [K_X7_one_e, if_neg k0, if_neg k1, if_pos k2]
abbrev rm_X7_one : Room := { frames := 1, cells := 0, slots := 0, locals := 24 }
set_option maxHeartbeats 4000000 in
set_option maxRecDepth 100000 in
theorem ct_X7_one (l : Launch) (D : va_G) (dA : Nat → ClassId) (G : Gm) (v : Mv) (w : Mw) (hOk : Ok G v w) (h0 : Nat) (S0 : S_X7 G h0) (x_0 : Int32) (x_1 : Int32) (x_2 : Int32) : CtI l yX7_one cX7_one 4 (some .int) rm_X7_one D dA G [.ref h0, .int x_0, .int x_1, .int x_2] v w (fun r v1 w1 => Ok G v1 w1 ∧ True ∧ True ∧ (w1 = w ∧ (r, v1) = F_X7_one G w v h0 x_0 x_1 x_2) ∧ Fr G [2, 6, 7, 107] v v1) := by
  refine CtI.of RX7 [(0, .ref h0), (1, .int x_0), (2, .int x_1), (3, .int x_2)] (Nat.le_of_ble_eq_true rfl) rfl (by decide) rfl ?_
  intro p e s m args below meth c E hr
  have J29 : K_X7_one_29 G w h0 v = F_X7_one G w v h0 x_0 x_1 x_2 → J p l e rm_X7_one s m args below meth c 0 0 (MQ below (QcI D dA G (fun r v1 w1 => Ok G v1 w1 ∧ True ∧ True ∧ (w1 = w ∧ (r, v1) = F_X7_one G w v h0 x_0 x_1 x_2) ∧ Fr G [2, 6, 7, 107] v v1)) args s 0 0 (dm G)) D dA G (dm G) s.heap 4 v w [(0, .ref h0)] 29 [] := by
    intro hK
    refine J_aload_n E dX7_one_29 0 rfl ?_
    refine J_callVI E cal_X7_bad wd364 rfl (S_X7.h S0) [] [] (ct_X7_bad l D dA G v w (hOk) h0 S0) rfl rfl (Nat.le_of_ble_eq_true rfl) ⟨rfl, rfl⟩ ⟨Nat.le_of_ble_eq_true rfl, Nat.le_of_ble_eq_true rfl⟩ dX7_one_30 (fun x4 v1 w2 p3 => ?_)
    have ew9 : w = w2 := p3.2.2.2.1.1.symm
    subst ew9
    have o5 := p3.1
    have k6 : True := trivial
    have f7 : Fr G [2, 6, 7, 107] v v1 := Fr.tr Fr.rf (p3.2.2.2.2) (by decide)
    have b8 : Bd x4 (-2) (-2) := p3.2.2.1
    have e9 : x4 = (F_X7_bad G w v h0).1 := congrArg Prod.fst (p3.2.2.2.1).2
    have e10 : v1 = (F_X7_bad G w v h0).2 := congrArg Prod.snd (p3.2.2.2.1).2
    have hK : K_X7_one_c1 G w h0 v1 x4 = F_X7_one G w v h0 x_0 x_1 x_2 := ((kx_X7_one_1 (e9) (e10)).symm.trans hK)
    exact J_iret E hr dX7_one_33 ⟨o5, k6, trivial, ⟨⟨rfl, ((kx_X7_one_2).symm.trans hK)⟩, f7⟩⟩
  have hK : K_X7_one_e G w v h0 x_0 x_1 x_2 = F_X7_one G w v h0 x_0 x_1 x_2 := rfl
  refine J_iload_n E dX7_one_0 1 rfl ?_
  refine J_iconst E 0 dX7_one_1 (by decide) ?_
  refine J_iconst E 5 dX7_one_2 (by decide) ?_
  refine J_callSI E cal_X7_isWithin wd361 [.int x_0, .int 0, .int 5] [] (ct_X7_isWithin l D dA G v w (hOk) x_0 0 5) rfl rfl (Nat.le_of_ble_eq_true rfl) ⟨rfl, rfl⟩ ⟨Nat.le_of_ble_eq_true rfl, Nat.le_of_ble_eq_true rfl⟩ dX7_one_3 (fun x14 v11 w12 p13 => ?_)
  rw [p13.1, p13.2.1]
  have b15 : Bd x14 0 1 := p13.2.2.1
  have e16 : x14 = F_X7_isWithin G w v x_0 (0 : Int32) (5 : Int32) := (p13.2.2.2.2.2)
  refine J_if_eq E 29 dX7_one_6 (by decide) (fun c17 => ?_) (fun c17 => ?_)
  · have b18 : Bd x14 0 0 := Bd.eq_l c17 b15 (Bd.lit 0 0 (by decide)) 0 0 (by decide)
    have g19 : ¬ (0 ≤ x_0 ∧ x_0 ≤ 5) := (p13.2.2.2.2.1).resolve_left (fun h9 => h9 c17)
    exact J.sub [0] rfl (J29 ((kx_X7_one_3 (e16) (c17)).symm.trans hK))
  · have b20 : Bd x14 1 1 := (Bd.ne_lo c17 b15 (Bd.lit 0 0 (by decide))).w _ _ (by decide)
    have g21 := (p13.2.2.2.1).resolve_left c17
    have b22 : Bd x_0 0 I1 := Bd.le_r g21.1 (Bd.lit 0 0 (by decide)) (Bd.any x_0) 0 (by decide)
    have b23 : Bd x_0 0 5 := Bd.le_l g21.2 b22 (Bd.lit 5 5 (by decide)) 5 (by decide)
    refine J_iload_n E dX7_one_9 2 rfl ?_
    refine J_iconst E 1 dX7_one_10 (by decide) ?_
    refine J_bipush E 9 dX7_one_11 (by decide) ?_
    refine J_callSI E cal_X7_isWithin wd361 [.int x_1, .int 1, .int 9] [] (ct_X7_isWithin l D dA G v w (hOk) x_1 1 9) rfl rfl (Nat.le_of_ble_eq_true rfl) ⟨rfl, rfl⟩ ⟨Nat.le_of_ble_eq_true rfl, Nat.le_of_ble_eq_true rfl⟩ dX7_one_13 (fun x27 v24 w25 p26 => ?_)
    rw [p26.1, p26.2.1]
    have b28 : Bd x27 0 1 := p26.2.2.1
    have e29 : x27 = F_X7_isWithin G w v x_1 (1 : Int32) (9 : Int32) := (p26.2.2.2.2.2)
    refine J_if_eq E 29 dX7_one_16 (by decide) (fun c30 => ?_) (fun c30 => ?_)
    · have b31 : Bd x27 0 0 := Bd.eq_l c30 b28 (Bd.lit 0 0 (by decide)) 0 0 (by decide)
      have g32 : ¬ (1 ≤ x_1 ∧ x_1 ≤ 9) := (p26.2.2.2.2.1).resolve_left (fun h9 => h9 c30)
      exact J.sub [0] rfl (J29 ((kx_X7_one_4 (e16) (e29) (c17) (c30)).symm.trans hK))
    · have b33 : Bd x27 1 1 := (Bd.ne_lo c30 b28 (Bd.lit 0 0 (by decide))).w _ _ (by decide)
      have g34 := (p26.2.2.2.1).resolve_left c30
      have b35 : Bd x_1 1 I1 := Bd.le_r g34.1 (Bd.lit 1 1 (by decide)) (Bd.any x_1) 1 (by decide)
      have b36 : Bd x_1 1 9 := Bd.le_l g34.2 b35 (Bd.lit 9 9 (by decide)) 9 (by decide)
      refine J_iload_n E dX7_one_19 3 rfl ?_
      refine J_iconst E 0 dX7_one_20 (by decide) ?_
      refine J_bipush E 99 dX7_one_21 (by decide) ?_
      refine J_callSI E cal_X7_isWithin wd361 [.int x_2, .int 0, .int 99] [] (ct_X7_isWithin l D dA G v w (hOk) x_2 0 99) rfl rfl (Nat.le_of_ble_eq_true rfl) ⟨rfl, rfl⟩ ⟨Nat.le_of_ble_eq_true rfl, Nat.le_of_ble_eq_true rfl⟩ dX7_one_23 (fun x40 v37 w38 p39 => ?_)
      rw [p39.1, p39.2.1]
      have b41 : Bd x40 0 1 := p39.2.2.1
      have e42 : x40 = F_X7_isWithin G w v x_2 (0 : Int32) (99 : Int32) := (p39.2.2.2.2.2)
      refine J_if_ne E 34 dX7_one_26 (by decide) (fun c43 => ?_) (fun c43 => ?_)
      · have b44 : Bd x40 1 1 := (Bd.ne_lo c43 b41 (Bd.lit 0 0 (by decide))).w _ _ (by decide)
        have g45 := (p39.2.2.2.1).resolve_left c43
        have b46 : Bd x_2 0 I1 := Bd.le_r g45.1 (Bd.lit 0 0 (by decide)) (Bd.any x_2) 0 (by decide)
        have b47 : Bd x_2 0 99 := Bd.le_l g45.2 b46 (Bd.lit 99 99 (by decide)) 99 (by decide)
        refine J_aload_n E dX7_one_34 0 rfl ?_
        refine J_getR E in_X7 rfl (S_X7.h S0) 0 (by decide) wd308 rfl dX7_one_35 ?_
        refine J_getIN E in_X6 rfl (S_X6.h (S_X7.f0 S0)) 3 (by decide) wd200 rfl dX7_one_38 (fun x48 e49 => ?_)
        have b50 : Bd x48 0 7 := Ok.fd hOk e49 (S_X6.h (S_X7.f0 S0)) rfl
        refine J_bipush E 7 dX7_one_41 (by decide) ?_
        refine J_icmp_lt E 51 dX7_one_43 (by decide) (fun c51 => ?_) (fun c51 => ?_)
        · have b52 : Bd x48 0 6 := Bd.lt_l c51 b50 (Bd.lit 7 7 (by decide)) 6 (by decide)
          refine J_aload_n E dX7_one_51 0 rfl ?_
          refine J_getR E in_X7 rfl (S_X7.h S0) 0 (by decide) wd308 rfl dX7_one_52 ?_
          refine J_iload_n E dX7_one_55 1 rfl ?_
          refine J_iload_n E dX7_one_56 2 rfl ?_
          refine J_iload_n E dX7_one_57 3 rfl ?_
          refine J_callVNI E cal_X6_addOne wd380 rfl (S_X6.h (S_X7.f0 S0)) [.int x_0, .int x_1, .int x_2] [] (ct_X6_addOne l D dA G v w (hOk) (rf G h0 0) (S_X7.f0 S0) x_0 b23 x_1 b36 x_2 b47 x48 (e49) b52) rfl rfl (Nat.le_of_ble_eq_true rfl) ⟨rfl, rfl⟩ ⟨Nat.le_of_ble_eq_true rfl, Nat.le_of_ble_eq_true rfl⟩ dX7_one_58 (fun x56 v53 w54 p55 => ?_)
          have ew9 : w = w54 := p55.2.2.2.1.1.symm
          subst ew9
          have o57 := p55.1
          have k58 : True := trivial
          have f59 : Fr G [2, 6, 7, 107] v v53 := Fr.tr Fr.rf (p55.2.2.2.2) (by decide)
          have b60 : Bd x56 0 6 := p55.2.2.1
          have e61 : x56 = (F_X6_addOne G w v (rf G h0 0) x_0 x_1 x_2).1 := congrArg Prod.fst (p55.2.2.2.1).2
          have e62 : v53 = (F_X6_addOne G w v (rf G h0 0) x_0 x_1 x_2).2 := congrArg Prod.snd (p55.2.2.2.1).2
          have hK : K_X7_one_c2 G w h0 v53 x56 = F_X7_one G w v h0 x_0 x_1 x_2 := ((kx_X7_one_5 (e16) (e29) (e42) (e49) (e61) (e62) (c17) (c30) (c43) (c51)).symm.trans hK)
          exact J_iret E hr dX7_one_61 ⟨o57, k58, trivial, ⟨⟨rfl, ((kx_X7_one_6).symm.trans hK)⟩, f59⟩⟩
        · have b63 : Bd x48 7 7 := Bd.le_r (nlt c51) (Bd.lit 7 7 (by decide)) b50 7 (by decide)
          refine J_aload_n E dX7_one_46 0 rfl ?_
          refine J_callVI E cal_X7_full wd368 rfl (S_X7.h S0) [] [] (ct_X7_full l D dA G v w (hOk) h0 S0) rfl rfl (Nat.le_of_ble_eq_true rfl) ⟨rfl, rfl⟩ ⟨Nat.le_of_ble_eq_true rfl, Nat.le_of_ble_eq_true rfl⟩ dX7_one_47 (fun x67 v64 w65 p66 => ?_)
          have ew9 : w = w65 := p66.2.2.2.1.1.symm
          subst ew9
          have o68 := p66.1
          have k69 : True := trivial
          have f70 : Fr G [2, 6, 7, 107] v v64 := Fr.tr Fr.rf (p66.2.2.2.2) (by decide)
          have b71 : Bd x67 (-4) (-4) := p66.2.2.1
          have e72 : x67 = (F_X7_full G w v h0).1 := congrArg Prod.fst (p66.2.2.2.1).2
          have e73 : v64 = (F_X7_full G w v h0).2 := congrArg Prod.snd (p66.2.2.2.1).2
          have hK : K_X7_one_c3 G w h0 v64 x67 = F_X7_one G w v h0 x_0 x_1 x_2 := ((kx_X7_one_7 (e16) (e29) (e42) (e49) (e72) (e73) (c17) (c30) (c43) (c51)).symm.trans hK)
          exact J_iret E hr dX7_one_50 ⟨o68, k69, trivial, ⟨⟨rfl, ((kx_X7_one_8).symm.trans hK)⟩, f70⟩⟩
      · have b74 : Bd x40 0 0 := Bd.eq_l c43 b41 (Bd.lit 0 0 (by decide)) 0 0 (by decide)
        have g75 : ¬ (0 ≤ x_2 ∧ x_2 ≤ 99) := (p39.2.2.2.2.1).resolve_left (fun h9 => h9 c43)
        exact J.sub [0] rfl (J29 ((kx_X7_one_9 (e16) (e29) (e42) (c17) (c30) (c43)).symm.trans hK))

def K_X7_type_c1 (G : Gm) (w : Mw) (h0 : Nat) (v17 : Mv) (x20 : Int32) : Int32 × Mv :=
  (x20, v17)
def K_X7_type_c2 (G : Gm) (w : Mw) (h0 : Nat) (v28 : Mv) (x31 : Int32) : Int32 × Mv :=
  (x31, v28)
def K_X7_type_c3 (G : Gm) (w : Mw) (h0 : Nat) (v40 : Mv) (x43 : Int32) : Int32 × Mv :=
  (x43, v40)
def K_X7_type_e (G : Gm) (w : Mw) (v : Mv) (h0 : Nat) (x_0 : Int32) : Int32 × Mv :=
  if (F_X7_isWithin G w v x_0 (0 : Int32) (127 : Int32)) = (0 : Int32) then (K_X7_type_c3 G w h0 ((F_X7_bad G w v h0).2) ((F_X7_bad G w v h0).1)) else (if (v (rf G h0 1) 1) < (150 : Int32) then (K_X7_type_c1 G w h0 ((F_X3_append G w v (rf G h0 1) x_0).2) ((F_X3_append G w v (rf G h0 1) x_0).1)) else (K_X7_type_c2 G w h0 ((F_X7_full G w v h0).2) ((F_X7_full G w v h0).1)))
def F_X7_type (G : Gm) (w : Mw) (v : Mv) (h0 : Nat) (x_0 : Int32) : Int32 × Mv := K_X7_type_e G w v h0 x_0
set_option maxRecDepth 100000 in
theorem kx_X7_type_1 {G : Gm} {w : Mw} {v : Mv} {h0 : Nat} {x_0 : Int32} {v17 : Mv} {x20 : Int32} {x4 : Int32} {x12 : Int32} (a0 : x4 = F_X7_isWithin G w v x_0 (0 : Int32) (127 : Int32)) (a1 : x12 = v (rf G h0 1) 1) (a2 : x20 = (F_X3_append G w v (rf G h0 1) x_0).1) (a3 : v17 = (F_X3_append G w v (rf G h0 1) x_0).2) (k0 : ¬ (x4 = (0 : Int32))) (k1 : x12 < (150 : Int32)) : K_X7_type_e G w v h0 x_0 = K_X7_type_c1 G w h0 v17 x20 := by
  subst a3; subst a2; subst a1; subst a0; first | rw [K_X7_type_e, if_neg k0, if_pos k1] | simp only [K_X7_type_e, if_neg k0, if_pos k1]
set_option maxRecDepth 100000 in
theorem kx_X7_type_2 {G : Gm} {w : Mw} {h0 : Nat} {v17 : Mv} {x20 : Int32}   : K_X7_type_c1 G w h0 v17 x20 = (x20, v17) := by
  first | rw [K_X7_type_c1] | simp only [K_X7_type_c1]
set_option maxRecDepth 100000 in
theorem kx_X7_type_3 {G : Gm} {w : Mw} {v : Mv} {h0 : Nat} {x_0 : Int32} {v28 : Mv} {x31 : Int32} {x4 : Int32} {x12 : Int32} (a0 : x4 = F_X7_isWithin G w v x_0 (0 : Int32) (127 : Int32)) (a1 : x12 = v (rf G h0 1) 1) (a2 : x31 = (F_X7_full G w v h0).1) (a3 : v28 = (F_X7_full G w v h0).2) (k0 : ¬ (x4 = (0 : Int32))) (k1 : ¬ (x12 < (150 : Int32))) : K_X7_type_e G w v h0 x_0 = K_X7_type_c2 G w h0 v28 x31 := by
  subst a3; subst a2; subst a1; subst a0; first | rw [K_X7_type_e, if_neg k0, if_neg k1] | simp only [K_X7_type_e, if_neg k0, if_neg k1]
set_option maxRecDepth 100000 in
theorem kx_X7_type_4 {G : Gm} {w : Mw} {h0 : Nat} {v28 : Mv} {x31 : Int32}   : K_X7_type_c2 G w h0 v28 x31 = (x31, v28) := by
  first | rw [K_X7_type_c2] | simp only [K_X7_type_c2]
set_option maxRecDepth 100000 in
theorem kx_X7_type_5 {G : Gm} {w : Mw} {v : Mv} {h0 : Nat} {x_0 : Int32} {v40 : Mv} {x43 : Int32} {x4 : Int32} (a0 : x4 = F_X7_isWithin G w v x_0 (0 : Int32) (127 : Int32)) (a1 : x43 = (F_X7_bad G w v h0).1) (a2 : v40 = (F_X7_bad G w v h0).2) (k0 : x4 = (0 : Int32)) : K_X7_type_e G w v h0 x_0 = K_X7_type_c3 G w h0 v40 x43 := by
  subst a2; subst a1; subst a0; first | rw [K_X7_type_e, if_pos k0] | simp only [K_X7_type_e, if_pos k0]
set_option maxRecDepth 100000 in
theorem kx_X7_type_6 {G : Gm} {w : Mw} {h0 : Nat} {v40 : Mv} {x43 : Int32}   : K_X7_type_c3 G w h0 v40 x43 = (x43, v40) := by
  first | rw [K_X7_type_c3] | simp only [K_X7_type_c3]
abbrev rm_X7_type : Room := { frames := 1, cells := 0, slots := 0, locals := 22 }
set_option maxHeartbeats 4000000 in
set_option maxRecDepth 100000 in
theorem ct_X7_type (l : Launch) (D : va_G) (dA : Nat → ClassId) (G : Gm) (v : Mv) (w : Mw) (hOk : Ok G v w) (h0 : Nat) (S0 : S_X7 G h0) (x_0 : Int32) : CtI l yX7_type cX7_type 2 (some .int) rm_X7_type D dA G [.ref h0, .int x_0] v w (fun r v1 w1 => Ok G v1 w1 ∧ True ∧ True ∧ (w1 = w ∧ (r, v1) = F_X7_type G w v h0 x_0) ∧ Fr G [3, 7, 250] v v1) := by
  refine CtI.of RX7 [(0, .ref h0), (1, .int x_0)] (Nat.le_of_ble_eq_true rfl) rfl (by decide) rfl ?_
  intro p e s m args below meth c E hr
  have hK : K_X7_type_e G w v h0 x_0 = F_X7_type G w v h0 x_0 := rfl
  refine J_iload_n E dX7_type_0 1 rfl ?_
  refine J_iconst E 0 dX7_type_1 (by decide) ?_
  refine J_bipush E 127 dX7_type_2 (by decide) ?_
  refine J_callSI E cal_X7_isWithin wd361 [.int x_0, .int 0, .int 127] [] (ct_X7_isWithin l D dA G v w (hOk) x_0 0 127) rfl rfl (Nat.le_of_ble_eq_true rfl) ⟨rfl, rfl⟩ ⟨Nat.le_of_ble_eq_true rfl, Nat.le_of_ble_eq_true rfl⟩ dX7_type_4 (fun x4 v1 w2 p3 => ?_)
  rw [p3.1, p3.2.1]
  have b5 : Bd x4 0 1 := p3.2.2.1
  have e6 : x4 = F_X7_isWithin G w v x_0 (0 : Int32) (127 : Int32) := (p3.2.2.2.2.2)
  refine J_if_ne E 15 dX7_type_7 (by decide) (fun c7 => ?_) (fun c7 => ?_)
  · have b8 : Bd x4 1 1 := (Bd.ne_lo c7 b5 (Bd.lit 0 0 (by decide))).w _ _ (by decide)
    have g9 := (p3.2.2.2.1).resolve_left c7
    have b10 : Bd x_0 0 I1 := Bd.le_r g9.1 (Bd.lit 0 0 (by decide)) (Bd.any x_0) 0 (by decide)
    have b11 : Bd x_0 0 127 := Bd.le_l g9.2 b10 (Bd.lit 127 127 (by decide)) 127 (by decide)
    refine J_aload_n E dX7_type_15 0 rfl ?_
    refine J_getR E in_X7 rfl (S_X7.h S0) 1 (by decide) wd309 rfl dX7_type_16 ?_
    refine J_getIN E in_X3 rfl (S_X3.h (S_X7.f1 S0)) 1 (by decide) wd254 rfl dX7_type_19 (fun x12 e13 => ?_)
    have b14 : Bd x12 0 150 := Ok.fd hOk e13 (S_X3.h (S_X7.f1 S0)) rfl
    refine J_sipush E 150 dX7_type_22 (by decide) ?_
    refine J_icmp_lt E 33 dX7_type_25 (by decide) (fun c15 => ?_) (fun c15 => ?_)
    · have b16 : Bd x12 0 149 := Bd.lt_l c15 b14 (Bd.lit 150 150 (by decide)) 149 (by decide)
      refine J_aload_n E dX7_type_33 0 rfl ?_
      refine J_getR E in_X7 rfl (S_X7.h S0) 1 (by decide) wd309 rfl dX7_type_34 ?_
      refine J_iload_n E dX7_type_37 1 rfl ?_
      refine J_callVNI E cal_X3_append wd388 rfl (S_X3.h (S_X7.f1 S0)) [.int x_0] [] (ct_X3_append l D dA G v w (hOk) (rf G h0 1) (S_X7.f1 S0) x_0 b11 x12 (e13) b16) rfl rfl (Nat.le_of_ble_eq_true rfl) ⟨rfl, rfl⟩ ⟨Nat.le_of_ble_eq_true rfl, Nat.le_of_ble_eq_true rfl⟩ dX7_type_38 (fun x20 v17 w18 p19 => ?_)
      have ew9 : w = w18 := p19.2.2.2.1.1.symm
      subst ew9
      have o21 := p19.1
      have k22 : True := trivial
      have f23 : Fr G [3, 7, 250] v v17 := Fr.tr Fr.rf (p19.2.2.2.2) (by decide)
      have b24 : Bd x20 1 150 := p19.2.2.1
      have e25 : x20 = (F_X3_append G w v (rf G h0 1) x_0).1 := congrArg Prod.fst (p19.2.2.2.1).2
      have e26 : v17 = (F_X3_append G w v (rf G h0 1) x_0).2 := congrArg Prod.snd (p19.2.2.2.1).2
      have hK : K_X7_type_c1 G w h0 v17 x20 = F_X7_type G w v h0 x_0 := ((kx_X7_type_1 (e6) (e13) (e25) (e26) (c7) (c15)).symm.trans hK)
      exact J_iret E hr dX7_type_41 ⟨o21, k22, trivial, ⟨⟨rfl, ((kx_X7_type_2).symm.trans hK)⟩, f23⟩⟩
    · have b27 : Bd x12 150 150 := Bd.le_r (nlt c15) (Bd.lit 150 150 (by decide)) b14 150 (by decide)
      refine J_aload_n E dX7_type_28 0 rfl ?_
      refine J_callVI E cal_X7_full wd368 rfl (S_X7.h S0) [] [] (ct_X7_full l D dA G v w (hOk) h0 S0) rfl rfl (Nat.le_of_ble_eq_true rfl) ⟨rfl, rfl⟩ ⟨Nat.le_of_ble_eq_true rfl, Nat.le_of_ble_eq_true rfl⟩ dX7_type_29 (fun x31 v28 w29 p30 => ?_)
      have ew9 : w = w29 := p30.2.2.2.1.1.symm
      subst ew9
      have o32 := p30.1
      have k33 : True := trivial
      have f34 : Fr G [3, 7, 250] v v28 := Fr.tr Fr.rf (p30.2.2.2.2) (by decide)
      have b35 : Bd x31 (-4) (-4) := p30.2.2.1
      have e36 : x31 = (F_X7_full G w v h0).1 := congrArg Prod.fst (p30.2.2.2.1).2
      have e37 : v28 = (F_X7_full G w v h0).2 := congrArg Prod.snd (p30.2.2.2.1).2
      have hK : K_X7_type_c2 G w h0 v28 x31 = F_X7_type G w v h0 x_0 := ((kx_X7_type_3 (e6) (e13) (e36) (e37) (c7) (c15)).symm.trans hK)
      exact J_iret E hr dX7_type_32 ⟨o32, k33, trivial, ⟨⟨rfl, ((kx_X7_type_4).symm.trans hK)⟩, f34⟩⟩
  · have b38 : Bd x4 0 0 := Bd.eq_l c7 b5 (Bd.lit 0 0 (by decide)) 0 0 (by decide)
    have g39 : ¬ (0 ≤ x_0 ∧ x_0 ≤ 127) := (p3.2.2.2.2.1).resolve_left (fun h9 => h9 c7)
    refine J_aload_n E dX7_type_10 0 rfl ?_
    refine J_callVI E cal_X7_bad wd364 rfl (S_X7.h S0) [] [] (ct_X7_bad l D dA G v w (hOk) h0 S0) rfl rfl (Nat.le_of_ble_eq_true rfl) ⟨rfl, rfl⟩ ⟨Nat.le_of_ble_eq_true rfl, Nat.le_of_ble_eq_true rfl⟩ dX7_type_11 (fun x43 v40 w41 p42 => ?_)
    have ew9 : w = w41 := p42.2.2.2.1.1.symm
    subst ew9
    have o44 := p42.1
    have k45 : True := trivial
    have f46 : Fr G [3, 7, 250] v v40 := Fr.tr Fr.rf (p42.2.2.2.2) (by decide)
    have b47 : Bd x43 (-2) (-2) := p42.2.2.1
    have e48 : x43 = (F_X7_bad G w v h0).1 := congrArg Prod.fst (p42.2.2.2.1).2
    have e49 : v40 = (F_X7_bad G w v h0).2 := congrArg Prod.snd (p42.2.2.2.1).2
    have hK : K_X7_type_c3 G w h0 v40 x43 = F_X7_type G w v h0 x_0 := ((kx_X7_type_5 (e6) (e48) (e49) (c7)).symm.trans hK)
    exact J_iret E hr dX7_type_14 ⟨o44, k45, trivial, ⟨⟨rfl, ((kx_X7_type_6).symm.trans hK)⟩, f46⟩⟩

def K_X7_clear_e (G : Gm) (w : Mw) (v : Mv) (h0 : Nat) : Int32 × Mv :=
  ((v (rf G h0 1) 1), (stv v (rf G h0 1) 1 (0 : Int32)))
def F_X7_clear (G : Gm) (w : Mw) (v : Mv) (h0 : Nat) : Int32 × Mv := K_X7_clear_e G w v h0
set_option maxRecDepth 100000 in
theorem kx_X7_clear_1 {G : Gm} {w : Mw} {v : Mv} {h0 : Nat} {x1 : Int32} {v4 : Mv} (a0 : x1 = v (rf G h0 1) 1) (a1 : v4 = stv v (rf G h0 1) 1 (0 : Int32))  : K_X7_clear_e G w v h0 = (x1, v4) := by
  subst a1; subst a0; first | rw [K_X7_clear_e] | simp only [K_X7_clear_e]
abbrev rm_X7_clear : Room := { frames := 0, cells := 0, slots := 0, locals := 0 }
set_option maxHeartbeats 4000000 in
set_option maxRecDepth 100000 in
theorem ct_X7_clear (l : Launch) (D : va_G) (dA : Nat → ClassId) (G : Gm) (v : Mv) (w : Mw) (hOk : Ok G v w) (h0 : Nat) (S0 : S_X7 G h0) : CtI l yX7_clear cX7_clear 2 (some .int) rm_X7_clear D dA G [.ref h0] v w (fun r v1 w1 => Ok G v1 w1 ∧ True ∧ Bd r 0 150 ∧ (w1 = w ∧ (r, v1) = F_X7_clear G w v h0) ∧ Fr G [3] v v1) := by
  refine CtI.of RX7 [(0, .ref h0)] (Nat.le_of_ble_eq_true rfl) rfl (by decide) rfl ?_
  intro p e s m args below meth c E hr
  have hK : K_X7_clear_e G w v h0 = F_X7_clear G w v h0 := rfl
  refine J_aload_n E dX7_clear_0 0 rfl ?_
  refine J_getR E in_X7 rfl (S_X7.h S0) 1 (by decide) wd309 rfl dX7_clear_1 ?_
  refine J_getIN E in_X3 rfl (S_X3.h (S_X7.f1 S0)) 1 (by decide) wd254 rfl dX7_clear_4 (fun x1 e2 => ?_)
  have b3 : Bd x1 0 150 := Ok.fd hOk e2 (S_X3.h (S_X7.f1 S0)) rfl
  refine J_istore_n E [(1, .int x1), (0, .ref h0)] dX7_clear_7 rfl (by decide) rfl ?_
  refine J_aload_n E dX7_clear_8 1 rfl ?_
  refine J_getR E in_X7 rfl (S_X7.h S0) 1 (by decide) wd309 rfl dX7_clear_9 ?_
  refine J_iconst E 0 dX7_clear_12 (by decide) ?_
  refine J_pIN E in_X3 rfl (S_X3.h (S_X7.f1 S0)) 1 (by decide) wd254 tyX3 tyX3_ok nmX3 rfl rfl .int (by decide +kernel) rfl rfl dX7_clear_13 (fun v4 e5 => ?_)
  have o6 : Ok G v4 w := Ok.pf hOk e5 (S_X3.h (S_X7.f1 S0)) rfl ((Bd.lit 0 0 (by decide)).w 0 150 (by decide))
  have f8 : Fr G [3] v v4 := Fr.st Fr.rf e5 (S_X3.h (S_X7.f1 S0)) rfl
  have e9 : (0 : Int32) = v4 (rf G h0 1) 1 := by rw [e5, stv_s]
  refine J_iload_n E dX7_clear_16 0 rfl ?_
  exact J_iret E hr dX7_clear_17 ⟨o6, trivial, b3, ⟨⟨rfl, ((kx_X7_clear_1 (e2) (e5)).symm.trans hK)⟩, f8⟩⟩

def K_X7_no_e (G : Gm) (w : Mw) (v : Mv) (h0 : Nat) : Int32 × Mv :=
  ((-3 : Int32), (stv v h0 10 ((v h0 10) + (1 : Int32))))
def F_X7_no (G : Gm) (w : Mw) (v : Mv) (h0 : Nat) : Int32 × Mv := K_X7_no_e G w v h0
set_option maxRecDepth 100000 in
theorem kx_X7_no_1 {G : Gm} {w : Mw} {v : Mv} {h0 : Nat} {v5 : Mv} {x1 : Int32} {x3 : Int32} (a0 : x1 = v h0 10) (a1 : x3 = x1 + (1 : Int32)) (a2 : v5 = stv v h0 10 x3)  : K_X7_no_e G w v h0 = ((-3 : Int32), v5) := by
  subst a2; subst a1; subst a0; first | rw [K_X7_no_e] | simp only [K_X7_no_e]
abbrev rm_X7_no : Room := { frames := 0, cells := 0, slots := 0, locals := 0 }
set_option maxHeartbeats 4000000 in
set_option maxRecDepth 100000 in
theorem ct_X7_no (l : Launch) (D : va_G) (dA : Nat → ClassId) (G : Gm) (v : Mv) (w : Mw) (hOk : Ok G v w) (h0 : Nat) (S0 : S_X7 G h0) : CtI l yX7_no cX7_no 1 (some .int) rm_X7_no D dA G [.ref h0] v w (fun r v1 w1 => Ok G v1 w1 ∧ Kp G v v1 ∧ Bd r (-3) (-3) ∧ (w1 = w ∧ (r, v1) = F_X7_no G w v h0) ∧ Fr G [7] v v1) := by
  refine CtI.of RX7 [(0, .ref h0)] (Nat.le_of_ble_eq_true rfl) rfl (by decide) rfl ?_
  intro p e s m args below meth c E hr
  have hK : K_X7_no_e G w v h0 = F_X7_no G w v h0 := rfl
  refine J_aload_n E dX7_no_0 0 rfl ?_
  refine J_dup E dX7_no_1 rfl ?_
  refine J_getI E in_X7 rfl (S_X7.h S0) 10 (by decide) wd318 rfl dX7_no_2 (fun x1 e2 => ?_)
  refine J_iconst E 1 dX7_no_5 (by decide) ?_
  refine J_iadd E dX7_no_6 (fun x3 e4 => ?_)
  refine J_pI E in_X7 rfl (S_X7.h S0) 10 (by decide) wd318 tyX7 tyX7_ok nmX7 rfl rfl .int (by decide +kernel) rfl rfl dX7_no_7 (fun v5 e6 => ?_)
  have o7 : Ok G v5 w := Ok.pf hOk e6 (S_X7.h S0) rfl (Bd.any x3)
  have k8 : Kp G v v5 := Kp.pf Kp.rf e6 (S_X7.h S0) rfl
  have f9 : Fr G [7] v v5 := Fr.st Fr.rf e6 (S_X7.h S0) rfl
  have e10 : x3 = v5 h0 10 := by rw [e6, stv_s]
  refine J_bipush E (-3) dX7_no_10 (by decide) ?_
  exact J_iret E hr dX7_no_12 ⟨o7, k8, (Bd.lit (-3) (-3) (by decide)), ⟨⟨rfl, ((kx_X7_no_1 (e2) (e4) (e6)).symm.trans hK)⟩, f9⟩⟩

abbrev rm_X7_owns : Room := { frames := 4, cells := 0, slots := 0, locals := 91 }
set_option maxHeartbeats 4000000 in
set_option maxRecDepth 100000 in
theorem ct_X7_owns (l : Launch) (D : va_G) (dA : Nat → ClassId) (G : Gm) (v : Mv) (w : Mw) (hOk : Ok G v w) (h0 : Nat) (S0 : S_X7 G h0) (x_0 : Int32) (x_1 : Int32) : CtI l yX7_owns cX7_owns 3 (some .int) rm_X7_owns D dA G [.ref h0, .int x_0, .int x_1] v w (fun r v1 w1 => Ok G v1 w1 ∧ Kp G v v1 ∧ True ∧ Fr G [2, 6, 7, 107, 40108] v v1) := by
  refine CtI.of RX7 [(0, .ref h0), (1, .int x_0), (2, .int x_1)] (Nat.le_of_ble_eq_true rfl) rfl (by decide) rfl ?_
  intro p e s m args below meth c E hr
  have J50 :  J p l e rm_X7_owns s m args below meth c 0 0 (MQ below (QcI D dA G (fun r v1 w1 => Ok G v1 w1 ∧ Kp G v v1 ∧ True ∧ Fr G [2, 6, 7, 107, 40108] v v1)) args s 0 0 (dm G)) D dA G (dm G) s.heap 3 v w [(0, .ref h0)] 50 [] := by
    refine J_aload_n E dX7_owns_50 0 rfl ?_
    refine J_callVI E cal_X7_no wd591 rfl (S_X7.h S0) [] [] (ct_X7_no l D dA G v w (hOk) h0 S0) rfl rfl (Nat.le_of_ble_eq_true rfl) ⟨rfl, rfl⟩ ⟨Nat.le_of_ble_eq_true rfl, Nat.le_of_ble_eq_true rfl⟩ dX7_owns_51 (fun x4 v1 w2 p3 => ?_)
    have ew9 : w = w2 := p3.2.2.2.1.1.symm
    subst ew9
    have o5 := p3.1
    have k6 : Kp G v v1 := (Kp.rf).tr p3.2.1
    have f7 : Fr G [2, 6, 7, 107, 40108] v v1 := Fr.tr Fr.rf (p3.2.2.2.2) (by decide)
    have b8 : Bd x4 (-3) (-3) := p3.2.2.1
    exact J_iret E hr dX7_owns_54 ⟨o5, k6, trivial, f7⟩
  have J22 :  J p l e rm_X7_owns s m args below meth c 0 0 (MQ below (QcI D dA G (fun r v1 w1 => Ok G v1 w1 ∧ Kp G v v1 ∧ True ∧ Fr G [2, 6, 7, 107, 40108] v v1)) args s 0 0 (dm G)) D dA G (dm G) s.heap 3 v w [(0, .ref h0)] 22 [] := by
    refine J_aload_n E dX7_owns_22 0 rfl ?_
    refine J_callVI E cal_X7_bad wd364 rfl (S_X7.h S0) [] [] (ct_X7_bad l D dA G v w (hOk) h0 S0) rfl rfl (Nat.le_of_ble_eq_true rfl) ⟨rfl, rfl⟩ ⟨Nat.le_of_ble_eq_true rfl, Nat.le_of_ble_eq_true rfl⟩ dX7_owns_23 (fun x12 v9 w10 p11 => ?_)
    have ew9 : w = w10 := p11.2.2.2.1.1.symm
    subst ew9
    have o13 := p11.1
    have k14 : Kp G v v9 := (Kp.rf).tr p11.2.1
    have f15 : Fr G [2, 6, 7, 107, 40108] v v9 := Fr.tr Fr.rf (p11.2.2.2.2) (by decide)
    have b16 : Bd x12 (-2) (-2) := p11.2.2.1
    exact J_iret E hr dX7_owns_26 ⟨o13, k14, trivial, f15⟩
  refine J_aload_n E dX7_owns_0 0 rfl ?_
  refine J_getR E in_X7 rfl (S_X7.h S0) 0 (by decide) wd308 rfl dX7_owns_1 ?_
  refine J_iload_n E dX7_owns_4 1 rfl ?_
  refine J_callVNI E cal_X6_hasOne wd584 rfl (S_X6.h (S_X7.f0 S0)) [.int x_0] [] (ct_X6_hasOne l D dA G v w (hOk) (rf G h0 0) (S_X7.f0 S0) x_0) rfl rfl (Nat.le_of_ble_eq_true rfl) ⟨rfl, rfl⟩ ⟨Nat.le_of_ble_eq_true rfl, Nat.le_of_ble_eq_true rfl⟩ dX7_owns_5 (fun x20 v17 w18 p19 => ?_)
  rw [p19.1, p19.2.1]
  have b21 : Bd x20 0 1 := p19.2.2.1
  refine J_if_eq E 22 dX7_owns_8 (by decide) (fun c22 => ?_) (fun c22 => ?_)
  · have b23 : Bd x20 0 0 := Bd.eq_l c22 b21 (Bd.lit 0 0 (by decide)) 0 0 (by decide)
    exact J.sub [0] rfl (J22)
  · have b24 : Bd x20 1 1 := (Bd.ne_lo c22 b21 (Bd.lit 0 0 (by decide))).w _ _ (by decide)
    have b25 : Bd x_0 0 6 := (p19.2.2.2.1).resolve_left c22
    refine J_aload_n E dX7_owns_11 0 rfl ?_
    refine J_getR E in_X7 rfl (S_X7.h S0) 0 (by decide) wd308 rfl dX7_owns_12 ?_
    refine J_iload_n E dX7_owns_15 2 rfl ?_
    refine J_callVNI E cal_X6_hasThing wd588 rfl (S_X6.h (S_X7.f0 S0)) [.int x_1] [] (ct_X6_hasThing l D dA G v w (hOk) (rf G h0 0) (S_X7.f0 S0) x_1) rfl rfl (Nat.le_of_ble_eq_true rfl) ⟨rfl, rfl⟩ ⟨Nat.le_of_ble_eq_true rfl, Nat.le_of_ble_eq_true rfl⟩ dX7_owns_16 (fun x29 v26 w27 p28 => ?_)
    rw [p28.1, p28.2.1]
    have b30 : Bd x29 0 1 := p28.2.2.1
    refine J_if_ne E 27 dX7_owns_19 (by decide) (fun c31 => ?_) (fun c31 => ?_)
    · have b32 : Bd x29 1 1 := (Bd.ne_lo c31 b30 (Bd.lit 0 0 (by decide))).w _ _ (by decide)
      have b33 : Bd x_1 0 6 := (p28.2.2.2.1).resolve_left c31
      refine J_aload_n E dX7_owns_27 0 rfl ?_
      refine J_getR E in_X7 rfl (S_X7.h S0) 0 (by decide) wd308 rfl dX7_owns_28 ?_
      refine J_iload_n E dX7_owns_31 1 rfl ?_
      refine J_callVNI E cal_X6_mayGet wd589 rfl (S_X6.h (S_X7.f0 S0)) [.int x_0] [] (ct_X6_mayGet l D dA G v w (hOk) (rf G h0 0) (S_X7.f0 S0) x_0 b25) rfl rfl (Nat.le_of_ble_eq_true rfl) ⟨rfl, rfl⟩ ⟨Nat.le_of_ble_eq_true rfl, Nat.le_of_ble_eq_true rfl⟩ dX7_owns_32 (fun x37 v34 w35 p36 => ?_)
      rw [p36.1, p36.2.1]
      have b38 : Bd x37 0 1 := p36.2.2.1
      refine J_if_eq E 50 dX7_owns_35 (by decide) (fun c39 => ?_) (fun c39 => ?_)
      · have b40 : Bd x37 0 0 := Bd.eq_l c39 b38 (Bd.lit 0 0 (by decide)) 0 0 (by decide)
        exact J.sub [0] rfl (J50)
      · have b41 : Bd x37 1 1 := (Bd.ne_lo c39 b38 (Bd.lit 0 0 (by decide))).w _ _ (by decide)
        refine J_aload_n E dX7_owns_38 0 rfl ?_
        refine J_getR E in_X7 rfl (S_X7.h S0) 0 (by decide) wd308 rfl dX7_owns_39 ?_
        refine J_iload_n E dX7_owns_42 2 rfl ?_
        refine J_callVNI E cal_X6_ownerOf wd590 rfl (S_X6.h (S_X7.f0 S0)) [.int x_1] [] (ct_X6_ownerOf l D dA G v w (hOk) (rf G h0 0) (S_X7.f0 S0) x_1 b33) rfl rfl (Nat.le_of_ble_eq_true rfl) ⟨rfl, rfl⟩ ⟨Nat.le_of_ble_eq_true rfl, Nat.le_of_ble_eq_true rfl⟩ dX7_owns_43 (fun x45 v42 w43 p44 => ?_)
        rw [p44.1, p44.2.1]
        refine J_iconst E (-1) dX7_owns_46 (by decide) ?_
        refine J_icmp_eq E 55 dX7_owns_47 (by decide) (fun c46 => ?_) (fun c46 => ?_)
        · have b47 : Bd x45 (-1) (-1) := Bd.eq_l c46 (Bd.any x45) (Bd.lit (-1) (-1) (by decide)) (-1) (-1) (by decide)
          refine J_aload_n E dX7_owns_55 0 rfl ?_
          refine J_getR E in_X7 rfl (S_X7.h S0) 0 (by decide) wd308 rfl dX7_owns_56 ?_
          refine J_callVNV E cal_X6_remember wd595 rfl (S_X6.h (S_X7.f0 S0)) [] [] (ct_X6_remember l D dA G v w (hOk) (rf G h0 0) (S_X7.f0 S0)) rfl rfl (Nat.le_of_ble_eq_true rfl) ⟨rfl, rfl⟩ ⟨Nat.le_of_ble_eq_true rfl, Nat.le_of_ble_eq_true rfl⟩ dX7_owns_59 (fun v48 w49 p50 => ?_)
          have o52 := p50.1
          have k53 : Kp G v v48 := (Kp.rf).tr p50.2.1
          have f54 : Fr G [2, 6, 7, 107, 40108] v v48 := Fr.tr Fr.rf (p50.2.2) (by decide)
          refine J_aload_n E dX7_owns_62 0 rfl ?_
          refine J_getR E in_X7 rfl (S_X7.h S0) 0 (by decide) wd308 rfl dX7_owns_63 ?_
          refine J_getRN E in_X6 rfl (S_X6.h (S_X7.f0 S0)) 6 (by decide) wd209 rfl dX7_owns_66 ?_
          refine J_getRN E in_X2 rfl (S_X2.h (S_X6.f6 (S_X7.f0 S0))) 1 (by decide) wd155 rfl dX7_owns_69 ?_
          refine J_iload_n E dX7_owns_72 1 rfl ?_
          refine J_iload_n E dX7_owns_73 2 rfl ?_
          refine J_iast1 E (S_X2.f1 (S_X6.f6 (S_X7.f0 S0))) (Bd.in b25 (by decide)) dX7_owns_74 (fun v55 e56 => ?_)
          have o57 : Ok G v55 w49 := by rw [e56]; exact Ok.sv o52 (S_X2.f1 (S_X6.f6 (S_X7.f0 S0))) b25 b33 0 7 (by decide) (by decide +kernel)
          have k58 : Kp G v v55 := by rw [e56]; exact Kp.sv k53 (S_X2.f1 (S_X6.f6 (S_X7.f0 S0))) b25 0 7 0 6 (by decide) (by decide +kernel)
          have f59 : Fr G [2, 6, 7, 107, 40108] v v55 := Fr.st f54 e56 (S_X2.f1 (S_X6.f6 (S_X7.f0 S0))) rfl
          refine J_aload_n E dX7_owns_75 0 rfl ?_
          refine J_getR E in_X7 rfl (S_X7.h S0) 0 (by decide) wd308 rfl dX7_owns_76 ?_
          refine J_iload_n E dX7_owns_79 2 rfl ?_
          refine J_iload_n E dX7_owns_80 1 rfl ?_
          refine J_iconst E 1 dX7_owns_81 (by decide) ?_
          refine J_callVNI E cal_X6_holdsFor wd599 rfl (S_X6.h (S_X7.f0 S0)) [.int x_1, .int x_0, .int 1] [] (ct_X6_holdsFor l D dA G v55 w49 (o57) (rf G h0 0) (S_X7.f0 S0) x_1 b33 x_0 b25 1 ((Bd.lit 1 1 (by decide)).w 1 60 (by decide))) rfl rfl (Nat.le_of_ble_eq_true rfl) ⟨rfl, rfl⟩ ⟨Nat.le_of_ble_eq_true rfl, Nat.le_of_ble_eq_true rfl⟩ dX7_owns_82 (fun x63 v60 w61 p62 => ?_)
          rw [p62.1, p62.2.1]
          have b64 : Bd x63 0 60 := p62.2.2.1
          exact J_iret E hr dX7_owns_85 ⟨o57, k58, trivial, f59⟩
        · exact J.sub [0] rfl (J50)
    · have b65 : Bd x29 0 0 := Bd.eq_l c31 b30 (Bd.lit 0 0 (by decide)) 0 0 (by decide)
      exact J.sub [0] rfl (J22)

abbrev rm_X7_leaves : Room := { frames := 2, cells := 0, slots := 0, locals := 44 }
set_option maxHeartbeats 4000000 in
set_option maxRecDepth 100000 in
theorem ct_X7_leaves (l : Launch) (D : va_G) (dA : Nat → ClassId) (G : Gm) (v : Mv) (w : Mw) (hOk : Ok G v w) (h0 : Nat) (S0 : S_X7 G h0) (x_0 : Int32) : CtI l yX7_leaves cX7_leaves 3 (some .int) rm_X7_leaves D dA G [.ref h0, .int x_0] v w (fun r v1 w1 => Ok G v1 w1 ∧ Kp G v v1 ∧ True ∧ Fr G [2, 6, 7, 107, 40108] v v1) := by
  refine CtI.of RX7 [(0, .ref h0), (1, .int x_0)] (Nat.le_of_ble_eq_true rfl) rfl (by decide) rfl ?_
  intro p e s m args below meth c E hr
  refine J_aload_n E dX7_leaves_0 0 rfl ?_
  refine J_getR E in_X7 rfl (S_X7.h S0) 0 (by decide) wd308 rfl dX7_leaves_1 ?_
  refine J_iload_n E dX7_leaves_4 1 rfl ?_
  refine J_callVNI E cal_X6_hasOne wd584 rfl (S_X6.h (S_X7.f0 S0)) [.int x_0] [] (ct_X6_hasOne l D dA G v w (hOk) (rf G h0 0) (S_X7.f0 S0) x_0) rfl rfl (Nat.le_of_ble_eq_true rfl) ⟨rfl, rfl⟩ ⟨Nat.le_of_ble_eq_true rfl, Nat.le_of_ble_eq_true rfl⟩ dX7_leaves_5 (fun x4 v1 w2 p3 => ?_)
  rw [p3.1, p3.2.1]
  have b5 : Bd x4 0 1 := p3.2.2.1
  refine J_if_ne E 16 dX7_leaves_8 (by decide) (fun c6 => ?_) (fun c6 => ?_)
  · have b7 : Bd x4 1 1 := (Bd.ne_lo c6 b5 (Bd.lit 0 0 (by decide))).w _ _ (by decide)
    have b8 : Bd x_0 0 6 := (p3.2.2.2.1).resolve_left c6
    refine J_aload_n E dX7_leaves_16 0 rfl ?_
    refine J_getR E in_X7 rfl (S_X7.h S0) 0 (by decide) wd308 rfl dX7_leaves_17 ?_
    refine J_getRN E in_X6 rfl (S_X6.h (S_X7.f0 S0)) 6 (by decide) wd209 rfl dX7_leaves_20 ?_
    refine J_getRN E in_X2 rfl (S_X2.h (S_X6.f6 (S_X7.f0 S0))) 1 (by decide) wd155 rfl dX7_leaves_23 ?_
    refine J_iload_n E dX7_leaves_26 1 rfl ?_
    refine J_iald1 E (S_X2.f1 (S_X6.f6 (S_X7.f0 S0))) (Bd.in b8 (by decide)) dX7_leaves_27 (fun x9 e10 => ?_)
    refine J_istore_n E [(2, .int x9), (0, .ref h0), (1, .int x_0)] dX7_leaves_28 rfl (by decide) rfl ?_
    refine J_iload_n E dX7_leaves_29 0 rfl ?_
    refine J_iconst E (-1) dX7_leaves_30 (by decide) ?_
    refine J_icmp_ne E 39 dX7_leaves_31 (by decide) (fun c11 => ?_) (fun c11 => ?_)
    · refine J_aload_n E dX7_leaves_39 1 rfl ?_
      refine J_getR E in_X7 rfl (S_X7.h S0) 0 (by decide) wd308 rfl dX7_leaves_40 ?_
      refine J_callVNV E cal_X6_remember wd595 rfl (S_X6.h (S_X7.f0 S0)) [] [] (ct_X6_remember l D dA G v w (hOk) (rf G h0 0) (S_X7.f0 S0)) rfl rfl (Nat.le_of_ble_eq_true rfl) ⟨rfl, rfl⟩ ⟨Nat.le_of_ble_eq_true rfl, Nat.le_of_ble_eq_true rfl⟩ dX7_leaves_43 (fun v12 w13 p14 => ?_)
      have o16 := p14.1
      have k17 : Kp G v v12 := (Kp.rf).tr p14.2.1
      have f18 : Fr G [2, 6, 7, 107, 40108] v v12 := Fr.tr Fr.rf (p14.2.2) (by decide)
      refine J_aload_n E dX7_leaves_46 1 rfl ?_
      refine J_getR E in_X7 rfl (S_X7.h S0) 0 (by decide) wd308 rfl dX7_leaves_47 ?_
      refine J_getRN E in_X6 rfl (S_X6.h (S_X7.f0 S0)) 6 (by decide) wd209 rfl dX7_leaves_50 ?_
      refine J_getRN E in_X2 rfl (S_X2.h (S_X6.f6 (S_X7.f0 S0))) 1 (by decide) wd155 rfl dX7_leaves_53 ?_
      refine J_iload_n E dX7_leaves_56 2 rfl ?_
      refine J_iconst E (-1) dX7_leaves_57 (by decide) ?_
      refine J_iast1 E (S_X2.f1 (S_X6.f6 (S_X7.f0 S0))) (Bd.in b8 (by decide)) dX7_leaves_58 (fun v19 e20 => ?_)
      have o21 : Ok G v19 w13 := by rw [e20]; exact Ok.sv o16 (S_X2.f1 (S_X6.f6 (S_X7.f0 S0))) b8 (Bd.lit (-1) (-1) (by decide)) 0 7 (by decide) (by decide +kernel)
      have k22 : Kp G v v19 := by rw [e20]; exact Kp.sv k17 (S_X2.f1 (S_X6.f6 (S_X7.f0 S0))) b8 0 7 (-1) (-1) (by decide) (by decide +kernel)
      have f23 : Fr G [2, 6, 7, 107, 40108] v v19 := Fr.st f18 e20 (S_X2.f1 (S_X6.f6 (S_X7.f0 S0))) rfl
      refine J_iload_n E dX7_leaves_59 0 rfl ?_
      exact J_iret E hr dX7_leaves_60 ⟨o21, k22, trivial, f23⟩
    · have b24 : Bd x9 (-1) (-1) := Bd.eq_l c11 (Bd.any x9) (Bd.lit (-1) (-1) (by decide)) (-1) (-1) (by decide)
      refine J_aload_n E dX7_leaves_34 1 rfl ?_
      refine J_callVI E cal_X7_no wd591 rfl (S_X7.h S0) [] [] (ct_X7_no l D dA G v w (hOk) h0 S0) rfl rfl (Nat.le_of_ble_eq_true rfl) ⟨rfl, rfl⟩ ⟨Nat.le_of_ble_eq_true rfl, Nat.le_of_ble_eq_true rfl⟩ dX7_leaves_35 (fun x28 v25 w26 p27 => ?_)
      have ew9 : w = w26 := p27.2.2.2.1.1.symm
      subst ew9
      have o29 := p27.1
      have k30 : Kp G v v25 := (Kp.rf).tr p27.2.1
      have f31 : Fr G [2, 6, 7, 107, 40108] v v25 := Fr.tr Fr.rf (p27.2.2.2.2) (by decide)
      have b32 : Bd x28 (-3) (-3) := p27.2.2.1
      exact J_iret E hr dX7_leaves_38 ⟨o29, k30, trivial, f31⟩
  · have b33 : Bd x4 0 0 := Bd.eq_l c6 b5 (Bd.lit 0 0 (by decide)) 0 0 (by decide)
    refine J_aload_n E dX7_leaves_11 0 rfl ?_
    refine J_callVI E cal_X7_bad wd364 rfl (S_X7.h S0) [] [] (ct_X7_bad l D dA G v w (hOk) h0 S0) rfl rfl (Nat.le_of_ble_eq_true rfl) ⟨rfl, rfl⟩ ⟨Nat.le_of_ble_eq_true rfl, Nat.le_of_ble_eq_true rfl⟩ dX7_leaves_12 (fun x37 v34 w35 p36 => ?_)
    have ew9 : w = w35 := p36.2.2.2.1.1.symm
    subst ew9
    have o38 := p36.1
    have k39 : Kp G v v34 := (Kp.rf).tr p36.2.1
    have f40 : Fr G [2, 6, 7, 107, 40108] v v34 := Fr.tr Fr.rf (p36.2.2.2.2) (by decide)
    have b41 : Bd x37 (-2) (-2) := p36.2.2.1
    exact J_iret E hr dX7_leaves_15 ⟨o38, k39, trivial, f40⟩

abbrev rm_X7_years : Room := { frames := 4, cells := 0, slots := 0, locals := 92 }
set_option maxHeartbeats 4000000 in
set_option maxRecDepth 100000 in
theorem ct_X7_years (l : Launch) (D : va_G) (dA : Nat → ClassId) (G : Gm) (v : Mv) (w : Mw) (hOk : Ok G v w) (h0 : Nat) (S0 : S_X7 G h0) (x_0 : Int32) : CtI l yX7_years cX7_years 2 (some .int) rm_X7_years D dA G [.ref h0, .int x_0] v w (fun r v1 w1 => Ok G v1 w1 ∧ Kp G v v1 ∧ True ∧ Fr G [2, 6, 7, 107, 40108] v v1) := by
  refine CtI.of RX7 [(0, .ref h0), (1, .int x_0)] (Nat.le_of_ble_eq_true rfl) rfl (by decide) rfl ?_
  intro p e s m args below meth c E hr
  have J38 : ∀ (v1 : Mv) (w2 : Mw), Ok G v1 w2 → Kp G v v1 → Fr G [2, 6, 7, 107, 40108] v v1 → Bd x_0 1 60 → J p l e rm_X7_years s m args below meth c 0 0 (MQ below (QcI D dA G (fun r v1 w1 => Ok G v1 w1 ∧ Kp G v v1 ∧ True ∧ Fr G [2, 6, 7, 107, 40108] v v1)) args s 0 0 (dm G)) D dA G (dm G) s.heap 2 v1 w2 [(0, .ref h0), (1, .int x_0)] 38 [] := by
    intro v1 w2 o3 k4 f5 b6
    refine J_aload_n E dX7_years_38 0 rfl ?_
    refine J_getR E in_X7 rfl (S_X7.h S0) 0 (by decide) wd308 rfl dX7_years_39 ?_
    refine J_aload_n E dX7_years_42 0 rfl ?_
    refine J_getR E in_X7 rfl (S_X7.h S0) 0 (by decide) wd308 rfl dX7_years_43 ?_
    refine J_getRN E in_X6 rfl (S_X6.h (S_X7.f0 S0)) 6 (by decide) wd209 rfl dX7_years_46 ?_
    refine J_iload_n E dX7_years_49 1 rfl ?_
    refine J_sipush E 999 dX7_years_50 (by decide) ?_
    refine J_callVNV E cal_X6_passYears wd620 rfl (S_X6.h (S_X7.f0 S0)) [.ref (rf G (rf G h0 0) 6), .int x_0, .int 999] [] (ct_X6_passYears l D dA G v1 w2 (o3) (rf G h0 0) (S_X7.f0 S0) (rf G (rf G h0 0) 6) (S_X6.f6 (S_X7.f0 S0)) x_0 (b6.w 0 99 (by decide)) 999 ((Bd.lit 999 999 (by decide)).w 999 1059 (by decide))) rfl rfl (Nat.le_of_ble_eq_true rfl) ⟨rfl, rfl⟩ ⟨Nat.le_of_ble_eq_true rfl, Nat.le_of_ble_eq_true rfl⟩ dX7_years_53 (fun v7 w8 p9 => ?_)
    have ew9 : w2 = w8 := p9.2.2.1.1.symm
    subst ew9
    have o11 := p9.1
    have k12 : Kp G v v7 := (k4).tr p9.2.1
    have f13 : Fr G [2, 6, 7, 107, 40108] v v7 := Fr.tr f5 (p9.2.2.2) (by decide)
    refine J_aload_n E dX7_years_56 0 rfl ?_
    refine J_getR E in_X7 rfl (S_X7.h S0) 0 (by decide) wd308 rfl dX7_years_57 ?_
    refine J_getRN E in_X6 rfl (S_X6.h (S_X7.f0 S0)) 6 (by decide) wd209 rfl dX7_years_60 ?_
    refine J_callVNI E cal_X2_countHere wd621 rfl (S_X2.h (S_X6.f6 (S_X7.f0 S0))) [] [] (ct_X2_countHere l D dA G v7 w2 (o11) (rf G (rf G h0 0) 6) (S_X6.f6 (S_X7.f0 S0))) rfl rfl (Nat.le_of_ble_eq_true rfl) ⟨rfl, rfl⟩ ⟨Nat.le_of_ble_eq_true rfl, Nat.le_of_ble_eq_true rfl⟩ dX7_years_63 (fun x17 v14 w15 p16 => ?_)
    rw [p16.1, p16.2.1]
    exact J_iret E hr dX7_years_66 ⟨o11, k12, trivial, f13⟩
  refine J_iload_n E dX7_years_0 1 rfl ?_
  refine J_iconst E 1 dX7_years_1 (by decide) ?_
  refine J_bipush E 60 dX7_years_2 (by decide) ?_
  refine J_callSI E cal_X7_isWithin wd361 [.int x_0, .int 1, .int 60] [] (ct_X7_isWithin l D dA G v w (hOk) x_0 1 60) rfl rfl (Nat.le_of_ble_eq_true rfl) ⟨rfl, rfl⟩ ⟨Nat.le_of_ble_eq_true rfl, Nat.le_of_ble_eq_true rfl⟩ dX7_years_4 (fun x21 v18 w19 p20 => ?_)
  rw [p20.1, p20.2.1]
  have b22 : Bd x21 0 1 := p20.2.2.1
  refine J_if_ne E 15 dX7_years_7 (by decide) (fun c23 => ?_) (fun c23 => ?_)
  · have b24 : Bd x21 1 1 := (Bd.ne_lo c23 b22 (Bd.lit 0 0 (by decide))).w _ _ (by decide)
    have g25 := (p20.2.2.2.1).resolve_left c23
    have b26 : Bd x_0 1 I1 := Bd.le_r g25.1 (Bd.lit 1 1 (by decide)) (Bd.any x_0) 1 (by decide)
    have b27 : Bd x_0 1 60 := Bd.le_l g25.2 b26 (Bd.lit 60 60 (by decide)) 60 (by decide)
    refine J_aload_n E dX7_years_15 0 rfl ?_
    refine J_getR E in_X7 rfl (S_X7.h S0) 0 (by decide) wd308 rfl dX7_years_16 ?_
    refine J_getRN E in_X6 rfl (S_X6.h (S_X7.f0 S0)) 6 (by decide) wd209 rfl dX7_years_19 ?_
    refine J_getIN E in_X2 rfl (S_X2.h (S_X6.f6 (S_X7.f0 S0))) 3 (by decide) wd161 rfl dX7_years_22 (fun x28 e29 => ?_)
    refine J_sipush E 999 dX7_years_25 (by decide) ?_
    refine J_icmp_ge E 38 dX7_years_28 (by decide) (fun c30 => ?_) (fun c30 => ?_)
    · have b31 : Bd x28 999 I1 := Bd.le_r c30 (Bd.lit 999 999 (by decide)) (Bd.any x28) 999 (by decide)
      exact J.sub [0, 1] rfl (J38 v w (hOk) (Kp.rf) Fr.rf b27)
    · have b32 : Bd x28 I0 998 := Bd.lt_l (nle c30) (Bd.any x28) (Bd.lit 999 999 (by decide)) 998 (by decide)
      refine J_aload_n E dX7_years_31 0 rfl ?_
      refine J_getR E in_X7 rfl (S_X7.h S0) 0 (by decide) wd308 rfl dX7_years_32 ?_
      refine J_callVNV E cal_X6_remember wd595 rfl (S_X6.h (S_X7.f0 S0)) [] [] (ct_X6_remember l D dA G v w (hOk) (rf G h0 0) (S_X7.f0 S0)) rfl rfl (Nat.le_of_ble_eq_true rfl) ⟨rfl, rfl⟩ ⟨Nat.le_of_ble_eq_true rfl, Nat.le_of_ble_eq_true rfl⟩ dX7_years_35 (fun v33 w34 p35 => ?_)
      have o37 := p35.1
      have k38 : Kp G v v33 := (Kp.rf).tr p35.2.1
      have f39 : Fr G [2, 6, 7, 107, 40108] v v33 := Fr.tr Fr.rf (p35.2.2) (by decide)
      exact J.sub [0, 1] rfl (J38 v33 w34 (o37) (k38) f39 b27)
  · have b40 : Bd x21 0 0 := Bd.eq_l c23 b22 (Bd.lit 0 0 (by decide)) 0 0 (by decide)
    have g41 : ¬ (1 ≤ x_0 ∧ x_0 ≤ 60) := (p20.2.2.2.2.1).resolve_left (fun h9 => h9 c23)
    refine J_aload_n E dX7_years_10 0 rfl ?_
    refine J_callVI E cal_X7_bad wd364 rfl (S_X7.h S0) [] [] (ct_X7_bad l D dA G v w (hOk) h0 S0) rfl rfl (Nat.le_of_ble_eq_true rfl) ⟨rfl, rfl⟩ ⟨Nat.le_of_ble_eq_true rfl, Nat.le_of_ble_eq_true rfl⟩ dX7_years_11 (fun x45 v42 w43 p44 => ?_)
    have ew9 : w = w43 := p44.2.2.2.1.1.symm
    subst ew9
    have o46 := p44.1
    have k47 : Kp G v v42 := (Kp.rf).tr p44.2.1
    have f48 : Fr G [2, 6, 7, 107, 40108] v v42 := Fr.tr Fr.rf (p44.2.2.2.2) (by decide)
    have b49 : Bd x45 (-2) (-2) := p44.2.2.1
    exact J_iret E hr dX7_years_14 ⟨o46, k47, trivial, f48⟩

abbrev rm_X7_undo : Room := { frames := 2, cells := 0, slots := 0, locals := 42 }
set_option maxHeartbeats 4000000 in
set_option maxRecDepth 100000 in
theorem ct_X7_undo (l : Launch) (D : va_G) (dA : Nat → ClassId) (G : Gm) (v : Mv) (w : Mw) (hOk : Ok G v w) (h0 : Nat) (S0 : S_X7 G h0) : CtI l yX7_undo cX7_undo 1 (some .int) rm_X7_undo D dA G [.ref h0] v w (fun r v1 w1 => Ok G v1 w1 ∧ Kp G v v1 ∧ True ∧ Fr G [2, 6, 7, 107] v v1) := by
  refine CtI.of RX7 [(0, .ref h0)] (Nat.le_of_ble_eq_true rfl) rfl (by decide) rfl ?_
  intro p e s m args below meth c E hr
  refine J_aload_n E dX7_undo_0 0 rfl ?_
  refine J_getR E in_X7 rfl (S_X7.h S0) 0 (by decide) wd308 rfl dX7_undo_1 ?_
  refine J_getIN E in_X6 rfl (S_X6.h (S_X7.f0 S0)) 8 (by decide) wd212 rfl dX7_undo_4 (fun x1 e2 => ?_)
  have b3 : Bd x1 0 8 := Ok.fd hOk e2 (S_X6.h (S_X7.f0 S0)) rfl
  refine J_if_gt E 15 dX7_undo_7 (by decide) (fun c4 => ?_) (fun c4 => ?_)
  · have b5 : Bd x1 1 8 := Bd.lt_r c4 (Bd.lit 0 0 (by decide)) b3 1 (by decide)
    refine J_aload_n E dX7_undo_15 0 rfl ?_
    refine J_getR E in_X7 rfl (S_X7.h S0) 0 (by decide) wd308 rfl dX7_undo_16 ?_
    refine J_callVNV E cal_X6_bringBack wd635 rfl (S_X6.h (S_X7.f0 S0)) [] [] (ct_X6_bringBack l D dA G v w (hOk) (rf G h0 0) (S_X7.f0 S0) x1 (e2) b5) rfl rfl (Nat.le_of_ble_eq_true rfl) ⟨rfl, rfl⟩ ⟨Nat.le_of_ble_eq_true rfl, Nat.le_of_ble_eq_true rfl⟩ dX7_undo_19 (fun v6 w7 p8 => ?_)
    have o10 := p8.1
    have k11 : Kp G v v6 := (Kp.rf).tr p8.2.1
    have f12 : Fr G [2, 6, 7, 107] v v6 := Fr.tr Fr.rf (p8.2.2) (by decide)
    refine J_aload_n E dX7_undo_22 0 rfl ?_
    refine J_getR E in_X7 rfl (S_X7.h S0) 0 (by decide) wd308 rfl dX7_undo_23 ?_
    refine J_getRN E in_X6 rfl (S_X6.h (S_X7.f0 S0)) 6 (by decide) wd209 rfl dX7_undo_26 ?_
    refine J_getIN E in_X2 rfl (S_X2.h (S_X6.f6 (S_X7.f0 S0))) 3 (by decide) wd161 rfl dX7_undo_29 (fun x13 e14 => ?_)
    exact J_iret E hr dX7_undo_32 ⟨o10, k11, trivial, f12⟩
  · have b15 : Bd x1 0 0 := Bd.le_l (nlt c4) b3 (Bd.lit 0 0 (by decide)) 0 (by decide)
    refine J_aload_n E dX7_undo_10 0 rfl ?_
    refine J_callVI E cal_X7_no wd591 rfl (S_X7.h S0) [] [] (ct_X7_no l D dA G v w (hOk) h0 S0) rfl rfl (Nat.le_of_ble_eq_true rfl) ⟨rfl, rfl⟩ ⟨Nat.le_of_ble_eq_true rfl, Nat.le_of_ble_eq_true rfl⟩ dX7_undo_11 (fun x19 v16 w17 p18 => ?_)
    have ew9 : w = w17 := p18.2.2.2.1.1.symm
    subst ew9
    have o20 := p18.1
    have k21 : Kp G v v16 := (Kp.rf).tr p18.2.1
    have f22 : Fr G [2, 6, 7, 107] v v16 := Fr.tr Fr.rf (p18.2.2.2.2) (by decide)
    have b23 : Bd x19 (-3) (-3) := p18.2.2.1
    exact J_iret E hr dX7_undo_14 ⟨o20, k21, trivial, f22⟩
