def K_J9_min_7cf53_e (G : Gm) (w : Mw) (v : Mv) (x_0 : Int32) (x_1 : Int32) : Int32 :=
  if x_1 < x_0 then (x_1) else (x_0)
def F_J9_min_7cf53 (G : Gm) (w : Mw) (v : Mv) (x_0 : Int32) (x_1 : Int32) : Int32 := K_J9_min_7cf53_e G w v x_0 x_1
set_option maxRecDepth 100000 in
theorem kx_J9_min_7cf53_1 {G : Gm} {w : Mw} {v : Mv} {x_0 : Int32} {x_1 : Int32}  (k0 : x_1 < x_0) : K_J9_min_7cf53_e G w v x_0 x_1 = x_1 := by
  first | rw [K_J9_min_7cf53_e, if_pos k0] | simp only [K_J9_min_7cf53_e, if_pos k0]
set_option maxRecDepth 100000 in
theorem kx_J9_min_7cf53_2 {G : Gm} {w : Mw} {v : Mv} {x_0 : Int32} {x_1 : Int32}  (k0 : ¬ (x_1 < x_0)) : K_J9_min_7cf53_e G w v x_0 x_1 = x_0 := by
  first | rw [K_J9_min_7cf53_e, if_neg k0] | simp only [K_J9_min_7cf53_e, if_neg k0]
abbrev rm_J9_min_7cf53 : Room := { frames := 0, cells := 0, slots := 0, locals := 0 }
set_option maxHeartbeats 4000000 in
set_option maxRecDepth 100000 in
theorem ct_J9_min_7cf53 (l : Launch) (D : va_G) (dA : Nat → ClassId) (G : Gm) (v : Mv) (w : Mw) (hOk : Ok G v w) (x_0 : Int32) (x_1 : Int32) : CtI l yJ9_min_7cf53 cJ9_min_7cf53 2 (some .int) rm_J9_min_7cf53 D dA G [.int x_0, .int x_1] v w (fun r v1 w1 => v1 = v ∧ w1 = w ∧ True ∧ r = F_J9_min_7cf53 G w v x_0 x_1) := by
  refine CtI.ofF RJ9 [(0, .int x_0), (1, .int x_1)] (Nat.le_of_ble_eq_true rfl) rfl (by decide +kernel) rfl ?_
  intro p e s m args below meth c E hr
  have hK : K_J9_min_7cf53_e G w v x_0 x_1 = F_J9_min_7cf53 G w v x_0 x_1 := rfl
  refine J_iload_n E dJ9_min_7cf53_0 0 rfl ?_
  refine J_iload_n E dJ9_min_7cf53_1 1 rfl ?_
  refine J_icmp_gt E 9 dJ9_min_7cf53_2 (by decide) (fun c1 => ?_) (fun c1 => ?_)
  · refine J_iload_n E dJ9_min_7cf53_9 1 rfl ?_
    exact J_iret E hr dJ9_min_7cf53_10 ⟨rfl, rfl, trivial, ((kx_J9_min_7cf53_1 (c1)).symm.trans hK)⟩
  · refine J_iload_n E dJ9_min_7cf53_5 0 rfl ?_
    refine J_goto E 10 dJ9_min_7cf53_6 (by decide) ?_
    exact J_iret E hr dJ9_min_7cf53_10 ⟨rfl, rfl, trivial, ((kx_J9_min_7cf53_2 (c1)).symm.trans hK)⟩

def K_X5_smith_e (G : Gm) (w : Mw) (v : Mv) (x_0 : Int32) : Int32 :=
  (x_0 + (8 : Int32))
def F_X5_smith (G : Gm) (w : Mw) (v : Mv) (x_0 : Int32) : Int32 := K_X5_smith_e G w v x_0
set_option maxRecDepth 100000 in
theorem kx_X5_smith_1 {G : Gm} {w : Mw} {v : Mv} {x_0 : Int32} {x1 : Int32} (a0 : x1 = x_0 + (8 : Int32))  : K_X5_smith_e G w v x_0 = x1 := by
  subst a0; first | rw [K_X5_smith_e] | simp only [K_X5_smith_e]
abbrev rm_X5_smith : Room := { frames := 0, cells := 0, slots := 0, locals := 0 }
set_option maxHeartbeats 4000000 in
set_option maxRecDepth 100000 in
theorem ct_X5_smith (l : Launch) (D : va_G) (dA : Nat → ClassId) (G : Gm) (v : Mv) (w : Mw) (hOk : Ok G v w) (x_0 : Int32) : CtI l yX5_smith cX5_smith 1 (some .int) rm_X5_smith D dA G [.int x_0] v w (fun r v1 w1 => v1 = v ∧ w1 = w ∧ True ∧ r = F_X5_smith G w v x_0) := by
  refine CtI.of RX5 [(0, .int x_0)] (Nat.le_of_ble_eq_true rfl) rfl (by decide) rfl ?_
  intro p e s m args below meth c E hr
  have hK : K_X5_smith_e G w v x_0 = F_X5_smith G w v x_0 := rfl
  refine J_iload_n E dX5_smith_0 0 rfl ?_
  refine J_bipush E 8 dX5_smith_1 (by decide) ?_
  refine J_iadd E dX5_smith_3 (fun x1 e2 => ?_)
  exact J_iret E hr dX5_smith_4 ⟨rfl, rfl, trivial, ((kx_X5_smith_1 (e2)).symm.trans hK)⟩

def K_X5_weak_e (G : Gm) (w : Mw) (v : Mv) (x_0 : Int32) : Int32 :=
  (x_0 / (2 : Int32))
def F_X5_weak (G : Gm) (w : Mw) (v : Mv) (x_0 : Int32) : Int32 := K_X5_weak_e G w v x_0
set_option maxRecDepth 100000 in
theorem kx_X5_weak_1 {G : Gm} {w : Mw} {v : Mv} {x_0 : Int32} {x1 : Int32} (a0 : x1 = x_0 / (2 : Int32))  : K_X5_weak_e G w v x_0 = x1 := by
  subst a0; first | rw [K_X5_weak_e] | simp only [K_X5_weak_e]
abbrev rm_X5_weak : Room := { frames := 0, cells := 0, slots := 0, locals := 0 }
set_option maxHeartbeats 4000000 in
set_option maxRecDepth 100000 in
theorem ct_X5_weak (l : Launch) (D : va_G) (dA : Nat → ClassId) (G : Gm) (v : Mv) (w : Mw) (hOk : Ok G v w) (x_0 : Int32) : CtI l yX5_weak cX5_weak 1 (some .int) rm_X5_weak D dA G [.int x_0] v w (fun r v1 w1 => v1 = v ∧ w1 = w ∧ True ∧ r = F_X5_weak G w v x_0) := by
  refine CtI.of RX5 [(0, .int x_0)] (Nat.le_of_ble_eq_true rfl) rfl (by decide) rfl ?_
  intro p e s m args below meth c E hr
  have hK : K_X5_weak_e G w v x_0 = F_X5_weak G w v x_0 := rfl
  refine J_iload_n E dX5_weak_0 0 rfl ?_
  refine J_iconst E 2 dX5_weak_1 (by decide) ?_
  refine J_idiv E dX5_weak_2 (Bd.nz (Bd.lit 2 2 (by decide)) (by decide)) (fun x1 e2 => ?_)
  exact J_iret E hr dX5_weak_3 ⟨rfl, rfl, trivial, ((kx_X5_weak_1 (e2)).symm.trans hK)⟩

def K_J9_max_7cf53_e (G : Gm) (w : Mw) (v : Mv) (x_0 : Int32) (x_1 : Int32) : Int32 :=
  if x_0 < x_1 then (x_1) else (x_0)
def F_J9_max_7cf53 (G : Gm) (w : Mw) (v : Mv) (x_0 : Int32) (x_1 : Int32) : Int32 := K_J9_max_7cf53_e G w v x_0 x_1
set_option maxRecDepth 100000 in
theorem kx_J9_max_7cf53_1 {G : Gm} {w : Mw} {v : Mv} {x_0 : Int32} {x_1 : Int32}  (k0 : x_0 < x_1) : K_J9_max_7cf53_e G w v x_0 x_1 = x_1 := by
  first | rw [K_J9_max_7cf53_e, if_pos k0] | simp only [K_J9_max_7cf53_e, if_pos k0]
set_option maxRecDepth 100000 in
theorem kx_J9_max_7cf53_2 {G : Gm} {w : Mw} {v : Mv} {x_0 : Int32} {x_1 : Int32}  (k0 : ¬ (x_0 < x_1)) : K_J9_max_7cf53_e G w v x_0 x_1 = x_0 := by
  first | rw [K_J9_max_7cf53_e, if_neg k0] | simp only [K_J9_max_7cf53_e, if_neg k0]
abbrev rm_J9_max_7cf53 : Room := { frames := 0, cells := 0, slots := 0, locals := 0 }
set_option maxHeartbeats 4000000 in
set_option maxRecDepth 100000 in
theorem ct_J9_max_7cf53 (l : Launch) (D : va_G) (dA : Nat → ClassId) (G : Gm) (v : Mv) (w : Mw) (hOk : Ok G v w) (x_0 : Int32) (x_1 : Int32) : CtI l yJ9_max_7cf53 cJ9_max_7cf53 2 (some .int) rm_J9_max_7cf53 D dA G [.int x_0, .int x_1] v w (fun r v1 w1 => v1 = v ∧ w1 = w ∧ True ∧ r = F_J9_max_7cf53 G w v x_0 x_1) := by
  refine CtI.ofF RJ9 [(0, .int x_0), (1, .int x_1)] (Nat.le_of_ble_eq_true rfl) rfl (by decide +kernel) rfl ?_
  intro p e s m args below meth c E hr
  have hK : K_J9_max_7cf53_e G w v x_0 x_1 = F_J9_max_7cf53 G w v x_0 x_1 := rfl
  refine J_iload_n E dJ9_max_7cf53_0 0 rfl ?_
  refine J_iload_n E dJ9_max_7cf53_1 1 rfl ?_
  refine J_icmp_lt E 9 dJ9_max_7cf53_2 (by decide) (fun c1 => ?_) (fun c1 => ?_)
  · refine J_iload_n E dJ9_max_7cf53_9 1 rfl ?_
    exact J_iret E hr dJ9_max_7cf53_10 ⟨rfl, rfl, trivial, ((kx_J9_max_7cf53_1 (c1)).symm.trans hK)⟩
  · refine J_iload_n E dJ9_max_7cf53_5 0 rfl ?_
    refine J_goto E 10 dJ9_max_7cf53_6 (by decide) ?_
    exact J_iret E hr dJ9_max_7cf53_10 ⟨rfl, rfl, trivial, ((kx_J9_max_7cf53_2 (c1)).symm.trans hK)⟩

def K_X5_oneLifts_e (G : Gm) (w : Mw) (v : Mv) (x_0 : Int32) (x_1 : Int32) (x_2 : Int32) : Int32 :=
  if Int32.toInt x_0 = 1 then ((F_X5_smith G w v (((2 : Int32) * x_1) + ((F_J9_min_7cf53 G w v x_2 (30 : Int32)) / (3 : Int32))))) else if Int32.toInt x_0 = 2 then ((F_X5_weak G w v (((2 : Int32) * x_1) + ((F_J9_min_7cf53 G w v x_2 (30 : Int32)) / (3 : Int32))))) else if Int32.toInt x_0 = 3 then (if (18 : Int32) ≤ x_2 then ((((2 : Int32) * x_1) + ((F_J9_min_7cf53 G w v x_2 (30 : Int32)) / (3 : Int32)))) else ((F_J9_max_7cf53 G w v (0 : Int32) ((((2 : Int32) * x_1) + ((F_J9_min_7cf53 G w v x_2 (30 : Int32)) / (3 : Int32))) - (6 : Int32))))) else if Int32.toInt x_0 = 4 then (if (x_2 - x_2 / (10 : Int32) * (10 : Int32)) = (5 : Int32) then (((2 : Int32) * (F_X5_smith G w v (((2 : Int32) * x_1) + ((F_J9_min_7cf53 G w v x_2 (30 : Int32)) / (3 : Int32)))))) else ((F_X5_smith G w v (((2 : Int32) * x_1) + ((F_J9_min_7cf53 G w v x_2 (30 : Int32)) / (3 : Int32)))))) else if Int32.toInt x_0 = 5 then ((F_J9_max_7cf53 G w v (0 : Int32) ((F_X5_weak G w v (((2 : Int32) * x_1) + ((F_J9_min_7cf53 G w v x_2 (30 : Int32)) / (3 : Int32)))) - ((F_J9_max_7cf53 G w v (0 : Int32) (x_2 - (60 : Int32))) / (5 : Int32))))) else ((((2 : Int32) * x_1) + ((F_J9_min_7cf53 G w v x_2 (30 : Int32)) / (3 : Int32))))
def F_X5_oneLifts (G : Gm) (w : Mw) (v : Mv) (x_0 : Int32) (x_1 : Int32) (x_2 : Int32) : Int32 := K_X5_oneLifts_e G w v x_0 x_1 x_2
set_option maxRecDepth 100000 in
theorem kx_X5_oneLifts_1 {G : Gm} {w : Mw} {v : Mv} {x_0 : Int32} {x_1 : Int32} {x_2 : Int32} {x17 : Int32} {x6 : Int32} {x1 : Int32} {x8 : Int32} {x10 : Int32} (a0 : x1 = (2 : Int32) * x_1) (a1 : x6 = F_J9_min_7cf53 G w v x_2 (30 : Int32)) (a2 : x8 = x6 / (3 : Int32)) (a3 : x10 = x1 + x8) (a4 : x17 = F_X5_smith G w v x10) (k0 : Int32.toInt x_0 = 1) : K_X5_oneLifts_e G w v x_0 x_1 x_2 = x17 := by
  subst a4; subst a3; subst a2; subst a1; subst a0; first | rw [K_X5_oneLifts_e, if_pos k0] | simp only [K_X5_oneLifts_e, if_pos k0]
set_option maxRecDepth 100000 in
theorem kx_X5_oneLifts_2 {G : Gm} {w : Mw} {v : Mv} {x_0 : Int32} {x_1 : Int32} {x_2 : Int32} {x24 : Int32} {x6 : Int32} {x1 : Int32} {x8 : Int32} {x10 : Int32} (a0 : x1 = (2 : Int32) * x_1) (a1 : x6 = F_J9_min_7cf53 G w v x_2 (30 : Int32)) (a2 : x8 = x6 / (3 : Int32)) (a3 : x10 = x1 + x8) (a4 : x24 = F_X5_weak G w v x10) (k0 : ¬ (Int32.toInt x_0 = 1)) (k1 : Int32.toInt x_0 = 2) : K_X5_oneLifts_e G w v x_0 x_1 x_2 = x24 := by
  subst a4; subst a3; subst a2; subst a1; subst a0; first | rw [K_X5_oneLifts_e, if_neg k0, if_pos k1] | simp only [K_X5_oneLifts_e, if_neg k0, if_pos k1]
set_option maxRecDepth 100000 in
theorem kx_X5_oneLifts_3 {G : Gm} {w : Mw} {v : Mv} {x_0 : Int32} {x_1 : Int32} {x_2 : Int32} {x10 : Int32} {x6 : Int32} {x1 : Int32} {x8 : Int32} (a0 : x1 = (2 : Int32) * x_1) (a1 : x6 = F_J9_min_7cf53 G w v x_2 (30 : Int32)) (a2 : x8 = x6 / (3 : Int32)) (a3 : x10 = x1 + x8) (k0 : ¬ (Int32.toInt x_0 = 1)) (k1 : ¬ (Int32.toInt x_0 = 2)) (k2 : Int32.toInt x_0 = 3) (k3 : (18 : Int32) ≤ x_2) : K_X5_oneLifts_e G w v x_0 x_1 x_2 = x10 := by
  subst a3; subst a2; subst a1; subst a0; first | rw [K_X5_oneLifts_e, if_neg k0, if_neg k1, if_pos k2, if_pos k3] | simp only [K_X5_oneLifts_e, if_neg k0, if_neg k1, if_pos k2, if_pos k3]
set_option maxRecDepth 100000 in
theorem kx_X5_oneLifts_4 {G : Gm} {w : Mw} {v : Mv} {x_0 : Int32} {x_1 : Int32} {x_2 : Int32} {x36 : Int32} {x6 : Int32} {x1 : Int32} {x8 : Int32} {x10 : Int32} {x31 : Int32} (a0 : x1 = (2 : Int32) * x_1) (a1 : x6 = F_J9_min_7cf53 G w v x_2 (30 : Int32)) (a2 : x8 = x6 / (3 : Int32)) (a3 : x10 = x1 + x8) (a4 : x31 = x10 - (6 : Int32)) (a5 : x36 = F_J9_max_7cf53 G w v (0 : Int32) x31) (k0 : ¬ (Int32.toInt x_0 = 1)) (k1 : ¬ (Int32.toInt x_0 = 2)) (k2 : Int32.toInt x_0 = 3) (k3 : ¬ ((18 : Int32) ≤ x_2)) : K_X5_oneLifts_e G w v x_0 x_1 x_2 = x36 := by
  subst a5; subst a4; subst a3; subst a2; subst a1; subst a0; first | rw [K_X5_oneLifts_e, if_neg k0, if_neg k1, if_pos k2, if_neg k3] | simp only [K_X5_oneLifts_e, if_neg k0, if_neg k1, if_pos k2, if_neg k3]
set_option maxRecDepth 100000 in
theorem kx_X5_oneLifts_5 {G : Gm} {w : Mw} {v : Mv} {x_0 : Int32} {x_1 : Int32} {x_2 : Int32} {x47 : Int32} {x6 : Int32} {x1 : Int32} {x8 : Int32} {x10 : Int32} {x40 : Int32} (a0 : x1 = (2 : Int32) * x_1) (a1 : x6 = F_J9_min_7cf53 G w v x_2 (30 : Int32)) (a2 : x8 = x6 / (3 : Int32)) (a3 : x10 = x1 + x8) (a4 : x40 = x_2 - x_2 / (10 : Int32) * (10 : Int32)) (a5 : x47 = F_X5_smith G w v x10) (k0 : ¬ (Int32.toInt x_0 = 1)) (k1 : ¬ (Int32.toInt x_0 = 2)) (k2 : ¬ (Int32.toInt x_0 = 3)) (k3 : Int32.toInt x_0 = 4) (k4 : ¬ (x40 = (5 : Int32))) : K_X5_oneLifts_e G w v x_0 x_1 x_2 = x47 := by
  subst a5; subst a4; subst a3; subst a2; subst a1; subst a0; first | rw [K_X5_oneLifts_e, if_neg k0, if_neg k1, if_neg k2, if_pos k3, if_neg k4] | simp only [K_X5_oneLifts_e, if_neg k0, if_neg k1, if_neg k2, if_pos k3, if_neg k4]
set_option maxRecDepth 100000 in
theorem kx_X5_oneLifts_6 {G : Gm} {w : Mw} {v : Mv} {x_0 : Int32} {x_1 : Int32} {x_2 : Int32} {x55 : Int32} {x6 : Int32} {x1 : Int32} {x8 : Int32} {x10 : Int32} {x53 : Int32} {x40 : Int32} (a0 : x1 = (2 : Int32) * x_1) (a1 : x6 = F_J9_min_7cf53 G w v x_2 (30 : Int32)) (a2 : x8 = x6 / (3 : Int32)) (a3 : x10 = x1 + x8) (a4 : x40 = x_2 - x_2 / (10 : Int32) * (10 : Int32)) (a5 : x53 = F_X5_smith G w v x10) (a6 : x55 = (2 : Int32) * x53) (k0 : ¬ (Int32.toInt x_0 = 1)) (k1 : ¬ (Int32.toInt x_0 = 2)) (k2 : ¬ (Int32.toInt x_0 = 3)) (k3 : Int32.toInt x_0 = 4) (k4 : x40 = (5 : Int32)) : K_X5_oneLifts_e G w v x_0 x_1 x_2 = x55 := by
  subst a6; subst a5; subst a4; subst a3; subst a2; subst a1; subst a0; first | rw [K_X5_oneLifts_e, if_neg k0, if_neg k1, if_neg k2, if_pos k3, if_pos k4] | simp only [K_X5_oneLifts_e, if_neg k0, if_neg k1, if_neg k2, if_pos k3, if_pos k4]
set_option maxRecDepth 100000 in
theorem kx_X5_oneLifts_7 {G : Gm} {w : Mw} {v : Mv} {x_0 : Int32} {x_1 : Int32} {x_2 : Int32} {x78 : Int32} {x6 : Int32} {x1 : Int32} {x8 : Int32} {x10 : Int32} {x64 : Int32} {x69 : Int32} {x62 : Int32} {x71 : Int32} {x73 : Int32} (a0 : x1 = (2 : Int32) * x_1) (a1 : x6 = F_J9_min_7cf53 G w v x_2 (30 : Int32)) (a2 : x8 = x6 / (3 : Int32)) (a3 : x10 = x1 + x8) (a4 : x62 = F_X5_weak G w v x10) (a5 : x64 = x_2 - (60 : Int32)) (a6 : x69 = F_J9_max_7cf53 G w v (0 : Int32) x64) (a7 : x71 = x69 / (5 : Int32)) (a8 : x73 = x62 - x71) (a9 : x78 = F_J9_max_7cf53 G w v (0 : Int32) x73) (k0 : ¬ (Int32.toInt x_0 = 1)) (k1 : ¬ (Int32.toInt x_0 = 2)) (k2 : ¬ (Int32.toInt x_0 = 3)) (k3 : ¬ (Int32.toInt x_0 = 4)) (k4 : Int32.toInt x_0 = 5) : K_X5_oneLifts_e G w v x_0 x_1 x_2 = x78 := by
  subst a9; subst a8; subst a7; subst a6; subst a5; subst a4; subst a3; subst a2; subst a1; subst a0; first | rw [K_X5_oneLifts_e, if_neg k0, if_neg k1, if_neg k2, if_neg k3, if_pos k4] | simp only [K_X5_oneLifts_e, if_neg k0, if_neg k1, if_neg k2, if_neg k3, if_pos k4]
set_option maxRecDepth 100000 in
theorem kx_X5_oneLifts_8 {G : Gm} {w : Mw} {v : Mv} {x_0 : Int32} {x_1 : Int32} {x_2 : Int32} {x10 : Int32} {x6 : Int32} {x1 : Int32} {x8 : Int32} (a0 : x1 = (2 : Int32) * x_1) (a1 : x6 = F_J9_min_7cf53 G w v x_2 (30 : Int32)) (a2 : x8 = x6 / (3 : Int32)) (a3 : x10 = x1 + x8) (k0 : ¬ (Int32.toInt x_0 = 1)) (k1 : ¬ (Int32.toInt x_0 = 2)) (k2 : ¬ (Int32.toInt x_0 = 3)) (k3 : ¬ (Int32.toInt x_0 = 4)) (k4 : ¬ (Int32.toInt x_0 = 5)) : K_X5_oneLifts_e G w v x_0 x_1 x_2 = x10 := by
  subst a3; subst a2; subst a1; subst a0; first | rw [K_X5_oneLifts_e, if_neg k0, if_neg k1, if_neg k2, if_neg k3, if_neg k4] | simp only [K_X5_oneLifts_e, if_neg k0, if_neg k1, if_neg k2, if_neg k3, if_neg k4]
abbrev rm_X5_oneLifts : Room := { frames := 1, cells := 0, slots := 0, locals := 21 }
set_option maxHeartbeats 4000000 in
set_option maxRecDepth 100000 in
theorem ct_X5_oneLifts (l : Launch) (D : va_G) (dA : Nat → ClassId) (G : Gm) (v : Mv) (w : Mw) (hOk : Ok G v w) (x_0 : Int32) (x_1 : Int32) (x_2 : Int32) : CtI l yX5_oneLifts cX5_oneLifts 4 (some .int) rm_X5_oneLifts D dA G [.int x_0, .int x_1, .int x_2] v w (fun r v1 w1 => v1 = v ∧ w1 = w ∧ True ∧ r = F_X5_oneLifts G w v x_0 x_1 x_2) := by
  refine CtI.of RX5 [(0, .int x_0), (1, .int x_1), (2, .int x_2)] (Nat.le_of_ble_eq_true rfl) rfl (by decide) rfl ?_
  intro p e s m args below meth c E hr
  have hK : K_X5_oneLifts_e G w v x_0 x_1 x_2 = F_X5_oneLifts G w v x_0 x_1 x_2 := rfl
  refine J_iconst E 2 dX5_oneLifts_0 (by decide) ?_
  refine J_iload_n E dX5_oneLifts_1 1 rfl ?_
  refine J_imul E dX5_oneLifts_2 (fun x1 e2 => ?_)
  refine J_iload_n E dX5_oneLifts_3 2 rfl ?_
  refine J_bipush E 30 dX5_oneLifts_4 (by decide) ?_
  refine J_callSI E cal_J9_min_7cf53 wd539 [.int x_2, .int 30] [.int x1] (ct_J9_min_7cf53 l D dA G v w (hOk) x_2 30) rfl rfl (Nat.le_of_ble_eq_true rfl) ⟨rfl, rfl⟩ ⟨Nat.le_of_ble_eq_true rfl, Nat.le_of_ble_eq_true rfl⟩ dX5_oneLifts_6 (fun x6 v3 w4 p5 => ?_)
  rw [p5.1, p5.2.1]
  have e7 : x6 = F_J9_min_7cf53 G w v x_2 (30 : Int32) := (p5.2.2.2)
  refine J_iconst E 3 dX5_oneLifts_9 (by decide) ?_
  refine J_idiv E dX5_oneLifts_10 (Bd.nz (Bd.lit 3 3 (by decide)) (by decide)) (fun x8 e9 => ?_)
  refine J_iadd E dX5_oneLifts_11 (fun x10 e11 => ?_)
  refine J_istore_n E [(3, .int x10), (0, .int x_0), (1, .int x_1), (2, .int x_2)] dX5_oneLifts_12 rfl (by decide) rfl ?_
  refine J_iload_n E dX5_oneLifts_13 1 rfl ?_
  by_cases h12 : x_0.toInt = 1
  · refine J_tabIn E 1 48 dX5_oneLifts_14 h12 (by decide) (by decide) rfl (by decide) ?_
    have b13 : Bd x_0 1 1 := ⟨by omega, by omega⟩
    refine J_iload_n E dX5_oneLifts_48 0 rfl ?_
    refine J_callSI E cal_X5_smith wd545 [.int x10] [] (ct_X5_smith l D dA G v w (hOk) x10) rfl rfl (Nat.le_of_ble_eq_true rfl) ⟨rfl, rfl⟩ ⟨Nat.le_of_ble_eq_true rfl, Nat.le_of_ble_eq_true rfl⟩ dX5_oneLifts_49 (fun x17 v14 w15 p16 => ?_)
    rw [p16.1, p16.2.1]
    have e18 : x17 = F_X5_smith G w v x10 := (p16.2.2.2)
    exact J_iret E hr dX5_oneLifts_52 ⟨rfl, rfl, trivial, ((kx_X5_oneLifts_1 (e2) (e7) (e9) (e11) (e18) (h12)).symm.trans hK)⟩
  by_cases h19 : x_0.toInt = 2
  · refine J_tabIn E 2 53 dX5_oneLifts_14 h19 (by decide) (by decide) rfl (by decide) ?_
    have b20 : Bd x_0 2 2 := ⟨by omega, by omega⟩
    refine J_iload_n E dX5_oneLifts_53 0 rfl ?_
    refine J_callSI E cal_X5_weak wd548 [.int x10] [] (ct_X5_weak l D dA G v w (hOk) x10) rfl rfl (Nat.le_of_ble_eq_true rfl) ⟨rfl, rfl⟩ ⟨Nat.le_of_ble_eq_true rfl, Nat.le_of_ble_eq_true rfl⟩ dX5_oneLifts_54 (fun x24 v21 w22 p23 => ?_)
    rw [p23.1, p23.2.1]
    have e25 : x24 = F_X5_weak G w v x10 := (p23.2.2.2)
    exact J_iret E hr dX5_oneLifts_57 ⟨rfl, rfl, trivial, ((kx_X5_oneLifts_2 (e2) (e7) (e9) (e11) (e25) (h12) (h19)).symm.trans hK)⟩
  by_cases h26 : x_0.toInt = 3
  · refine J_tabIn E 3 58 dX5_oneLifts_14 h26 (by decide) (by decide) rfl (by decide) ?_
    have b27 : Bd x_0 3 3 := ⟨by omega, by omega⟩
    refine J_iload_n E dX5_oneLifts_58 3 rfl ?_
    refine J_bipush E 18 dX5_oneLifts_59 (by decide) ?_
    refine J_icmp_ge E 75 dX5_oneLifts_61 (by decide) (fun c28 => ?_) (fun c28 => ?_)
    · have b29 : Bd x_2 18 I1 := Bd.le_r c28 (Bd.lit 18 18 (by decide)) (Bd.any x_2) 18 (by decide)
      refine J_iload_n E dX5_oneLifts_75 0 rfl ?_
      exact J_iret E hr dX5_oneLifts_76 ⟨rfl, rfl, trivial, ((kx_X5_oneLifts_3 (e2) (e7) (e9) (e11) (h12) (h19) (h26) (c28)).symm.trans hK)⟩
    · have b30 : Bd x_2 I0 17 := Bd.lt_l (nle c28) (Bd.any x_2) (Bd.lit 18 18 (by decide)) 17 (by decide)
      refine J_iconst E 0 dX5_oneLifts_64 (by decide) ?_
      refine J_iload_n E dX5_oneLifts_65 0 rfl ?_
      refine J_bipush E 6 dX5_oneLifts_66 (by decide) ?_
      refine J_isub E dX5_oneLifts_68 (fun x31 e32 => ?_)
      refine J_callSI E cal_J9_max_7cf53 wd551 [.int 0, .int x31] [] (ct_J9_max_7cf53 l D dA G v w (hOk) 0 x31) rfl rfl (Nat.le_of_ble_eq_true rfl) ⟨rfl, rfl⟩ ⟨Nat.le_of_ble_eq_true rfl, Nat.le_of_ble_eq_true rfl⟩ dX5_oneLifts_69 (fun x36 v33 w34 p35 => ?_)
      rw [p35.1, p35.2.1]
      have e37 : x36 = F_J9_max_7cf53 G w v (0 : Int32) x31 := (p35.2.2.2)
      refine J_goto E 76 dX5_oneLifts_72 (by decide) ?_
      exact J_iret E hr dX5_oneLifts_76 ⟨rfl, rfl, trivial, ((kx_X5_oneLifts_4 (e2) (e7) (e9) (e11) (e32) (e37) (h12) (h19) (h26) (c28)).symm.trans hK)⟩
  by_cases h38 : x_0.toInt = 4
  · refine J_tabIn E 4 77 dX5_oneLifts_14 h38 (by decide) (by decide) rfl (by decide) ?_
    have b39 : Bd x_0 4 4 := ⟨by omega, by omega⟩
    refine J_iload_n E dX5_oneLifts_77 3 rfl ?_
    refine J_bipush E 10 dX5_oneLifts_78 (by decide) ?_
    refine J_irem E dX5_oneLifts_80 (Bd.nz (Bd.lit 10 10 (by decide)) (by decide)) (fun x40 e41 => ?_)
    have b42 : Bd x40 (-9) 9 := (Bd.rem e41 (Bd.lit 10 10 (by decide)) (by decide)).w _ _ (by decide)
    refine J_iconst E 5 dX5_oneLifts_81 (by decide) ?_
    refine J_icmp_ne E 94 dX5_oneLifts_82 (by decide) (fun c43 => ?_) (fun c43 => ?_)
    · refine J_iload_n E dX5_oneLifts_94 0 rfl ?_
      refine J_callSI E cal_X5_smith wd545 [.int x10] [] (ct_X5_smith l D dA G v w (hOk) x10) rfl rfl (Nat.le_of_ble_eq_true rfl) ⟨rfl, rfl⟩ ⟨Nat.le_of_ble_eq_true rfl, Nat.le_of_ble_eq_true rfl⟩ dX5_oneLifts_95 (fun x47 v44 w45 p46 => ?_)
      rw [p46.1, p46.2.1]
      have e48 : x47 = F_X5_smith G w v x10 := (p46.2.2.2)
      exact J_iret E hr dX5_oneLifts_98 ⟨rfl, rfl, trivial, ((kx_X5_oneLifts_5 (e2) (e7) (e9) (e11) (e41) (e48) (h12) (h19) (h26) (h38) (c43)).symm.trans hK)⟩
    · have b49 : Bd x40 5 5 := Bd.eq_l c43 b42 (Bd.lit 5 5 (by decide)) 5 5 (by decide)
      refine J_iconst E 2 dX5_oneLifts_85 (by decide) ?_
      refine J_iload_n E dX5_oneLifts_86 0 rfl ?_
      refine J_callSI E cal_X5_smith wd545 [.int x10] [.int 2] (ct_X5_smith l D dA G v w (hOk) x10) rfl rfl (Nat.le_of_ble_eq_true rfl) ⟨rfl, rfl⟩ ⟨Nat.le_of_ble_eq_true rfl, Nat.le_of_ble_eq_true rfl⟩ dX5_oneLifts_87 (fun x53 v50 w51 p52 => ?_)
      rw [p52.1, p52.2.1]
      have e54 : x53 = F_X5_smith G w v x10 := (p52.2.2.2)
      refine J_imul E dX5_oneLifts_90 (fun x55 e56 => ?_)
      refine J_goto E 98 dX5_oneLifts_91 (by decide) ?_
      exact J_iret E hr dX5_oneLifts_98 ⟨rfl, rfl, trivial, ((kx_X5_oneLifts_6 (e2) (e7) (e9) (e11) (e41) (e54) (e56) (h12) (h19) (h26) (h38) (c43)).symm.trans hK)⟩
  by_cases h57 : x_0.toInt = 5
  · refine J_tabIn E 5 99 dX5_oneLifts_14 h57 (by decide) (by decide) rfl (by decide) ?_
    have b58 : Bd x_0 5 5 := ⟨by omega, by omega⟩
    refine J_iconst E 0 dX5_oneLifts_99 (by decide) ?_
    refine J_iload_n E dX5_oneLifts_100 0 rfl ?_
    refine J_callSI E cal_X5_weak wd548 [.int x10] [.int 0] (ct_X5_weak l D dA G v w (hOk) x10) rfl rfl (Nat.le_of_ble_eq_true rfl) ⟨rfl, rfl⟩ ⟨Nat.le_of_ble_eq_true rfl, Nat.le_of_ble_eq_true rfl⟩ dX5_oneLifts_101 (fun x62 v59 w60 p61 => ?_)
    rw [p61.1, p61.2.1]
    have e63 : x62 = F_X5_weak G w v x10 := (p61.2.2.2)
    refine J_iconst E 0 dX5_oneLifts_104 (by decide) ?_
    refine J_iload_n E dX5_oneLifts_105 3 rfl ?_
    refine J_bipush E 60 dX5_oneLifts_106 (by decide) ?_
    refine J_isub E dX5_oneLifts_108 (fun x64 e65 => ?_)
    refine J_callSI E cal_J9_max_7cf53 wd551 [.int 0, .int x64] [.int x62, .int 0] (ct_J9_max_7cf53 l D dA G v w (hOk) 0 x64) rfl rfl (Nat.le_of_ble_eq_true rfl) ⟨rfl, rfl⟩ ⟨Nat.le_of_ble_eq_true rfl, Nat.le_of_ble_eq_true rfl⟩ dX5_oneLifts_109 (fun x69 v66 w67 p68 => ?_)
    rw [p68.1, p68.2.1]
    have e70 : x69 = F_J9_max_7cf53 G w v (0 : Int32) x64 := (p68.2.2.2)
    refine J_iconst E 5 dX5_oneLifts_112 (by decide) ?_
    refine J_idiv E dX5_oneLifts_113 (Bd.nz (Bd.lit 5 5 (by decide)) (by decide)) (fun x71 e72 => ?_)
    refine J_isub E dX5_oneLifts_114 (fun x73 e74 => ?_)
    refine J_callSI E cal_J9_max_7cf53 wd551 [.int 0, .int x73] [] (ct_J9_max_7cf53 l D dA G v w (hOk) 0 x73) rfl rfl (Nat.le_of_ble_eq_true rfl) ⟨rfl, rfl⟩ ⟨Nat.le_of_ble_eq_true rfl, Nat.le_of_ble_eq_true rfl⟩ dX5_oneLifts_115 (fun x78 v75 w76 p77 => ?_)
    rw [p77.1, p77.2.1]
    have e79 : x78 = F_J9_max_7cf53 G w v (0 : Int32) x73 := (p77.2.2.2)
    exact J_iret E hr dX5_oneLifts_118 ⟨rfl, rfl, trivial, ((kx_X5_oneLifts_7 (e2) (e7) (e9) (e11) (e63) (e65) (e70) (e72) (e74) (e79) (h12) (h19) (h26) (h38) (h57)).symm.trans hK)⟩
  refine J_tabOut (x := x_0) E 119 dX5_oneLifts_14 (by have := (Bd.any x_0); simp only [Bd, I0, I1] at this; omega) (by decide) ?_
  refine J_iload_n E dX5_oneLifts_119 0 rfl ?_
  exact J_iret E hr dX5_oneLifts_120 ⟨rfl, rfl, trivial, ((kx_X5_oneLifts_8 (e2) (e7) (e9) (e11) (h12) (h19) (h26) (h38) (h57)).symm.trans hK)⟩

def K_X0_put_e (G : Gm) (w : Mw) (v : Mv) (h0 : Nat) (x_0 : Int32) : Mv :=
  if (9 : Int32) ≤ (v h0 1) then (v) else ((stv (stv v (rf G h0 0) (Int32.toNatClampNeg (v h0 1)) x_0) h0 1 ((v h0 1) + (1 : Int32))))
def F_X0_put (G : Gm) (w : Mw) (v : Mv) (h0 : Nat) (x_0 : Int32) : Mv := K_X0_put_e G w v h0 x_0
set_option maxRecDepth 100000 in
theorem kx_X0_put_1 {G : Gm} {w : Mw} {v : Mv} {h0 : Nat} {x_0 : Int32} {x1 : Int32} (a0 : x1 = v h0 1) (k0 : (9 : Int32) ≤ x1) : K_X0_put_e G w v h0 x_0 = v := by
  subst a0; first | rw [K_X0_put_e, if_pos k0] | simp only [K_X0_put_e, if_pos k0]
set_option maxRecDepth 100000 in
theorem kx_X0_put_2 {G : Gm} {w : Mw} {v : Mv} {h0 : Nat} {x_0 : Int32} {v20 : Mv} {x1 : Int32} {v9 : Mv} {x17 : Int32} (a0 : x1 = v h0 1) (a1 : v9 = stv v (rf G h0 0) (Int32.toNatClampNeg x1) x_0) (a2 : x17 = x1 + (1 : Int32)) (a3 : v20 = stv v9 h0 1 x17) (k0 : ¬ ((9 : Int32) ≤ x1)) : K_X0_put_e G w v h0 x_0 = v20 := by
  subst a3; subst a2; subst a1; subst a0; first | rw [K_X0_put_e, if_neg k0] | simp only [K_X0_put_e, if_neg k0]
abbrev rm_X0_put : Room := { frames := 0, cells := 0, slots := 0, locals := 0 }
set_option maxHeartbeats 4000000 in
set_option maxRecDepth 100000 in
theorem ct_X0_put (l : Launch) (D : va_G) (dA : Nat → ClassId) (G : Gm) (v : Mv) (w : Mw) (hOk : Ok G v w) (h0 : Nat) (S0 : S_X0 G h0) (x_0 : Int32) : CtV l yX0_put cX0_put 2 none rm_X0_put D dA G [.ref h0, .int x_0] v w (fun v1 w1 => Ok G v1 w1 ∧ Kp G v v1 ∧ (w1 = w ∧ v1 = F_X0_put G w v h0 x_0) ∧ Fr G [0, 109] v v1) := by
  refine CtV.of RX0 [(0, .ref h0), (1, .int x_0)] (Nat.le_of_ble_eq_true rfl) rfl (by decide) rfl ?_
  intro p e s m args below meth c E hr
  have hK : K_X0_put_e G w v h0 x_0 = F_X0_put G w v h0 x_0 := rfl
  refine J_aload_n E dX0_put_0 0 rfl ?_
  refine J_getI E in_X0 rfl (S_X0.h S0) 1 (by decide) wd300 rfl dX0_put_1 (fun x1 e2 => ?_)
  have b3 : Bd x1 0 9 := Ok.fd hOk e2 (S_X0.h S0) rfl
  refine J_bipush E 9 dX0_put_4 (by decide) ?_
  refine J_icmp_ge E 29 dX0_put_6 (by decide) (fun c4 => ?_) (fun c4 => ?_)
  · have b5 : Bd x1 9 9 := Bd.le_r c4 (Bd.lit 9 9 (by decide)) b3 9 (by decide)
    exact J_vret E hr dX0_put_29 ⟨hOk, Kp.rf, ⟨⟨rfl, ((kx_X0_put_1 (e2) (c4)).symm.trans hK)⟩, Fr.rf⟩⟩
  · have b6 : Bd x1 0 8 := Bd.lt_l (nle c4) b3 (Bd.lit 9 9 (by decide)) 8 (by decide)
    refine J_aload_n E dX0_put_9 0 rfl ?_
    refine J_getR E in_X0 rfl (S_X0.h S0) 0 (by decide) wd299 rfl dX0_put_10 ?_
    refine J_aload_n E dX0_put_13 0 rfl ?_
    refine J_getI E in_X0 rfl (S_X0.h S0) 1 (by decide) wd300 rfl dX0_put_14 (fun x7 e8 => ?_)
    rw [show x7 = x1 from e8.trans (e2).symm]
    refine J_iload_n E dX0_put_17 1 rfl ?_
    refine J_iast1 E (S_X0.f0 S0) (Bd.in b6 (by decide)) dX0_put_18 (fun v9 e10 => ?_)
    have o11 : Ok G v9 w := by rw [e10]; exact Ok.sv hOk (S_X0.f0 S0) b6 (Bd.any x_0) 0 9 (by decide) (by decide +kernel)
    have k12 : Kp G v v9 := by rw [e10]; exact Kp.sv Kp.rf (S_X0.f0 S0) b6 0 9 I0 I1 (by decide) (by decide +kernel)
    have f13 : Fr G [0, 109] v v9 := Fr.st Fr.rf e10 (S_X0.f0 S0) rfl
    have e14 : x1 = v9 h0 1 := by rw [e10, stv_a (tg_ne (S_X0.h S0) ((S_X0.f0 S0)) rfl)]; exact e2
    refine J_aload_n E dX0_put_19 0 rfl ?_
    refine J_dup E dX0_put_20 rfl ?_
    refine J_getI E in_X0 rfl (S_X0.h S0) 1 (by decide) wd300 rfl dX0_put_21 (fun x15 e16 => ?_)
    rw [show x15 = x1 from e16.trans (e14).symm]
    refine J_iconst E 1 dX0_put_24 (by decide) ?_
    refine J_iadd E dX0_put_25 (fun x17 e18 => ?_)
    have b19 : Bd x17 1 9 := (Bd.add e18 b6 (Bd.lit 1 1 (by decide)) (by decide)).w _ _ (by decide)
    refine J_pI E in_X0 rfl (S_X0.h S0) 1 (by decide) wd300 tyX0 tyX0_ok nmX0 rfl rfl .int (by decide +kernel) rfl rfl dX0_put_26 (fun v20 e21 => ?_)
    have o22 : Ok G v20 w := Ok.pf o11 e21 (S_X0.h S0) rfl (b19.w 0 9 (by decide))
    have k23 : Kp G v v20 := Kp.pf k12 e21 (S_X0.h S0) rfl
    have f24 : Fr G [0, 109] v v20 := Fr.st f13 e21 (S_X0.h S0) rfl
    have e25 : x17 = v20 h0 1 := by rw [e21, stv_s]
    exact J_vret E hr dX0_put_29 ⟨o22, k23, ⟨⟨rfl, ((kx_X0_put_2 (e2) (e10) (e18) (e21) (c4)).symm.trans hK)⟩, f24⟩⟩

def K_X0_fillByStrength_36 (G : Gm) (w : Mw) (h0 : Nat) (rec8 : Mv → Int32 → Int32 → Int32 → Int32 → Mv) (v8 : Mv) (x_0 : Int32) (x_1 : Int32) (x_2 : Int32) (x6 : Int32) : Mv :=
  rec8 v8 x_0 x_1 x_2 (x6 + (1 : Int32))
def K_X0_fillByStrength_8 (G : Gm) (w : Mw) (h0 : Nat) : Nat → Mv → Int32 → Int32 → Int32 → Int32 → Mv
  | 0, _, _, _, _, _ => (fun _ _ => 0 : Mv)
  | n8 + 1, v1, x_0, x_1, x_2, x6 =>
    if (9 : Int32) < x6 then (v1) else (if ((x_1 >>> (x6 &&& 31)) &&& (1 : Int32)) = (1 : Int32) then (K_X0_fillByStrength_36 G w h0 (K_X0_fillByStrength_8 G w h0 n8) (F_X0_put G w v1 h0 (F_X5_oneLifts G w v1 x_0 x6 x_2)) x_0 x_1 x_2 x6) else (K_X0_fillByStrength_36 G w h0 (K_X0_fillByStrength_8 G w h0 n8) v1 x_0 x_1 x_2 x6))
def K_X0_fillByStrength_e (G : Gm) (w : Mw) (v : Mv) (h0 : Nat) (x_0 : Int32) (x_1 : Int32) (x_2 : Int32) : Mv :=
  K_X0_fillByStrength_8 G w h0 10 (stv v h0 1 (0 : Int32)) x_0 x_1 x_2 (1 : Int32)
def F_X0_fillByStrength (G : Gm) (w : Mw) (v : Mv) (h0 : Nat) (x_0 : Int32) (x_1 : Int32) (x_2 : Int32) : Mv := K_X0_fillByStrength_e G w v h0 x_0 x_1 x_2
set_option maxRecDepth 100000 in
theorem kx_X0_fillByStrength_1 {G : Gm} {w : Mw} {h0 : Nat} {rec8 : Mv → Int32 → Int32 → Int32 → Int32 → Mv} {v8 : Mv} {x_0 : Int32} {x_1 : Int32} {x_2 : Int32} {x6 : Int32} {x14 : Int32} (a0 : x14 = x6 + (1 : Int32))  : K_X0_fillByStrength_36 G w h0 rec8 v8 x_0 x_1 x_2 x6 = rec8 v8 x_0 x_1 x_2 x14 := by
  subst a0; first | rw [K_X0_fillByStrength_36] | simp only [K_X0_fillByStrength_36]
set_option maxRecDepth 100000 in
theorem kx_X0_fillByStrength_2 {G : Gm} {w : Mw} {h0 : Nat} {n8 : Nat} {v1 : Mv} {x_0 : Int32} {x_1 : Int32} {x_2 : Int32} {x6 : Int32}  (k0 : (9 : Int32) < x6) : K_X0_fillByStrength_8 G w h0 (n8 + 1) v1 x_0 x_1 x_2 x6 = v1 := by
  first | rw [K_X0_fillByStrength_8, if_pos k0] | simp only [K_X0_fillByStrength_8, if_pos k0]
set_option maxRecDepth 100000 in
theorem kx_X0_fillByStrength_3 {G : Gm} {w : Mw} {h0 : Nat} {n8 : Nat} {v1 : Mv} {x_0 : Int32} {x_1 : Int32} {x_2 : Int32} {x6 : Int32} {x20 : Int32} {x22 : Int32} (a0 : x20 = x_1 >>> (x6 &&& 31)) (a1 : x22 = x20 &&& (1 : Int32)) (k0 : ¬ ((9 : Int32) < x6)) (k1 : ¬ (x22 = (1 : Int32))) : K_X0_fillByStrength_8 G w h0 (n8 + 1) v1 x_0 x_1 x_2 x6 = K_X0_fillByStrength_36 G w h0 (K_X0_fillByStrength_8 G w h0 n8) v1 x_0 x_1 x_2 x6 := by
  subst a1; subst a0; first | rw [K_X0_fillByStrength_8, if_neg k0, if_neg k1] | simp only [K_X0_fillByStrength_8, if_neg k0, if_neg k1]
set_option maxRecDepth 100000 in
theorem kx_X0_fillByStrength_4 {G : Gm} {w : Mw} {h0 : Nat} {n8 : Nat} {v1 : Mv} {x_0 : Int32} {x_1 : Int32} {x_2 : Int32} {x6 : Int32} {v33 : Mv} {x20 : Int32} {x31 : Int32} {x22 : Int32} (a0 : x20 = x_1 >>> (x6 &&& 31)) (a1 : x22 = x20 &&& (1 : Int32)) (a2 : x31 = F_X5_oneLifts G w v1 x_0 x6 x_2) (a3 : v33 = F_X0_put G w v1 h0 x31) (k0 : ¬ ((9 : Int32) < x6)) (k1 : x22 = (1 : Int32)) : K_X0_fillByStrength_8 G w h0 (n8 + 1) v1 x_0 x_1 x_2 x6 = K_X0_fillByStrength_36 G w h0 (K_X0_fillByStrength_8 G w h0 n8) v33 x_0 x_1 x_2 x6 := by
  subst a3; subst a2; subst a1; subst a0; first | rw [K_X0_fillByStrength_8, if_neg k0, if_pos k1] | simp only [K_X0_fillByStrength_8, if_neg k0, if_pos k1]
set_option maxRecDepth 100000 in
theorem kx_X0_fillByStrength_5 {G : Gm} {w : Mw} {v : Mv} {h0 : Nat} {x_0 : Int32} {x_1 : Int32} {x_2 : Int32} {v41 : Mv} (a0 : v41 = stv v h0 1 (0 : Int32))  : K_X0_fillByStrength_e G w v h0 x_0 x_1 x_2 = K_X0_fillByStrength_8 G w h0 10 v41 x_0 x_1 x_2 (1 : Int32) := by
  subst a0; first | rw [K_X0_fillByStrength_e] | simp only [K_X0_fillByStrength_e]
abbrev rm_X0_fillByStrength : Room := { frames := 2, cells := 0, slots := 0, locals := 44 }
set_option maxHeartbeats 4000000 in
set_option maxRecDepth 100000 in
theorem ct_X0_fillByStrength (l : Launch) (D : va_G) (dA : Nat → ClassId) (G : Gm) (v : Mv) (w : Mw) (hOk : Ok G v w) (h0 : Nat) (S0 : S_X0 G h0) (x_0 : Int32) (x_1 : Int32) (x_2 : Int32) (bx_2 : Bd x_2 0 90) : CtV l yX0_fillByStrength cX0_fillByStrength 5 none rm_X0_fillByStrength D dA G [.ref h0, .int x_0, .int x_1, .int x_2] v w (fun v1 w1 => Ok G v1 w1 ∧ Kp G v v1 ∧ (w1 = w ∧ v1 = F_X0_fillByStrength G w v h0 x_0 x_1 x_2) ∧ Fr G [0, 109] v v1) := by
  refine CtV.of RX0 [(0, .ref h0), (1, .int x_0), (2, .int x_1), (3, .int x_2)] (Nat.le_of_ble_eq_true rfl) rfl (by decide) rfl ?_
  intro p e s m args below meth c E hr
  have J8 : ∀ n8 : Nat, ∀ (v1 : Mv), Ok G v1 w → Kp G v v1 → Fr G [0, 109] v v1 → Bd x_2 0 90 → ∀ x6 : Int32, Bd x6 1 10 → Mu x6 10 n8 → K_X0_fillByStrength_8 G w h0 n8 v1 x_0 x_1 x_2 x6 = F_X0_fillByStrength G w v h0 x_0 x_1 x_2 → J p l e rm_X0_fillByStrength s m args below meth c 0 0 (MQ below (QcV D dA G (fun v1 w1 => Ok G v1 w1 ∧ Kp G v v1 ∧ (w1 = w ∧ v1 = F_X0_fillByStrength G w v h0 x_0 x_1 x_2) ∧ Fr G [0, 109] v v1)) args s 0 0 (dm G)) D dA G (dm G) s.heap 5 v1 w [(0, .ref h0), (1, .int x_0), (2, .int x_1), (3, .int x_2), (4, .int x6)] 8 [] := by
    intro n8
    induction n8 with
    | zero => intro v1 o2 k3 f4 b5 x6 b7 hm hK; exact hm.zero b7 (by decide)
    | succ n8 ih8 =>
      intro v1 o2 k3 f4 b5 x6 b7 hmu8 hK
      have J36 : ∀ (v8 : Mv), Ok G v8 w → Kp G v v8 → Fr G [0, 109] v v8 → Bd x_2 0 90 → Bd x6 1 9 → K_X0_fillByStrength_36 G w h0 (K_X0_fillByStrength_8 G w h0 n8) v8 x_0 x_1 x_2 x6 = F_X0_fillByStrength G w v h0 x_0 x_1 x_2 → J p l e rm_X0_fillByStrength s m args below meth c 0 0 (MQ below (QcV D dA G (fun v1 w1 => Ok G v1 w1 ∧ Kp G v v1 ∧ (w1 = w ∧ v1 = F_X0_fillByStrength G w v h0 x_0 x_1 x_2) ∧ Fr G [0, 109] v v1)) args s 0 0 (dm G)) D dA G (dm G) s.heap 5 v8 w [(0, .ref h0), (1, .int x_0), (2, .int x_1), (3, .int x_2), (4, .int x6)] 36 [] := by
        intro v8 o9 k10 f11 b12 b13 hK
        refine J_iinc E 4 1 (fun z => [(4, .int z), (0, .ref h0), (1, .int x_0), (2, .int x_1), (3, .int x_2)]) dX0_fillByStrength_36 rfl (by decide) (by decide) (fun _ => rfl) (fun x14 e15 => ?_)
        have b16 : Bd x14 2 10 := (Bd.add e15 b13 (Bd.lit 1 1 (by decide)) (by decide)).w _ _ (by decide)
        refine J_goto E 8 dX0_fillByStrength_39 (by decide) ?_
        exact J.sub [1, 2, 3, 4, 0] rfl (ih8 v8 (o9) (k10) f11 b12 x14 (b16.w 1 10 (by decide)) (Mu.step hmu8 e15 b13 (Bd.lit 1 1 (by decide)) (by decide)) ((kx_X0_fillByStrength_1 (e15)).symm.trans hK))
      refine J_iload E dX0_fillByStrength_8 4 rfl ?_
      refine J_bipush E 9 dX0_fillByStrength_10 (by decide) ?_
      refine J_icmp_gt E 42 dX0_fillByStrength_12 (by decide) (fun c17 => ?_) (fun c17 => ?_)
      · have b18 : Bd x6 10 10 := Bd.lt_r c17 (Bd.lit 9 9 (by decide)) b7 10 (by decide)
        exact J_vret E hr dX0_fillByStrength_42 ⟨o2, k3, ⟨⟨rfl, ((kx_X0_fillByStrength_2 (c17)).symm.trans hK)⟩, f4⟩⟩
      · have b19 : Bd x6 1 9 := Bd.le_l (nlt c17) b7 (Bd.lit 9 9 (by decide)) 9 (by decide)
        refine J_iload_n E dX0_fillByStrength_15 2 rfl ?_
        refine J_iload E dX0_fillByStrength_16 4 rfl ?_
        refine J_ishr E dX0_fillByStrength_18 (fun x20 e21 => ?_)
        refine J_iconst E 1 dX0_fillByStrength_19 (by decide) ?_
        refine J_iand E dX0_fillByStrength_20 (fun x22 e23 => ?_)
        have b24 : Bd x22 0 1 := Bd.and_r e23 (Bd.lit 1 1 (by decide)) (by decide)
        refine J_iconst E 1 dX0_fillByStrength_21 (by decide) ?_
        refine J_icmp_ne E 36 dX0_fillByStrength_22 (by decide) (fun c25 => ?_) (fun c25 => ?_)
        · have b26 : Bd x22 0 0 := (Bd.ne_hi c25 b24 (Bd.lit 1 1 (by decide))).w _ _ (by decide)
          exact J.sub [0, 1, 2, 3, 4] rfl (J36 v1 (o2) (k3) f4 b5 b19 ((kx_X0_fillByStrength_3 (e21) (e23) (c17) (c25)).symm.trans hK))
        · have b27 : Bd x22 1 1 := Bd.eq_l c25 b24 (Bd.lit 1 1 (by decide)) 1 1 (by decide)
          refine J_aload_n E dX0_fillByStrength_25 0 rfl ?_
          refine J_iload_n E dX0_fillByStrength_26 1 rfl ?_
          refine J_iload E dX0_fillByStrength_27 4 rfl ?_
          refine J_iload_n E dX0_fillByStrength_29 3 rfl ?_
          refine J_callSNI E cal_X5_oneLifts wd770 [.int x_0, .int x6, .int x_2] [.ref h0] (ct_X5_oneLifts l D dA G v1 w (o2) x_0 x6 x_2) rfl rfl (Nat.le_of_ble_eq_true rfl) ⟨rfl, rfl⟩ ⟨Nat.le_of_ble_eq_true rfl, Nat.le_of_ble_eq_true rfl⟩ dX0_fillByStrength_30 (fun x31 v28 w29 p30 => ?_)
          rw [p30.1, p30.2.1]
          have e32 : x31 = F_X5_oneLifts G w v1 x_0 x6 x_2 := (p30.2.2.2)
          refine J_callVV E cal_X0_put wd771 rfl (S_X0.h S0) [.int x31] [] (ct_X0_put l D dA G v1 w (o2) h0 S0 x31) rfl rfl (Nat.le_of_ble_eq_true rfl) ⟨rfl, rfl⟩ ⟨Nat.le_of_ble_eq_true rfl, Nat.le_of_ble_eq_true rfl⟩ dX0_fillByStrength_33 (fun v33 w34 p35 => ?_)
          have ew9 : w = w34 := p35.2.2.1.1.symm
          subst ew9
          have o37 := p35.1
          have k38 : Kp G v v33 := (k3).tr p35.2.1
          have f39 : Fr G [0, 109] v v33 := Fr.tr f4 (p35.2.2.2) (by decide)
          have e40 : v33 = F_X0_put G w v1 h0 x31 := (p35.2.2.1).2
          exact J.sub [0, 1, 2, 3, 4] rfl (J36 v33 (o37) (k38) f39 b5 b19 ((kx_X0_fillByStrength_4 (e21) (e23) (e32) (e40) (c17) (c25)).symm.trans hK))
  have hK : K_X0_fillByStrength_e G w v h0 x_0 x_1 x_2 = F_X0_fillByStrength G w v h0 x_0 x_1 x_2 := rfl
  refine J_aload_n E dX0_fillByStrength_0 0 rfl ?_
  refine J_iconst E 0 dX0_fillByStrength_1 (by decide) ?_
  refine J_pI E in_X0 rfl (S_X0.h S0) 1 (by decide) wd300 tyX0 tyX0_ok nmX0 rfl rfl .int (by decide +kernel) rfl rfl dX0_fillByStrength_2 (fun v41 e42 => ?_)
  have o43 : Ok G v41 w := Ok.pf hOk e42 (S_X0.h S0) rfl ((Bd.lit 0 0 (by decide)).w 0 9 (by decide))
  have k44 : Kp G v v41 := Kp.pf Kp.rf e42 (S_X0.h S0) rfl
  have f45 : Fr G [0, 109] v v41 := Fr.st Fr.rf e42 (S_X0.h S0) rfl
  have e46 : (0 : Int32) = v41 h0 1 := by rw [e42, stv_s]
  refine J_iconst E 1 dX0_fillByStrength_5 (by decide) ?_
  refine J_istore E [(4, .int 1), (0, .ref h0), (1, .int x_0), (2, .int x_1), (3, .int x_2)] dX0_fillByStrength_6 (by decide) rfl ?_
  exact J.sub [1, 2, 3, 4, 0] rfl (J8 10 v41 (o43) (k44) f45 bx_2 1 ((Bd.lit 1 1 (by decide)).w 1 10 (by decide)) (Mu.start _ (Bd.lit 1 1 (by decide)) (by decide)) ((kx_X0_fillByStrength_5 (e42)).symm.trans hK))

def K_X5_bell_e (G : Gm) (w : Mw) (v : Mv) (x_0 : Int32) : Int32 :=
  (x_0 + (6 : Int32))
def F_X5_bell (G : Gm) (w : Mw) (v : Mv) (x_0 : Int32) : Int32 := K_X5_bell_e G w v x_0
set_option maxRecDepth 100000 in
theorem kx_X5_bell_1 {G : Gm} {w : Mw} {v : Mv} {x_0 : Int32} {x1 : Int32} (a0 : x1 = x_0 + (6 : Int32))  : K_X5_bell_e G w v x_0 = x1 := by
  subst a0; first | rw [K_X5_bell_e] | simp only [K_X5_bell_e]
abbrev rm_X5_bell : Room := { frames := 0, cells := 0, slots := 0, locals := 0 }
set_option maxHeartbeats 4000000 in
set_option maxRecDepth 100000 in
theorem ct_X5_bell (l : Launch) (D : va_G) (dA : Nat → ClassId) (G : Gm) (v : Mv) (w : Mw) (hOk : Ok G v w) (x_0 : Int32) : CtI l yX5_bell cX5_bell 1 (some .int) rm_X5_bell D dA G [.int x_0] v w (fun r v1 w1 => v1 = v ∧ w1 = w ∧ True ∧ r = F_X5_bell G w v x_0) := by
  refine CtI.of RX5 [(0, .int x_0)] (Nat.le_of_ble_eq_true rfl) rfl (by decide) rfl ?_
  intro p e s m args below meth c E hr
  have hK : K_X5_bell_e G w v x_0 = F_X5_bell G w v x_0 := rfl
  refine J_iload_n E dX5_bell_0 0 rfl ?_
  refine J_bipush E 6 dX5_bell_1 (by decide) ?_
  refine J_iadd E dX5_bell_3 (fun x1 e2 => ?_)
  exact J_iret E hr dX5_bell_4 ⟨rfl, rfl, trivial, ((kx_X5_bell_1 (e2)).symm.trans hK)⟩

def K_X5_trunk_e (G : Gm) (w : Mw) (v : Mv) (x_0 : Int32) : Int32 :=
  ((x_0 + (1 : Int32)) / (2 : Int32))
def F_X5_trunk (G : Gm) (w : Mw) (v : Mv) (x_0 : Int32) : Int32 := K_X5_trunk_e G w v x_0
set_option maxRecDepth 100000 in
theorem kx_X5_trunk_1 {G : Gm} {w : Mw} {v : Mv} {x_0 : Int32} {x3 : Int32} {x1 : Int32} (a0 : x1 = x_0 + (1 : Int32)) (a1 : x3 = x1 / (2 : Int32))  : K_X5_trunk_e G w v x_0 = x3 := by
  subst a1; subst a0; first | rw [K_X5_trunk_e] | simp only [K_X5_trunk_e]
abbrev rm_X5_trunk : Room := { frames := 0, cells := 0, slots := 0, locals := 0 }
set_option maxHeartbeats 4000000 in
set_option maxRecDepth 100000 in
theorem ct_X5_trunk (l : Launch) (D : va_G) (dA : Nat → ClassId) (G : Gm) (v : Mv) (w : Mw) (hOk : Ok G v w) (x_0 : Int32) : CtI l yX5_trunk cX5_trunk 1 (some .int) rm_X5_trunk D dA G [.int x_0] v w (fun r v1 w1 => v1 = v ∧ w1 = w ∧ True ∧ r = F_X5_trunk G w v x_0) := by
  refine CtI.of RX5 [(0, .int x_0)] (Nat.le_of_ble_eq_true rfl) rfl (by decide) rfl ?_
  intro p e s m args below meth c E hr
  have hK : K_X5_trunk_e G w v x_0 = F_X5_trunk G w v x_0 := rfl
  refine J_iload_n E dX5_trunk_0 0 rfl ?_
  refine J_iconst E 1 dX5_trunk_1 (by decide) ?_
  refine J_iadd E dX5_trunk_2 (fun x1 e2 => ?_)
  refine J_iconst E 2 dX5_trunk_3 (by decide) ?_
  refine J_idiv E dX5_trunk_4 (Bd.nz (Bd.lit 2 2 (by decide)) (by decide)) (fun x3 e4 => ?_)
  exact J_iret E hr dX5_trunk_5 ⟨rfl, rfl, trivial, ((kx_X5_trunk_1 (e2) (e4)).symm.trans hK)⟩

def K_X5_thingWeighs_e (G : Gm) (w : Mw) (v : Mv) (x_0 : Int32) (x_1 : Int32) (x_2 : Int32) : Int32 :=
  if Int32.toInt x_0 = 1 then ((F_X5_bell G w v x_1)) else if Int32.toInt x_0 = 2 then ((F_X5_trunk G w v x_1)) else if Int32.toInt x_0 = 3 then (((F_X5_bell G w v x_1) + (F_J9_min_7cf53 G w v (20 : Int32) (x_2 / (10 : Int32))))) else if Int32.toInt x_0 = 4 then (if (x_2 - x_2 / (2 : Int32) * (2 : Int32)) = (1 : Int32) then (((F_X5_trunk G w v x_1) + (9 : Int32))) else (((F_X5_trunk G w v x_1) + (0 : Int32)))) else if Int32.toInt x_0 = 5 then ((((2 : Int32) * (F_X5_trunk G w v x_1)) - (1 : Int32))) else (x_1)
def F_X5_thingWeighs (G : Gm) (w : Mw) (v : Mv) (x_0 : Int32) (x_1 : Int32) (x_2 : Int32) : Int32 := K_X5_thingWeighs_e G w v x_0 x_1 x_2
set_option maxRecDepth 100000 in
theorem kx_X5_thingWeighs_1 {G : Gm} {w : Mw} {v : Mv} {x_0 : Int32} {x_1 : Int32} {x_2 : Int32} {x6 : Int32} (a0 : x6 = F_X5_bell G w v x_1) (k0 : Int32.toInt x_0 = 1) : K_X5_thingWeighs_e G w v x_0 x_1 x_2 = x6 := by
  subst a0; first | rw [K_X5_thingWeighs_e, if_pos k0] | simp only [K_X5_thingWeighs_e, if_pos k0]
set_option maxRecDepth 100000 in
theorem kx_X5_thingWeighs_2 {G : Gm} {w : Mw} {v : Mv} {x_0 : Int32} {x_1 : Int32} {x_2 : Int32} {x13 : Int32} (a0 : x13 = F_X5_trunk G w v x_1) (k0 : ¬ (Int32.toInt x_0 = 1)) (k1 : Int32.toInt x_0 = 2) : K_X5_thingWeighs_e G w v x_0 x_1 x_2 = x13 := by
  subst a0; first | rw [K_X5_thingWeighs_e, if_neg k0, if_pos k1] | simp only [K_X5_thingWeighs_e, if_neg k0, if_pos k1]
set_option maxRecDepth 100000 in
theorem kx_X5_thingWeighs_3 {G : Gm} {w : Mw} {v : Mv} {x_0 : Int32} {x_1 : Int32} {x_2 : Int32} {x29 : Int32} {x22 : Int32} {x20 : Int32} {x27 : Int32} (a0 : x20 = F_X5_bell G w v x_1) (a1 : x22 = x_2 / (10 : Int32)) (a2 : x27 = F_J9_min_7cf53 G w v (20 : Int32) x22) (a3 : x29 = x20 + x27) (k0 : ¬ (Int32.toInt x_0 = 1)) (k1 : ¬ (Int32.toInt x_0 = 2)) (k2 : Int32.toInt x_0 = 3) : K_X5_thingWeighs_e G w v x_0 x_1 x_2 = x29 := by
  subst a3; subst a2; subst a1; subst a0; first | rw [K_X5_thingWeighs_e, if_neg k0, if_neg k1, if_pos k2] | simp only [K_X5_thingWeighs_e, if_neg k0, if_neg k1, if_pos k2]
set_option maxRecDepth 100000 in
theorem kx_X5_thingWeighs_4 {G : Gm} {w : Mw} {v : Mv} {x_0 : Int32} {x_1 : Int32} {x_2 : Int32} {x43 : Int32} {x36 : Int32} {x38 : Int32} (a0 : x36 = F_X5_trunk G w v x_1) (a1 : x38 = x_2 - x_2 / (2 : Int32) * (2 : Int32)) (a2 : x43 = x36 + (0 : Int32)) (k0 : ¬ (Int32.toInt x_0 = 1)) (k1 : ¬ (Int32.toInt x_0 = 2)) (k2 : ¬ (Int32.toInt x_0 = 3)) (k3 : Int32.toInt x_0 = 4) (k4 : ¬ (x38 = (1 : Int32))) : K_X5_thingWeighs_e G w v x_0 x_1 x_2 = x43 := by
  subst a2; subst a1; subst a0; first | rw [K_X5_thingWeighs_e, if_neg k0, if_neg k1, if_neg k2, if_pos k3, if_neg k4] | simp only [K_X5_thingWeighs_e, if_neg k0, if_neg k1, if_neg k2, if_pos k3, if_neg k4]
set_option maxRecDepth 100000 in
theorem kx_X5_thingWeighs_5 {G : Gm} {w : Mw} {v : Mv} {x_0 : Int32} {x_1 : Int32} {x_2 : Int32} {x46 : Int32} {x36 : Int32} {x38 : Int32} (a0 : x36 = F_X5_trunk G w v x_1) (a1 : x38 = x_2 - x_2 / (2 : Int32) * (2 : Int32)) (a2 : x46 = x36 + (9 : Int32)) (k0 : ¬ (Int32.toInt x_0 = 1)) (k1 : ¬ (Int32.toInt x_0 = 2)) (k2 : ¬ (Int32.toInt x_0 = 3)) (k3 : Int32.toInt x_0 = 4) (k4 : x38 = (1 : Int32)) : K_X5_thingWeighs_e G w v x_0 x_1 x_2 = x46 := by
  subst a2; subst a1; subst a0; first | rw [K_X5_thingWeighs_e, if_neg k0, if_neg k1, if_neg k2, if_pos k3, if_pos k4] | simp only [K_X5_thingWeighs_e, if_neg k0, if_neg k1, if_neg k2, if_pos k3, if_pos k4]
set_option maxRecDepth 100000 in
theorem kx_X5_thingWeighs_6 {G : Gm} {w : Mw} {v : Mv} {x_0 : Int32} {x_1 : Int32} {x_2 : Int32} {x57 : Int32} {x53 : Int32} {x55 : Int32} (a0 : x53 = F_X5_trunk G w v x_1) (a1 : x55 = (2 : Int32) * x53) (a2 : x57 = x55 - (1 : Int32)) (k0 : ¬ (Int32.toInt x_0 = 1)) (k1 : ¬ (Int32.toInt x_0 = 2)) (k2 : ¬ (Int32.toInt x_0 = 3)) (k3 : ¬ (Int32.toInt x_0 = 4)) (k4 : Int32.toInt x_0 = 5) : K_X5_thingWeighs_e G w v x_0 x_1 x_2 = x57 := by
  subst a2; subst a1; subst a0; first | rw [K_X5_thingWeighs_e, if_neg k0, if_neg k1, if_neg k2, if_neg k3, if_pos k4] | simp only [K_X5_thingWeighs_e, if_neg k0, if_neg k1, if_neg k2, if_neg k3, if_pos k4]
set_option maxRecDepth 100000 in
theorem kx_X5_thingWeighs_7 {G : Gm} {w : Mw} {v : Mv} {x_0 : Int32} {x_1 : Int32} {x_2 : Int32}  (k0 : ¬ (Int32.toInt x_0 = 1)) (k1 : ¬ (Int32.toInt x_0 = 2)) (k2 : ¬ (Int32.toInt x_0 = 3)) (k3 : ¬ (Int32.toInt x_0 = 4)) (k4 : ¬ (Int32.toInt x_0 = 5)) : K_X5_thingWeighs_e G w v x_0 x_1 x_2 = x_1 := by
  first | rw [K_X5_thingWeighs_e, if_neg k0, if_neg k1, if_neg k2, if_neg k3, if_neg k4] | simp only [K_X5_thingWeighs_e, if_neg k0, if_neg k1, if_neg k2, if_neg k3, if_neg k4]
abbrev rm_X5_thingWeighs : Room := { frames := 1, cells := 0, slots := 0, locals := 21 }
set_option maxHeartbeats 4000000 in
set_option maxRecDepth 100000 in
theorem ct_X5_thingWeighs (l : Launch) (D : va_G) (dA : Nat → ClassId) (G : Gm) (v : Mv) (w : Mw) (hOk : Ok G v w) (x_0 : Int32) (x_1 : Int32) (x_2 : Int32) : CtI l yX5_thingWeighs cX5_thingWeighs 3 (some .int) rm_X5_thingWeighs D dA G [.int x_0, .int x_1, .int x_2] v w (fun r v1 w1 => v1 = v ∧ w1 = w ∧ True ∧ r = F_X5_thingWeighs G w v x_0 x_1 x_2) := by
  refine CtI.of RX5 [(0, .int x_0), (1, .int x_1), (2, .int x_2)] (Nat.le_of_ble_eq_true rfl) rfl (by decide) rfl ?_
  intro p e s m args below meth c E hr
  have hK : K_X5_thingWeighs_e G w v x_0 x_1 x_2 = F_X5_thingWeighs G w v x_0 x_1 x_2 := rfl
  refine J_iload_n E dX5_thingWeighs_0 0 rfl ?_
  by_cases h1 : x_0.toInt = 1
  · refine J_tabIn E 1 36 dX5_thingWeighs_1 h1 (by decide) (by decide) rfl (by decide) ?_
    have b2 : Bd x_0 1 1 := ⟨by omega, by omega⟩
    refine J_iload_n E dX5_thingWeighs_36 1 rfl ?_
    refine J_callSI E cal_X5_bell wd533 [.int x_1] [] (ct_X5_bell l D dA G v w (hOk) x_1) rfl rfl (Nat.le_of_ble_eq_true rfl) ⟨rfl, rfl⟩ ⟨Nat.le_of_ble_eq_true rfl, Nat.le_of_ble_eq_true rfl⟩ dX5_thingWeighs_37 (fun x6 v3 w4 p5 => ?_)
    rw [p5.1, p5.2.1]
    have e7 : x6 = F_X5_bell G w v x_1 := (p5.2.2.2)
    exact J_iret E hr dX5_thingWeighs_40 ⟨rfl, rfl, trivial, ((kx_X5_thingWeighs_1 (e7) (h1)).symm.trans hK)⟩
  by_cases h8 : x_0.toInt = 2
  · refine J_tabIn E 2 41 dX5_thingWeighs_1 h8 (by decide) (by decide) rfl (by decide) ?_
    have b9 : Bd x_0 2 2 := ⟨by omega, by omega⟩
    refine J_iload_n E dX5_thingWeighs_41 1 rfl ?_
    refine J_callSI E cal_X5_trunk wd536 [.int x_1] [] (ct_X5_trunk l D dA G v w (hOk) x_1) rfl rfl (Nat.le_of_ble_eq_true rfl) ⟨rfl, rfl⟩ ⟨Nat.le_of_ble_eq_true rfl, Nat.le_of_ble_eq_true rfl⟩ dX5_thingWeighs_42 (fun x13 v10 w11 p12 => ?_)
    rw [p12.1, p12.2.1]
    have e14 : x13 = F_X5_trunk G w v x_1 := (p12.2.2.2)
    exact J_iret E hr dX5_thingWeighs_45 ⟨rfl, rfl, trivial, ((kx_X5_thingWeighs_2 (e14) (h1) (h8)).symm.trans hK)⟩
  by_cases h15 : x_0.toInt = 3
  · refine J_tabIn E 3 46 dX5_thingWeighs_1 h15 (by decide) (by decide) rfl (by decide) ?_
    have b16 : Bd x_0 3 3 := ⟨by omega, by omega⟩
    refine J_iload_n E dX5_thingWeighs_46 1 rfl ?_
    refine J_callSI E cal_X5_bell wd533 [.int x_1] [] (ct_X5_bell l D dA G v w (hOk) x_1) rfl rfl (Nat.le_of_ble_eq_true rfl) ⟨rfl, rfl⟩ ⟨Nat.le_of_ble_eq_true rfl, Nat.le_of_ble_eq_true rfl⟩ dX5_thingWeighs_47 (fun x20 v17 w18 p19 => ?_)
    rw [p19.1, p19.2.1]
    have e21 : x20 = F_X5_bell G w v x_1 := (p19.2.2.2)
    refine J_bipush E 20 dX5_thingWeighs_50 (by decide) ?_
    refine J_iload_n E dX5_thingWeighs_52 2 rfl ?_
    refine J_bipush E 10 dX5_thingWeighs_53 (by decide) ?_
    refine J_idiv E dX5_thingWeighs_55 (Bd.nz (Bd.lit 10 10 (by decide)) (by decide)) (fun x22 e23 => ?_)
    refine J_callSI E cal_J9_min_7cf53 wd539 [.int 20, .int x22] [.int x20] (ct_J9_min_7cf53 l D dA G v w (hOk) 20 x22) rfl rfl (Nat.le_of_ble_eq_true rfl) ⟨rfl, rfl⟩ ⟨Nat.le_of_ble_eq_true rfl, Nat.le_of_ble_eq_true rfl⟩ dX5_thingWeighs_56 (fun x27 v24 w25 p26 => ?_)
    rw [p26.1, p26.2.1]
    have e28 : x27 = F_J9_min_7cf53 G w v (20 : Int32) x22 := (p26.2.2.2)
    refine J_iadd E dX5_thingWeighs_59 (fun x29 e30 => ?_)
    exact J_iret E hr dX5_thingWeighs_60 ⟨rfl, rfl, trivial, ((kx_X5_thingWeighs_3 (e21) (e23) (e28) (e30) (h1) (h8) (h15)).symm.trans hK)⟩
  by_cases h31 : x_0.toInt = 4
  · refine J_tabIn E 4 61 dX5_thingWeighs_1 h31 (by decide) (by decide) rfl (by decide) ?_
    have b32 : Bd x_0 4 4 := ⟨by omega, by omega⟩
    refine J_iload_n E dX5_thingWeighs_61 1 rfl ?_
    refine J_callSI E cal_X5_trunk wd536 [.int x_1] [] (ct_X5_trunk l D dA G v w (hOk) x_1) rfl rfl (Nat.le_of_ble_eq_true rfl) ⟨rfl, rfl⟩ ⟨Nat.le_of_ble_eq_true rfl, Nat.le_of_ble_eq_true rfl⟩ dX5_thingWeighs_62 (fun x36 v33 w34 p35 => ?_)
    rw [p35.1, p35.2.1]
    have e37 : x36 = F_X5_trunk G w v x_1 := (p35.2.2.2)
    refine J_iload_n E dX5_thingWeighs_65 2 rfl ?_
    refine J_iconst E 2 dX5_thingWeighs_66 (by decide) ?_
    refine J_irem E dX5_thingWeighs_67 (Bd.nz (Bd.lit 2 2 (by decide)) (by decide)) (fun x38 e39 => ?_)
    have b40 : Bd x38 (-1) 1 := (Bd.rem e39 (Bd.lit 2 2 (by decide)) (by decide)).w _ _ (by decide)
    refine J_iconst E 1 dX5_thingWeighs_68 (by decide) ?_
    refine J_icmp_ne E 77 dX5_thingWeighs_69 (by decide) (fun c41 => ?_) (fun c41 => ?_)
    · have b42 : Bd x38 (-1) 0 := (Bd.ne_hi c41 b40 (Bd.lit 1 1 (by decide))).w _ _ (by decide)
      refine J_iconst E 0 dX5_thingWeighs_77 (by decide) ?_
      refine J_iadd E dX5_thingWeighs_78 (fun x43 e44 => ?_)
      exact J_iret E hr dX5_thingWeighs_79 ⟨rfl, rfl, trivial, ((kx_X5_thingWeighs_4 (e37) (e39) (e44) (h1) (h8) (h15) (h31) (c41)).symm.trans hK)⟩
    · have b45 : Bd x38 1 1 := Bd.eq_l c41 b40 (Bd.lit 1 1 (by decide)) 1 1 (by decide)
      refine J_bipush E 9 dX5_thingWeighs_72 (by decide) ?_
      refine J_goto E 78 dX5_thingWeighs_74 (by decide) ?_
      refine J_iadd E dX5_thingWeighs_78 (fun x46 e47 => ?_)
      exact J_iret E hr dX5_thingWeighs_79 ⟨rfl, rfl, trivial, ((kx_X5_thingWeighs_5 (e37) (e39) (e47) (h1) (h8) (h15) (h31) (c41)).symm.trans hK)⟩
  by_cases h48 : x_0.toInt = 5
  · refine J_tabIn E 5 80 dX5_thingWeighs_1 h48 (by decide) (by decide) rfl (by decide) ?_
    have b49 : Bd x_0 5 5 := ⟨by omega, by omega⟩
    refine J_iconst E 2 dX5_thingWeighs_80 (by decide) ?_
    refine J_iload_n E dX5_thingWeighs_81 1 rfl ?_
    refine J_callSI E cal_X5_trunk wd536 [.int x_1] [.int 2] (ct_X5_trunk l D dA G v w (hOk) x_1) rfl rfl (Nat.le_of_ble_eq_true rfl) ⟨rfl, rfl⟩ ⟨Nat.le_of_ble_eq_true rfl, Nat.le_of_ble_eq_true rfl⟩ dX5_thingWeighs_82 (fun x53 v50 w51 p52 => ?_)
    rw [p52.1, p52.2.1]
    have e54 : x53 = F_X5_trunk G w v x_1 := (p52.2.2.2)
    refine J_imul E dX5_thingWeighs_85 (fun x55 e56 => ?_)
    refine J_iconst E 1 dX5_thingWeighs_86 (by decide) ?_
    refine J_isub E dX5_thingWeighs_87 (fun x57 e58 => ?_)
    exact J_iret E hr dX5_thingWeighs_88 ⟨rfl, rfl, trivial, ((kx_X5_thingWeighs_6 (e54) (e56) (e58) (h1) (h8) (h15) (h31) (h48)).symm.trans hK)⟩
  refine J_tabOut (x := x_0) E 89 dX5_thingWeighs_1 (by have := (Bd.any x_0); simp only [Bd, I0, I1] at this; omega) (by decide) ?_
  refine J_iload_n E dX5_thingWeighs_89 1 rfl ?_
  exact J_iret E hr dX5_thingWeighs_90 ⟨rfl, rfl, trivial, ((kx_X5_thingWeighs_7 (h1) (h8) (h15) (h31) (h48)).symm.trans hK)⟩

def K_X0_fillByThingKind_36 (G : Gm) (w : Mw) (h0 : Nat) (rec8 : Mv → Int32 → Int32 → Int32 → Int32 → Mv) (v8 : Mv) (x_0 : Int32) (x_1 : Int32) (x_2 : Int32) (x6 : Int32) : Mv :=
  rec8 v8 x_0 x_1 x_2 (x6 + (1 : Int32))
def K_X0_fillByThingKind_8 (G : Gm) (w : Mw) (h0 : Nat) : Nat → Mv → Int32 → Int32 → Int32 → Int32 → Mv
  | 0, _, _, _, _, _ => (fun _ _ => 0 : Mv)
  | n8 + 1, v1, x_0, x_1, x_2, x6 =>
    if (6 : Int32) ≤ x6 then (v1) else (if ((x_0 >>> (x6 &&& 31)) &&& (1 : Int32)) = (1 : Int32) then (K_X0_fillByThingKind_36 G w h0 (K_X0_fillByThingKind_8 G w h0 n8) (F_X0_put G w v1 h0 (F_X5_thingWeighs G w v1 x6 x_1 x_2)) x_0 x_1 x_2 x6) else (K_X0_fillByThingKind_36 G w h0 (K_X0_fillByThingKind_8 G w h0 n8) v1 x_0 x_1 x_2 x6))
def K_X0_fillByThingKind_e (G : Gm) (w : Mw) (v : Mv) (h0 : Nat) (x_0 : Int32) (x_1 : Int32) (x_2 : Int32) : Mv :=
  K_X0_fillByThingKind_8 G w h0 7 (stv v h0 1 (0 : Int32)) x_0 x_1 x_2 (0 : Int32)
def F_X0_fillByThingKind (G : Gm) (w : Mw) (v : Mv) (h0 : Nat) (x_0 : Int32) (x_1 : Int32) (x_2 : Int32) : Mv := K_X0_fillByThingKind_e G w v h0 x_0 x_1 x_2
set_option maxRecDepth 100000 in
theorem kx_X0_fillByThingKind_1 {G : Gm} {w : Mw} {h0 : Nat} {rec8 : Mv → Int32 → Int32 → Int32 → Int32 → Mv} {v8 : Mv} {x_0 : Int32} {x_1 : Int32} {x_2 : Int32} {x6 : Int32} {x14 : Int32} (a0 : x14 = x6 + (1 : Int32))  : K_X0_fillByThingKind_36 G w h0 rec8 v8 x_0 x_1 x_2 x6 = rec8 v8 x_0 x_1 x_2 x14 := by
  subst a0; first | rw [K_X0_fillByThingKind_36] | simp only [K_X0_fillByThingKind_36]
set_option maxRecDepth 100000 in
theorem kx_X0_fillByThingKind_2 {G : Gm} {w : Mw} {h0 : Nat} {n8 : Nat} {v1 : Mv} {x_0 : Int32} {x_1 : Int32} {x_2 : Int32} {x6 : Int32}  (k0 : (6 : Int32) ≤ x6) : K_X0_fillByThingKind_8 G w h0 (n8 + 1) v1 x_0 x_1 x_2 x6 = v1 := by
  first | rw [K_X0_fillByThingKind_8, if_pos k0] | simp only [K_X0_fillByThingKind_8, if_pos k0]
set_option maxRecDepth 100000 in
theorem kx_X0_fillByThingKind_3 {G : Gm} {w : Mw} {h0 : Nat} {n8 : Nat} {v1 : Mv} {x_0 : Int32} {x_1 : Int32} {x_2 : Int32} {x6 : Int32} {x20 : Int32} {x22 : Int32} (a0 : x20 = x_0 >>> (x6 &&& 31)) (a1 : x22 = x20 &&& (1 : Int32)) (k0 : ¬ ((6 : Int32) ≤ x6)) (k1 : ¬ (x22 = (1 : Int32))) : K_X0_fillByThingKind_8 G w h0 (n8 + 1) v1 x_0 x_1 x_2 x6 = K_X0_fillByThingKind_36 G w h0 (K_X0_fillByThingKind_8 G w h0 n8) v1 x_0 x_1 x_2 x6 := by
  subst a1; subst a0; first | rw [K_X0_fillByThingKind_8, if_neg k0, if_neg k1] | simp only [K_X0_fillByThingKind_8, if_neg k0, if_neg k1]
set_option maxRecDepth 100000 in
theorem kx_X0_fillByThingKind_4 {G : Gm} {w : Mw} {h0 : Nat} {n8 : Nat} {v1 : Mv} {x_0 : Int32} {x_1 : Int32} {x_2 : Int32} {x6 : Int32} {v33 : Mv} {x20 : Int32} {x31 : Int32} {x22 : Int32} (a0 : x20 = x_0 >>> (x6 &&& 31)) (a1 : x22 = x20 &&& (1 : Int32)) (a2 : x31 = F_X5_thingWeighs G w v1 x6 x_1 x_2) (a3 : v33 = F_X0_put G w v1 h0 x31) (k0 : ¬ ((6 : Int32) ≤ x6)) (k1 : x22 = (1 : Int32)) : K_X0_fillByThingKind_8 G w h0 (n8 + 1) v1 x_0 x_1 x_2 x6 = K_X0_fillByThingKind_36 G w h0 (K_X0_fillByThingKind_8 G w h0 n8) v33 x_0 x_1 x_2 x6 := by
  subst a3; subst a2; subst a1; subst a0; first | rw [K_X0_fillByThingKind_8, if_neg k0, if_pos k1] | simp only [K_X0_fillByThingKind_8, if_neg k0, if_pos k1]
set_option maxRecDepth 100000 in
theorem kx_X0_fillByThingKind_5 {G : Gm} {w : Mw} {v : Mv} {h0 : Nat} {x_0 : Int32} {x_1 : Int32} {x_2 : Int32} {v41 : Mv} (a0 : v41 = stv v h0 1 (0 : Int32))  : K_X0_fillByThingKind_e G w v h0 x_0 x_1 x_2 = K_X0_fillByThingKind_8 G w h0 7 v41 x_0 x_1 x_2 (0 : Int32) := by
  subst a0; first | rw [K_X0_fillByThingKind_e] | simp only [K_X0_fillByThingKind_e]
abbrev rm_X0_fillByThingKind : Room := { frames := 2, cells := 0, slots := 0, locals := 43 }
set_option maxHeartbeats 4000000 in
set_option maxRecDepth 100000 in
theorem ct_X0_fillByThingKind (l : Launch) (D : va_G) (dA : Nat → ClassId) (G : Gm) (v : Mv) (w : Mw) (hOk : Ok G v w) (h0 : Nat) (S0 : S_X0 G h0) (x_0 : Int32) (x_1 : Int32) (x_2 : Int32) (bx_2 : Bd x_2 0 60) : CtV l yX0_fillByThingKind cX0_fillByThingKind 5 none rm_X0_fillByThingKind D dA G [.ref h0, .int x_0, .int x_1, .int x_2] v w (fun v1 w1 => Ok G v1 w1 ∧ Kp G v v1 ∧ (w1 = w ∧ v1 = F_X0_fillByThingKind G w v h0 x_0 x_1 x_2) ∧ Fr G [0, 109] v v1) := by
  refine CtV.of RX0 [(0, .ref h0), (1, .int x_0), (2, .int x_1), (3, .int x_2)] (Nat.le_of_ble_eq_true rfl) rfl (by decide) rfl ?_
  intro p e s m args below meth c E hr
  have J8 : ∀ n8 : Nat, ∀ (v1 : Mv), Ok G v1 w → Kp G v v1 → Fr G [0, 109] v v1 → Bd x_2 0 60 → ∀ x6 : Int32, Bd x6 0 6 → Mu x6 6 n8 → K_X0_fillByThingKind_8 G w h0 n8 v1 x_0 x_1 x_2 x6 = F_X0_fillByThingKind G w v h0 x_0 x_1 x_2 → J p l e rm_X0_fillByThingKind s m args below meth c 0 0 (MQ below (QcV D dA G (fun v1 w1 => Ok G v1 w1 ∧ Kp G v v1 ∧ (w1 = w ∧ v1 = F_X0_fillByThingKind G w v h0 x_0 x_1 x_2) ∧ Fr G [0, 109] v v1)) args s 0 0 (dm G)) D dA G (dm G) s.heap 5 v1 w [(0, .ref h0), (1, .int x_0), (2, .int x_1), (3, .int x_2), (4, .int x6)] 8 [] := by
    intro n8
    induction n8 with
    | zero => intro v1 o2 k3 f4 b5 x6 b7 hm hK; exact hm.zero b7 (by decide)
    | succ n8 ih8 =>
      intro v1 o2 k3 f4 b5 x6 b7 hmu8 hK
      have J36 : ∀ (v8 : Mv), Ok G v8 w → Kp G v v8 → Fr G [0, 109] v v8 → Bd x_2 0 60 → Bd x6 0 5 → K_X0_fillByThingKind_36 G w h0 (K_X0_fillByThingKind_8 G w h0 n8) v8 x_0 x_1 x_2 x6 = F_X0_fillByThingKind G w v h0 x_0 x_1 x_2 → J p l e rm_X0_fillByThingKind s m args below meth c 0 0 (MQ below (QcV D dA G (fun v1 w1 => Ok G v1 w1 ∧ Kp G v v1 ∧ (w1 = w ∧ v1 = F_X0_fillByThingKind G w v h0 x_0 x_1 x_2) ∧ Fr G [0, 109] v v1)) args s 0 0 (dm G)) D dA G (dm G) s.heap 5 v8 w [(0, .ref h0), (1, .int x_0), (2, .int x_1), (3, .int x_2), (4, .int x6)] 36 [] := by
        intro v8 o9 k10 f11 b12 b13 hK
        refine J_iinc E 4 1 (fun z => [(4, .int z), (0, .ref h0), (1, .int x_0), (2, .int x_1), (3, .int x_2)]) dX0_fillByThingKind_36 rfl (by decide) (by decide) (fun _ => rfl) (fun x14 e15 => ?_)
        have b16 : Bd x14 1 6 := (Bd.add e15 b13 (Bd.lit 1 1 (by decide)) (by decide)).w _ _ (by decide)
        refine J_goto E 8 dX0_fillByThingKind_39 (by decide) ?_
        exact J.sub [1, 2, 3, 4, 0] rfl (ih8 v8 (o9) (k10) f11 b12 x14 (b16.w 0 6 (by decide)) (Mu.step hmu8 e15 b13 (Bd.lit 1 1 (by decide)) (by decide)) ((kx_X0_fillByThingKind_1 (e15)).symm.trans hK))
      refine J_iload E dX0_fillByThingKind_8 4 rfl ?_
      refine J_bipush E 6 dX0_fillByThingKind_10 (by decide) ?_
      refine J_icmp_ge E 42 dX0_fillByThingKind_12 (by decide) (fun c17 => ?_) (fun c17 => ?_)
      · have b18 : Bd x6 6 6 := Bd.le_r c17 (Bd.lit 6 6 (by decide)) b7 6 (by decide)
        exact J_vret E hr dX0_fillByThingKind_42 ⟨o2, k3, ⟨⟨rfl, ((kx_X0_fillByThingKind_2 (c17)).symm.trans hK)⟩, f4⟩⟩
      · have b19 : Bd x6 0 5 := Bd.lt_l (nle c17) b7 (Bd.lit 6 6 (by decide)) 5 (by decide)
        refine J_iload_n E dX0_fillByThingKind_15 1 rfl ?_
        refine J_iload E dX0_fillByThingKind_16 4 rfl ?_
        refine J_ishr E dX0_fillByThingKind_18 (fun x20 e21 => ?_)
        refine J_iconst E 1 dX0_fillByThingKind_19 (by decide) ?_
        refine J_iand E dX0_fillByThingKind_20 (fun x22 e23 => ?_)
        have b24 : Bd x22 0 1 := Bd.and_r e23 (Bd.lit 1 1 (by decide)) (by decide)
        refine J_iconst E 1 dX0_fillByThingKind_21 (by decide) ?_
        refine J_icmp_ne E 36 dX0_fillByThingKind_22 (by decide) (fun c25 => ?_) (fun c25 => ?_)
        · have b26 : Bd x22 0 0 := (Bd.ne_hi c25 b24 (Bd.lit 1 1 (by decide))).w _ _ (by decide)
          exact J.sub [0, 1, 2, 3, 4] rfl (J36 v1 (o2) (k3) f4 b5 b19 ((kx_X0_fillByThingKind_3 (e21) (e23) (c17) (c25)).symm.trans hK))
        · have b27 : Bd x22 1 1 := Bd.eq_l c25 b24 (Bd.lit 1 1 (by decide)) 1 1 (by decide)
          refine J_aload_n E dX0_fillByThingKind_25 0 rfl ?_
          refine J_iload E dX0_fillByThingKind_26 4 rfl ?_
          refine J_iload_n E dX0_fillByThingKind_28 2 rfl ?_
          refine J_iload_n E dX0_fillByThingKind_29 3 rfl ?_
          refine J_callSNI E cal_X5_thingWeighs wd813 [.int x6, .int x_1, .int x_2] [.ref h0] (ct_X5_thingWeighs l D dA G v1 w (o2) x6 x_1 x_2) rfl rfl (Nat.le_of_ble_eq_true rfl) ⟨rfl, rfl⟩ ⟨Nat.le_of_ble_eq_true rfl, Nat.le_of_ble_eq_true rfl⟩ dX0_fillByThingKind_30 (fun x31 v28 w29 p30 => ?_)
          rw [p30.1, p30.2.1]
          have e32 : x31 = F_X5_thingWeighs G w v1 x6 x_1 x_2 := (p30.2.2.2)
          refine J_callVV E cal_X0_put wd771 rfl (S_X0.h S0) [.int x31] [] (ct_X0_put l D dA G v1 w (o2) h0 S0 x31) rfl rfl (Nat.le_of_ble_eq_true rfl) ⟨rfl, rfl⟩ ⟨Nat.le_of_ble_eq_true rfl, Nat.le_of_ble_eq_true rfl⟩ dX0_fillByThingKind_33 (fun v33 w34 p35 => ?_)
          have ew9 : w = w34 := p35.2.2.1.1.symm
          subst ew9
          have o37 := p35.1
          have k38 : Kp G v v33 := (k3).tr p35.2.1
          have f39 : Fr G [0, 109] v v33 := Fr.tr f4 (p35.2.2.2) (by decide)
          have e40 : v33 = F_X0_put G w v1 h0 x31 := (p35.2.2.1).2
          exact J.sub [0, 1, 2, 3, 4] rfl (J36 v33 (o37) (k38) f39 b5 b19 ((kx_X0_fillByThingKind_4 (e21) (e23) (e32) (e40) (c17) (c25)).symm.trans hK))
  have hK : K_X0_fillByThingKind_e G w v h0 x_0 x_1 x_2 = F_X0_fillByThingKind G w v h0 x_0 x_1 x_2 := rfl
  refine J_aload_n E dX0_fillByThingKind_0 0 rfl ?_
  refine J_iconst E 0 dX0_fillByThingKind_1 (by decide) ?_
  refine J_pI E in_X0 rfl (S_X0.h S0) 1 (by decide) wd300 tyX0 tyX0_ok nmX0 rfl rfl .int (by decide +kernel) rfl rfl dX0_fillByThingKind_2 (fun v41 e42 => ?_)
  have o43 : Ok G v41 w := Ok.pf hOk e42 (S_X0.h S0) rfl ((Bd.lit 0 0 (by decide)).w 0 9 (by decide))
  have k44 : Kp G v v41 := Kp.pf Kp.rf e42 (S_X0.h S0) rfl
  have f45 : Fr G [0, 109] v v41 := Fr.st Fr.rf e42 (S_X0.h S0) rfl
  have e46 : (0 : Int32) = v41 h0 1 := by rw [e42, stv_s]
  refine J_iconst E 0 dX0_fillByThingKind_5 (by decide) ?_
  refine J_istore E [(4, .int 0), (0, .ref h0), (1, .int x_0), (2, .int x_1), (3, .int x_2)] dX0_fillByThingKind_6 (by decide) rfl ?_
  exact J.sub [1, 2, 3, 4, 0] rfl (J8 7 v41 (o43) (k44) f45 bx_2 0 ((Bd.lit 0 0 (by decide)).w 0 6 (by decide)) (Mu.start _ (Bd.lit 0 0 (by decide)) (by decide)) ((kx_X0_fillByThingKind_5 (e42)).symm.trans hK))

def K_X0_fillByOneKind_36 (G : Gm) (w : Mw) (h0 : Nat) (rec8 : Mv → Int32 → Int32 → Int32 → Int32 → Mv) (v8 : Mv) (x_0 : Int32) (x_1 : Int32) (x_2 : Int32) (x6 : Int32) : Mv :=
  rec8 v8 x_0 x_1 x_2 (x6 + (1 : Int32))
def K_X0_fillByOneKind_8 (G : Gm) (w : Mw) (h0 : Nat) : Nat → Mv → Int32 → Int32 → Int32 → Int32 → Mv
  | 0, _, _, _, _, _ => (fun _ _ => 0 : Mv)
  | n8 + 1, v1, x_0, x_1, x_2, x6 =>
    if (6 : Int32) ≤ x6 then (v1) else (if ((x_0 >>> (x6 &&& 31)) &&& (1 : Int32)) = (1 : Int32) then (K_X0_fillByOneKind_36 G w h0 (K_X0_fillByOneKind_8 G w h0 n8) (F_X0_put G w v1 h0 (F_X5_oneLifts G w v1 x6 x_1 x_2)) x_0 x_1 x_2 x6) else (K_X0_fillByOneKind_36 G w h0 (K_X0_fillByOneKind_8 G w h0 n8) v1 x_0 x_1 x_2 x6))
def K_X0_fillByOneKind_e (G : Gm) (w : Mw) (v : Mv) (h0 : Nat) (x_0 : Int32) (x_1 : Int32) (x_2 : Int32) : Mv :=
  K_X0_fillByOneKind_8 G w h0 7 (stv v h0 1 (0 : Int32)) x_0 x_1 x_2 (0 : Int32)
def F_X0_fillByOneKind (G : Gm) (w : Mw) (v : Mv) (h0 : Nat) (x_0 : Int32) (x_1 : Int32) (x_2 : Int32) : Mv := K_X0_fillByOneKind_e G w v h0 x_0 x_1 x_2
set_option maxRecDepth 100000 in
theorem kx_X0_fillByOneKind_1 {G : Gm} {w : Mw} {h0 : Nat} {rec8 : Mv → Int32 → Int32 → Int32 → Int32 → Mv} {v8 : Mv} {x_0 : Int32} {x_1 : Int32} {x_2 : Int32} {x6 : Int32} {x14 : Int32} (a0 : x14 = x6 + (1 : Int32))  : K_X0_fillByOneKind_36 G w h0 rec8 v8 x_0 x_1 x_2 x6 = rec8 v8 x_0 x_1 x_2 x14 := by
  subst a0; first | rw [K_X0_fillByOneKind_36] | simp only [K_X0_fillByOneKind_36]
set_option maxRecDepth 100000 in
theorem kx_X0_fillByOneKind_2 {G : Gm} {w : Mw} {h0 : Nat} {n8 : Nat} {v1 : Mv} {x_0 : Int32} {x_1 : Int32} {x_2 : Int32} {x6 : Int32}  (k0 : (6 : Int32) ≤ x6) : K_X0_fillByOneKind_8 G w h0 (n8 + 1) v1 x_0 x_1 x_2 x6 = v1 := by
  first | rw [K_X0_fillByOneKind_8, if_pos k0] | simp only [K_X0_fillByOneKind_8, if_pos k0]
set_option maxRecDepth 100000 in
theorem kx_X0_fillByOneKind_3 {G : Gm} {w : Mw} {h0 : Nat} {n8 : Nat} {v1 : Mv} {x_0 : Int32} {x_1 : Int32} {x_2 : Int32} {x6 : Int32} {x20 : Int32} {x22 : Int32} (a0 : x20 = x_0 >>> (x6 &&& 31)) (a1 : x22 = x20 &&& (1 : Int32)) (k0 : ¬ ((6 : Int32) ≤ x6)) (k1 : ¬ (x22 = (1 : Int32))) : K_X0_fillByOneKind_8 G w h0 (n8 + 1) v1 x_0 x_1 x_2 x6 = K_X0_fillByOneKind_36 G w h0 (K_X0_fillByOneKind_8 G w h0 n8) v1 x_0 x_1 x_2 x6 := by
  subst a1; subst a0; first | rw [K_X0_fillByOneKind_8, if_neg k0, if_neg k1] | simp only [K_X0_fillByOneKind_8, if_neg k0, if_neg k1]
set_option maxRecDepth 100000 in
theorem kx_X0_fillByOneKind_4 {G : Gm} {w : Mw} {h0 : Nat} {n8 : Nat} {v1 : Mv} {x_0 : Int32} {x_1 : Int32} {x_2 : Int32} {x6 : Int32} {v33 : Mv} {x20 : Int32} {x31 : Int32} {x22 : Int32} (a0 : x20 = x_0 >>> (x6 &&& 31)) (a1 : x22 = x20 &&& (1 : Int32)) (a2 : x31 = F_X5_oneLifts G w v1 x6 x_1 x_2) (a3 : v33 = F_X0_put G w v1 h0 x31) (k0 : ¬ ((6 : Int32) ≤ x6)) (k1 : x22 = (1 : Int32)) : K_X0_fillByOneKind_8 G w h0 (n8 + 1) v1 x_0 x_1 x_2 x6 = K_X0_fillByOneKind_36 G w h0 (K_X0_fillByOneKind_8 G w h0 n8) v33 x_0 x_1 x_2 x6 := by
  subst a3; subst a2; subst a1; subst a0; first | rw [K_X0_fillByOneKind_8, if_neg k0, if_pos k1] | simp only [K_X0_fillByOneKind_8, if_neg k0, if_pos k1]
set_option maxRecDepth 100000 in
theorem kx_X0_fillByOneKind_5 {G : Gm} {w : Mw} {v : Mv} {h0 : Nat} {x_0 : Int32} {x_1 : Int32} {x_2 : Int32} {v41 : Mv} (a0 : v41 = stv v h0 1 (0 : Int32))  : K_X0_fillByOneKind_e G w v h0 x_0 x_1 x_2 = K_X0_fillByOneKind_8 G w h0 7 v41 x_0 x_1 x_2 (0 : Int32) := by
  subst a0; first | rw [K_X0_fillByOneKind_e] | simp only [K_X0_fillByOneKind_e]
abbrev rm_X0_fillByOneKind : Room := { frames := 2, cells := 0, slots := 0, locals := 44 }
set_option maxHeartbeats 4000000 in
set_option maxRecDepth 100000 in
theorem ct_X0_fillByOneKind (l : Launch) (D : va_G) (dA : Nat → ClassId) (G : Gm) (v : Mv) (w : Mw) (hOk : Ok G v w) (h0 : Nat) (S0 : S_X0 G h0) (x_0 : Int32) (x_1 : Int32) (x_2 : Int32) (bx_2 : Bd x_2 0 99) : CtV l yX0_fillByOneKind cX0_fillByOneKind 5 none rm_X0_fillByOneKind D dA G [.ref h0, .int x_0, .int x_1, .int x_2] v w (fun v1 w1 => Ok G v1 w1 ∧ Kp G v v1 ∧ (w1 = w ∧ v1 = F_X0_fillByOneKind G w v h0 x_0 x_1 x_2) ∧ Fr G [0, 109] v v1) := by
  refine CtV.of RX0 [(0, .ref h0), (1, .int x_0), (2, .int x_1), (3, .int x_2)] (Nat.le_of_ble_eq_true rfl) rfl (by decide) rfl ?_
  intro p e s m args below meth c E hr
  have J8 : ∀ n8 : Nat, ∀ (v1 : Mv), Ok G v1 w → Kp G v v1 → Fr G [0, 109] v v1 → Bd x_2 0 99 → ∀ x6 : Int32, Bd x6 0 6 → Mu x6 6 n8 → K_X0_fillByOneKind_8 G w h0 n8 v1 x_0 x_1 x_2 x6 = F_X0_fillByOneKind G w v h0 x_0 x_1 x_2 → J p l e rm_X0_fillByOneKind s m args below meth c 0 0 (MQ below (QcV D dA G (fun v1 w1 => Ok G v1 w1 ∧ Kp G v v1 ∧ (w1 = w ∧ v1 = F_X0_fillByOneKind G w v h0 x_0 x_1 x_2) ∧ Fr G [0, 109] v v1)) args s 0 0 (dm G)) D dA G (dm G) s.heap 5 v1 w [(0, .ref h0), (1, .int x_0), (2, .int x_1), (3, .int x_2), (4, .int x6)] 8 [] := by
    intro n8
    induction n8 with
    | zero => intro v1 o2 k3 f4 b5 x6 b7 hm hK; exact hm.zero b7 (by decide)
    | succ n8 ih8 =>
      intro v1 o2 k3 f4 b5 x6 b7 hmu8 hK
      have J36 : ∀ (v8 : Mv), Ok G v8 w → Kp G v v8 → Fr G [0, 109] v v8 → Bd x_2 0 99 → Bd x6 0 5 → K_X0_fillByOneKind_36 G w h0 (K_X0_fillByOneKind_8 G w h0 n8) v8 x_0 x_1 x_2 x6 = F_X0_fillByOneKind G w v h0 x_0 x_1 x_2 → J p l e rm_X0_fillByOneKind s m args below meth c 0 0 (MQ below (QcV D dA G (fun v1 w1 => Ok G v1 w1 ∧ Kp G v v1 ∧ (w1 = w ∧ v1 = F_X0_fillByOneKind G w v h0 x_0 x_1 x_2) ∧ Fr G [0, 109] v v1)) args s 0 0 (dm G)) D dA G (dm G) s.heap 5 v8 w [(0, .ref h0), (1, .int x_0), (2, .int x_1), (3, .int x_2), (4, .int x6)] 36 [] := by
        intro v8 o9 k10 f11 b12 b13 hK
        refine J_iinc E 4 1 (fun z => [(4, .int z), (0, .ref h0), (1, .int x_0), (2, .int x_1), (3, .int x_2)]) dX0_fillByOneKind_36 rfl (by decide) (by decide) (fun _ => rfl) (fun x14 e15 => ?_)
        have b16 : Bd x14 1 6 := (Bd.add e15 b13 (Bd.lit 1 1 (by decide)) (by decide)).w _ _ (by decide)
        refine J_goto E 8 dX0_fillByOneKind_39 (by decide) ?_
        exact J.sub [1, 2, 3, 4, 0] rfl (ih8 v8 (o9) (k10) f11 b12 x14 (b16.w 0 6 (by decide)) (Mu.step hmu8 e15 b13 (Bd.lit 1 1 (by decide)) (by decide)) ((kx_X0_fillByOneKind_1 (e15)).symm.trans hK))
      refine J_iload E dX0_fillByOneKind_8 4 rfl ?_
      refine J_bipush E 6 dX0_fillByOneKind_10 (by decide) ?_
      refine J_icmp_ge E 42 dX0_fillByOneKind_12 (by decide) (fun c17 => ?_) (fun c17 => ?_)
      · have b18 : Bd x6 6 6 := Bd.le_r c17 (Bd.lit 6 6 (by decide)) b7 6 (by decide)
        exact J_vret E hr dX0_fillByOneKind_42 ⟨o2, k3, ⟨⟨rfl, ((kx_X0_fillByOneKind_2 (c17)).symm.trans hK)⟩, f4⟩⟩
      · have b19 : Bd x6 0 5 := Bd.lt_l (nle c17) b7 (Bd.lit 6 6 (by decide)) 5 (by decide)
        refine J_iload_n E dX0_fillByOneKind_15 1 rfl ?_
        refine J_iload E dX0_fillByOneKind_16 4 rfl ?_
        refine J_ishr E dX0_fillByOneKind_18 (fun x20 e21 => ?_)
        refine J_iconst E 1 dX0_fillByOneKind_19 (by decide) ?_
        refine J_iand E dX0_fillByOneKind_20 (fun x22 e23 => ?_)
        have b24 : Bd x22 0 1 := Bd.and_r e23 (Bd.lit 1 1 (by decide)) (by decide)
        refine J_iconst E 1 dX0_fillByOneKind_21 (by decide) ?_
        refine J_icmp_ne E 36 dX0_fillByOneKind_22 (by decide) (fun c25 => ?_) (fun c25 => ?_)
        · have b26 : Bd x22 0 0 := (Bd.ne_hi c25 b24 (Bd.lit 1 1 (by decide))).w _ _ (by decide)
          exact J.sub [0, 1, 2, 3, 4] rfl (J36 v1 (o2) (k3) f4 b5 b19 ((kx_X0_fillByOneKind_3 (e21) (e23) (c17) (c25)).symm.trans hK))
        · have b27 : Bd x22 1 1 := Bd.eq_l c25 b24 (Bd.lit 1 1 (by decide)) 1 1 (by decide)
          refine J_aload_n E dX0_fillByOneKind_25 0 rfl ?_
          refine J_iload E dX0_fillByOneKind_26 4 rfl ?_
          refine J_iload_n E dX0_fillByOneKind_28 2 rfl ?_
          refine J_iload_n E dX0_fillByOneKind_29 3 rfl ?_
          refine J_callSNI E cal_X5_oneLifts wd770 [.int x6, .int x_1, .int x_2] [.ref h0] (ct_X5_oneLifts l D dA G v1 w (o2) x6 x_1 x_2) rfl rfl (Nat.le_of_ble_eq_true rfl) ⟨rfl, rfl⟩ ⟨Nat.le_of_ble_eq_true rfl, Nat.le_of_ble_eq_true rfl⟩ dX0_fillByOneKind_30 (fun x31 v28 w29 p30 => ?_)
          rw [p30.1, p30.2.1]
          have e32 : x31 = F_X5_oneLifts G w v1 x6 x_1 x_2 := (p30.2.2.2)
          refine J_callVV E cal_X0_put wd771 rfl (S_X0.h S0) [.int x31] [] (ct_X0_put l D dA G v1 w (o2) h0 S0 x31) rfl rfl (Nat.le_of_ble_eq_true rfl) ⟨rfl, rfl⟩ ⟨Nat.le_of_ble_eq_true rfl, Nat.le_of_ble_eq_true rfl⟩ dX0_fillByOneKind_33 (fun v33 w34 p35 => ?_)
          have ew9 : w = w34 := p35.2.2.1.1.symm
          subst ew9
          have o37 := p35.1
          have k38 : Kp G v v33 := (k3).tr p35.2.1
          have f39 : Fr G [0, 109] v v33 := Fr.tr f4 (p35.2.2.2) (by decide)
          have e40 : v33 = F_X0_put G w v1 h0 x31 := (p35.2.2.1).2
          exact J.sub [0, 1, 2, 3, 4] rfl (J36 v33 (o37) (k38) f39 b5 b19 ((kx_X0_fillByOneKind_4 (e21) (e23) (e32) (e40) (c17) (c25)).symm.trans hK))
  have hK : K_X0_fillByOneKind_e G w v h0 x_0 x_1 x_2 = F_X0_fillByOneKind G w v h0 x_0 x_1 x_2 := rfl
  refine J_aload_n E dX0_fillByOneKind_0 0 rfl ?_
  refine J_iconst E 0 dX0_fillByOneKind_1 (by decide) ?_
  refine J_pI E in_X0 rfl (S_X0.h S0) 1 (by decide) wd300 tyX0 tyX0_ok nmX0 rfl rfl .int (by decide +kernel) rfl rfl dX0_fillByOneKind_2 (fun v41 e42 => ?_)
  have o43 : Ok G v41 w := Ok.pf hOk e42 (S_X0.h S0) rfl ((Bd.lit 0 0 (by decide)).w 0 9 (by decide))
  have k44 : Kp G v v41 := Kp.pf Kp.rf e42 (S_X0.h S0) rfl
  have f45 : Fr G [0, 109] v v41 := Fr.st Fr.rf e42 (S_X0.h S0) rfl
  have e46 : (0 : Int32) = v41 h0 1 := by rw [e42, stv_s]
  refine J_iconst E 0 dX0_fillByOneKind_5 (by decide) ?_
  refine J_istore E [(4, .int 0), (0, .ref h0), (1, .int x_0), (2, .int x_1), (3, .int x_2)] dX0_fillByOneKind_6 (by decide) rfl ?_
  exact J.sub [1, 2, 3, 4, 0] rfl (J8 7 v41 (o43) (k44) f45 bx_2 0 ((Bd.lit 0 0 (by decide)).w 0 6 (by decide)) (Mu.start _ (Bd.lit 0 0 (by decide)) (by decide)) ((kx_X0_fillByOneKind_5 (e42)).symm.trans hK))

def K_X0_greaterPart_25 (G : Gm) (w : Mw) (h0 : Nat) (rec4 : Mv → Int32 → Int32 → Int32 → Int32) (v : Mv) (x_0 : Int32) (x6 : Int32) (x3 : Int32) : Int32 :=
  rec4 v x_0 x6 (x3 + (1 : Int32))
def K_X0_greaterPart_4 (G : Gm) (w : Mw) (h0 : Nat) : Nat → Mv → Int32 → Int32 → Int32 → Int32
  | 0, _, _, _, _ => (0 : Int32)
  | n4 + 1, v, x_0, x2, x3 =>
    if (v h0 1) ≤ x3 then ((F_J9_max_7cf53 G w v x2 ((v h0 1) - x2))) else (if (v (rf G h0 0) (Int32.toNatClampNeg x3)) < x_0 then (K_X0_greaterPart_25 G w h0 (K_X0_greaterPart_4 G w h0 n4) v x_0 x2 x3) else (K_X0_greaterPart_25 G w h0 (K_X0_greaterPart_4 G w h0 n4) v x_0 (x2 + (1 : Int32)) x3))
def K_X0_greaterPart_e (G : Gm) (w : Mw) (v : Mv) (h0 : Nat) (x_0 : Int32) : Int32 :=
  K_X0_greaterPart_4 G w h0 10 v x_0 (0 : Int32) (0 : Int32)
def F_X0_greaterPart (G : Gm) (w : Mw) (v : Mv) (h0 : Nat) (x_0 : Int32) : Int32 := K_X0_greaterPart_e G w v h0 x_0
set_option maxRecDepth 100000 in
theorem kx_X0_greaterPart_1 {G : Gm} {w : Mw} {h0 : Nat} {rec4 : Mv → Int32 → Int32 → Int32 → Int32} {v : Mv} {x_0 : Int32} {x6 : Int32} {x3 : Int32} {x8 : Int32} (a0 : x8 = x3 + (1 : Int32))  : K_X0_greaterPart_25 G w h0 rec4 v x_0 x6 x3 = rec4 v x_0 x6 x8 := by
  subst a0; first | rw [K_X0_greaterPart_25] | simp only [K_X0_greaterPart_25]
set_option maxRecDepth 100000 in
theorem kx_X0_greaterPart_2 {G : Gm} {w : Mw} {h0 : Nat} {n4 : Nat} {v : Mv} {x_0 : Int32} {x2 : Int32} {x3 : Int32} {x22 : Int32} {x11 : Int32} {x17 : Int32} (a0 : x11 = v h0 1) (a1 : x17 = x11 - x2) (a2 : x22 = F_J9_max_7cf53 G w v x2 x17) (k0 : x11 ≤ x3) : K_X0_greaterPart_4 G w h0 (n4 + 1) v x_0 x2 x3 = x22 := by
  subst a2; subst a1; subst a0; first | rw [K_X0_greaterPart_4, if_pos k0] | simp only [K_X0_greaterPart_4, if_pos k0]
set_option maxRecDepth 100000 in
theorem kx_X0_greaterPart_3 {G : Gm} {w : Mw} {h0 : Nat} {n4 : Nat} {v : Mv} {x_0 : Int32} {x2 : Int32} {x3 : Int32} {x11 : Int32} {x26 : Int32} (a0 : x11 = v h0 1) (a1 : x26 = v (rf G h0 0) (Int32.toNatClampNeg x3)) (k0 : ¬ (x11 ≤ x3)) (k1 : x26 < x_0) : K_X0_greaterPart_4 G w h0 (n4 + 1) v x_0 x2 x3 = K_X0_greaterPart_25 G w h0 (K_X0_greaterPart_4 G w h0 n4) v x_0 x2 x3 := by
  subst a1; subst a0; first | rw [K_X0_greaterPart_4, if_neg k0, if_pos k1] | simp only [K_X0_greaterPart_4, if_neg k0, if_pos k1]
set_option maxRecDepth 100000 in
theorem kx_X0_greaterPart_4 {G : Gm} {w : Mw} {h0 : Nat} {n4 : Nat} {v : Mv} {x_0 : Int32} {x2 : Int32} {x3 : Int32} {x31 : Int32} {x11 : Int32} {x26 : Int32} (a0 : x11 = v h0 1) (a1 : x26 = v (rf G h0 0) (Int32.toNatClampNeg x3)) (a2 : x31 = x2 + (1 : Int32)) (k0 : ¬ (x11 ≤ x3)) (k1 : ¬ (x26 < x_0)) : K_X0_greaterPart_4 G w h0 (n4 + 1) v x_0 x2 x3 = K_X0_greaterPart_25 G w h0 (K_X0_greaterPart_4 G w h0 n4) v x_0 x31 x3 := by
  subst a2; subst a1; subst a0; first | rw [K_X0_greaterPart_4, if_neg k0, if_neg k1] | simp only [K_X0_greaterPart_4, if_neg k0, if_neg k1]
set_option maxRecDepth 100000 in
theorem kx_X0_greaterPart_5 {G : Gm} {w : Mw} {v : Mv} {h0 : Nat} {x_0 : Int32}   : K_X0_greaterPart_e G w v h0 x_0 = K_X0_greaterPart_4 G w h0 10 v x_0 (0 : Int32) (0 : Int32) := by
  first | rw [K_X0_greaterPart_e] | simp only [K_X0_greaterPart_e]
abbrev rm_X0_greaterPart : Room := { frames := 1, cells := 0, slots := 0, locals := 21 }
set_option maxHeartbeats 4000000 in
set_option maxRecDepth 100000 in
theorem ct_X0_greaterPart (l : Launch) (D : va_G) (dA : Nat → ClassId) (G : Gm) (v : Mv) (w : Mw) (hOk : Ok G v w) (h0 : Nat) (S0 : S_X0 G h0) (x_0 : Int32) (bx_0 : Bd x_0 0 60) : CtI l yX0_greaterPart cX0_greaterPart 4 (some .int) rm_X0_greaterPart D dA G [.ref h0, .int x_0] v w (fun r v1 w1 => v1 = v ∧ w1 = w ∧ True ∧ r = F_X0_greaterPart G w v h0 x_0) := by
  refine CtI.of RX0 [(0, .ref h0), (1, .int x_0)] (Nat.le_of_ble_eq_true rfl) rfl (by decide) rfl ?_
  intro p e s m args below meth c E hr
  have J4 : ∀ n4 : Nat, Bd x_0 0 60 → ∀ x2 : Int32, ∀ x3 : Int32, Bd x3 0 9 → Mu x3 9 n4 → K_X0_greaterPart_4 G w h0 n4 v x_0 x2 x3 = F_X0_greaterPart G w v h0 x_0 → J p l e rm_X0_greaterPart s m args below meth c 0 0 (MQ below (QcI D dA G (fun r v1 w1 => v1 = v ∧ w1 = w ∧ True ∧ r = F_X0_greaterPart G w v h0 x_0)) args s 0 0 (dm G)) D dA G (dm G) s.heap 4 v w [(0, .ref h0), (1, .int x_0), (2, .int x2), (3, .int x3)] 4 [] := by
    intro n4
    induction n4 with
    | zero => intro b1 x2 x3 b4 hm hK; exact hm.zero b4 (by decide)
    | succ n4 ih4 =>
      intro b1 x2 x3 b4 hmu4 hK
      have J25 : Bd x_0 0 60 → ∀ x6 : Int32, Bd x3 0 8 → K_X0_greaterPart_25 G w h0 (K_X0_greaterPart_4 G w h0 n4) v x_0 x6 x3 = F_X0_greaterPart G w v h0 x_0 → J p l e rm_X0_greaterPart s m args below meth c 0 0 (MQ below (QcI D dA G (fun r v1 w1 => v1 = v ∧ w1 = w ∧ True ∧ r = F_X0_greaterPart G w v h0 x_0)) args s 0 0 (dm G)) D dA G (dm G) s.heap 4 v w [(0, .ref h0), (1, .int x_0), (2, .int x6), (3, .int x3)] 25 [] := by
        intro b5 x6 b7 hK
        refine J_iinc E 3 1 (fun z => [(3, .int z), (0, .ref h0), (1, .int x_0), (2, .int x6)]) dX0_greaterPart_25 rfl (by decide) (by decide) (fun _ => rfl) (fun x8 e9 => ?_)
        have b10 : Bd x8 1 9 := (Bd.add e9 b7 (Bd.lit 1 1 (by decide)) (by decide)).w _ _ (by decide)
        refine J_goto E 4 dX0_greaterPart_28 (by decide) ?_
        exact J.sub [1, 2, 3, 0] rfl (ih4 b5 x6 x8 (b10.w 0 9 (by decide)) (Mu.step hmu4 e9 b7 (Bd.lit 1 1 (by decide)) (by decide)) ((kx_X0_greaterPart_1 (e9)).symm.trans hK))
      refine J_iload_n E dX0_greaterPart_4 3 rfl ?_
      refine J_aload_n E dX0_greaterPart_5 0 rfl ?_
      refine J_getI E in_X0 rfl (S_X0.h S0) 1 (by decide) wd300 rfl dX0_greaterPart_6 (fun x11 e12 => ?_)
      have b13 : Bd x11 0 9 := Ok.fd hOk e12 (S_X0.h S0) rfl
      refine J_icmp_ge E 31 dX0_greaterPart_9 (by decide) (fun c14 => ?_) (fun c14 => ?_)
      · refine J_iload_n E dX0_greaterPart_31 2 rfl ?_
        refine J_aload_n E dX0_greaterPart_32 0 rfl ?_
        refine J_getI E in_X0 rfl (S_X0.h S0) 1 (by decide) wd300 rfl dX0_greaterPart_33 (fun x15 e16 => ?_)
        rw [show x15 = x11 from e16.trans (e12).symm]
        refine J_iload_n E dX0_greaterPart_36 2 rfl ?_
        refine J_isub E dX0_greaterPart_37 (fun x17 e18 => ?_)
        refine J_callSI E cal_J9_max_7cf53 wd779 [.int x2, .int x17] [] (ct_J9_max_7cf53 l D dA G v w (hOk) x2 x17) rfl rfl (Nat.le_of_ble_eq_true rfl) ⟨rfl, rfl⟩ ⟨Nat.le_of_ble_eq_true rfl, Nat.le_of_ble_eq_true rfl⟩ dX0_greaterPart_38 (fun x22 v19 w20 p21 => ?_)
        rw [p21.1, p21.2.1]
        have e23 : x22 = F_J9_max_7cf53 G w v x2 x17 := (p21.2.2.2)
        exact J_iret E hr dX0_greaterPart_41 ⟨rfl, rfl, trivial, ((kx_X0_greaterPart_2 (e12) (e18) (e23) (c14)).symm.trans hK)⟩
      · have b24 : Bd x3 0 8 := Bd.lt_l (nle c14) b4 b13 8 (by decide)
        have b25 : Bd x11 1 9 := Bd.lt_r (nle c14) b4 b13 1 (by decide)
        refine J_aload_n E dX0_greaterPart_12 0 rfl ?_
        refine J_getR E in_X0 rfl (S_X0.h S0) 0 (by decide) wd299 rfl dX0_greaterPart_13 ?_
        refine J_iload_n E dX0_greaterPart_16 3 rfl ?_
        refine J_iald1 E (S_X0.f0 S0) (Bd.in b24 (by decide)) dX0_greaterPart_17 (fun x26 e27 => ?_)
        refine J_iload_n E dX0_greaterPart_18 1 rfl ?_
        refine J_icmp_lt E 25 dX0_greaterPart_19 (by decide) (fun c28 => ?_) (fun c28 => ?_)
        · have b29 : Bd x26 I0 59 := Bd.lt_l c28 (Bd.any x26) b1 59 (by decide)
          exact J.sub [0, 1, 2, 3] rfl (J25 b1 x2 b24 ((kx_X0_greaterPart_3 (e12) (e27) (c14) (c28)).symm.trans hK))
        · have b30 : Bd x26 0 I1 := Bd.le_r (nlt c28) b1 (Bd.any x26) 0 (by decide)
          refine J_iinc E 2 1 (fun z => [(2, .int z), (0, .ref h0), (1, .int x_0), (3, .int x3)]) dX0_greaterPart_22 rfl (by decide) (by decide) (fun _ => rfl) (fun x31 e32 => ?_)
          exact J.sub [1, 2, 0, 3] rfl (J25 b1 x31 b24 ((kx_X0_greaterPart_4 (e12) (e27) (e32) (c14) (c28)).symm.trans hK))
  have hK : K_X0_greaterPart_e G w v h0 x_0 = F_X0_greaterPart G w v h0 x_0 := rfl
  refine J_iconst E 0 dX0_greaterPart_0 (by decide) ?_
  refine J_istore_n E [(2, .int 0), (0, .ref h0), (1, .int x_0)] dX0_greaterPart_1 rfl (by decide) rfl ?_
  refine J_iconst E 0 dX0_greaterPart_2 (by decide) ?_
  refine J_istore_n E [(3, .int 0), (2, .int 0), (0, .ref h0), (1, .int x_0)] dX0_greaterPart_3 rfl (by decide) rfl ?_
  exact J.sub [2, 3, 1, 0] rfl (J4 10 bx_0 0 0 ((Bd.lit 0 0 (by decide)).w 0 9 (by decide)) (Mu.start _ (Bd.lit 0 0 (by decide)) (by decide)) ((kx_X0_greaterPart_5).symm.trans hK))

def K_X0_mostAlike_45 (G : Gm) (w : Mw) (h0 : Nat) (rec4 : Mv → Int32 → Int32 → Int32) (rec17 : Mv → Int32 → Int32 → Int32 → Int32 → Int32) (v : Mv) (x1 : Int32) (x2 : Int32) (x9 : Int32) (x6 : Int32) : Int32 :=
  rec17 v x1 x2 x9 (x6 + (1 : Int32))
def K_X0_mostAlike_17 (G : Gm) (w : Mw) (h0 : Nat) (rec4 : Mv → Int32 → Int32 → Int32) : Nat → Mv → Int32 → Int32 → Int32 → Int32 → Int32
  | 0, _, _, _, _, _ => (0 : Int32)
  | n17 + 1, v, x1, x2, x5, x6 =>
    if (v h0 1) ≤ x6 then (rec4 v (F_J9_max_7cf53 G w v x1 x5) (x2 + (1 : Int32))) else (if (v (rf G h0 0) (Int32.toNatClampNeg x6)) = (v (rf G h0 0) (Int32.toNatClampNeg x2)) then (K_X0_mostAlike_45 G w h0 rec4 (K_X0_mostAlike_17 G w h0 rec4 n17) v x1 x2 (x5 + (1 : Int32)) x6) else (K_X0_mostAlike_45 G w h0 rec4 (K_X0_mostAlike_17 G w h0 rec4 n17) v x1 x2 x5 x6))
def K_X0_mostAlike_4 (G : Gm) (w : Mw) (h0 : Nat) : Nat → Mv → Int32 → Int32 → Int32
  | 0, _, _, _ => (0 : Int32)
  | n4 + 1, v, x1, x2 =>
    if (v h0 1) ≤ x2 then (x1) else (K_X0_mostAlike_17 G w h0 (K_X0_mostAlike_4 G w h0 n4) 10 v x1 x2 (0 : Int32) (0 : Int32))
def K_X0_mostAlike_e (G : Gm) (w : Mw) (v : Mv) (h0 : Nat) : Int32 :=
  K_X0_mostAlike_4 G w h0 10 v (0 : Int32) (0 : Int32)
def F_X0_mostAlike (G : Gm) (w : Mw) (v : Mv) (h0 : Nat) : Int32 := K_X0_mostAlike_e G w v h0
set_option maxRecDepth 100000 in
theorem kx_X0_mostAlike_1 {G : Gm} {w : Mw} {h0 : Nat} {rec4 : Mv → Int32 → Int32 → Int32} {rec17 : Mv → Int32 → Int32 → Int32 → Int32 → Int32} {v : Mv} {x1 : Int32} {x2 : Int32} {x9 : Int32} {x6 : Int32} {x11 : Int32} (a0 : x11 = x6 + (1 : Int32))  : K_X0_mostAlike_45 G w h0 rec4 rec17 v x1 x2 x9 x6 = rec17 v x1 x2 x9 x11 := by
  subst a0; first | rw [K_X0_mostAlike_45] | simp only [K_X0_mostAlike_45]
set_option maxRecDepth 100000 in
theorem kx_X0_mostAlike_2 {G : Gm} {w : Mw} {h0 : Nat} {rec4 : Mv → Int32 → Int32 → Int32} {n17 : Nat} {v : Mv} {x1 : Int32} {x2 : Int32} {x5 : Int32} {x6 : Int32} {x21 : Int32} {x23 : Int32} {x14 : Int32} (a0 : x14 = v h0 1) (a1 : x21 = F_J9_max_7cf53 G w v x1 x5) (a2 : x23 = x2 + (1 : Int32)) (k0 : x14 ≤ x6) : K_X0_mostAlike_17 G w h0 rec4 (n17 + 1) v x1 x2 x5 x6 = rec4 v x21 x23 := by
  subst a2; subst a1; subst a0; first | rw [K_X0_mostAlike_17, if_pos k0] | simp only [K_X0_mostAlike_17, if_pos k0]
set_option maxRecDepth 100000 in
theorem kx_X0_mostAlike_3 {G : Gm} {w : Mw} {h0 : Nat} {rec4 : Mv → Int32 → Int32 → Int32} {n17 : Nat} {v : Mv} {x1 : Int32} {x2 : Int32} {x5 : Int32} {x6 : Int32} {x14 : Int32} {x28 : Int32} {x30 : Int32} (a0 : x14 = v h0 1) (a1 : x28 = v (rf G h0 0) (Int32.toNatClampNeg x6)) (a2 : x30 = v (rf G h0 0) (Int32.toNatClampNeg x2)) (k0 : ¬ (x14 ≤ x6)) (k1 : ¬ (x28 = x30)) : K_X0_mostAlike_17 G w h0 rec4 (n17 + 1) v x1 x2 x5 x6 = K_X0_mostAlike_45 G w h0 rec4 (K_X0_mostAlike_17 G w h0 rec4 n17) v x1 x2 x5 x6 := by
  subst a2; subst a1; subst a0; first | rw [K_X0_mostAlike_17, if_neg k0, if_neg k1] | simp only [K_X0_mostAlike_17, if_neg k0, if_neg k1]
set_option maxRecDepth 100000 in
theorem kx_X0_mostAlike_4 {G : Gm} {w : Mw} {h0 : Nat} {rec4 : Mv → Int32 → Int32 → Int32} {n17 : Nat} {v : Mv} {x1 : Int32} {x2 : Int32} {x5 : Int32} {x6 : Int32} {x33 : Int32} {x14 : Int32} {x28 : Int32} {x30 : Int32} (a0 : x14 = v h0 1) (a1 : x28 = v (rf G h0 0) (Int32.toNatClampNeg x6)) (a2 : x30 = v (rf G h0 0) (Int32.toNatClampNeg x2)) (a3 : x33 = x5 + (1 : Int32)) (k0 : ¬ (x14 ≤ x6)) (k1 : x28 = x30) : K_X0_mostAlike_17 G w h0 rec4 (n17 + 1) v x1 x2 x5 x6 = K_X0_mostAlike_45 G w h0 rec4 (K_X0_mostAlike_17 G w h0 rec4 n17) v x1 x2 x33 x6 := by
  subst a3; subst a2; subst a1; subst a0; first | rw [K_X0_mostAlike_17, if_neg k0, if_pos k1] | simp only [K_X0_mostAlike_17, if_neg k0, if_pos k1]
set_option maxRecDepth 100000 in
theorem kx_X0_mostAlike_5 {G : Gm} {w : Mw} {h0 : Nat} {n4 : Nat} {v : Mv} {x1 : Int32} {x2 : Int32} {x35 : Int32} (a0 : x35 = v h0 1) (k0 : x35 ≤ x2) : K_X0_mostAlike_4 G w h0 (n4 + 1) v x1 x2 = x1 := by
  subst a0; first | rw [K_X0_mostAlike_4, if_pos k0] | simp only [K_X0_mostAlike_4, if_pos k0]
set_option maxRecDepth 100000 in
theorem kx_X0_mostAlike_6 {G : Gm} {w : Mw} {h0 : Nat} {n4 : Nat} {v : Mv} {x1 : Int32} {x2 : Int32} {x35 : Int32} (a0 : x35 = v h0 1) (k0 : ¬ (x35 ≤ x2)) : K_X0_mostAlike_4 G w h0 (n4 + 1) v x1 x2 = K_X0_mostAlike_17 G w h0 (K_X0_mostAlike_4 G w h0 n4) 10 v x1 x2 (0 : Int32) (0 : Int32) := by
  subst a0; first | rw [K_X0_mostAlike_4, if_neg k0] | simp only [K_X0_mostAlike_4, if_neg k0]
set_option maxRecDepth 100000 in
theorem kx_X0_mostAlike_7 {G : Gm} {w : Mw} {v : Mv} {h0 : Nat}   : K_X0_mostAlike_e G w v h0 = K_X0_mostAlike_4 G w h0 10 v (0 : Int32) (0 : Int32) := by
  first | rw [K_X0_mostAlike_e] | simp only [K_X0_mostAlike_e]
abbrev rm_X0_mostAlike : Room := { frames := 1, cells := 0, slots := 0, locals := 21 }
set_option maxHeartbeats 4000000 in
set_option maxRecDepth 100000 in
theorem ct_X0_mostAlike (l : Launch) (D : va_G) (dA : Nat → ClassId) (G : Gm) (v : Mv) (w : Mw) (hOk : Ok G v w) (h0 : Nat) (S0 : S_X0 G h0) : CtI l yX0_mostAlike cX0_mostAlike 5 (some .int) rm_X0_mostAlike D dA G [.ref h0] v w (fun r v1 w1 => v1 = v ∧ w1 = w ∧ True ∧ r = F_X0_mostAlike G w v h0) := by
  refine CtI.of RX0 [(0, .ref h0)] (Nat.le_of_ble_eq_true rfl) rfl (by decide) rfl ?_
  intro p e s m args below meth c E hr
  have J4 : ∀ n4 : Nat, ∀ x1 : Int32, ∀ x2 : Int32, Bd x2 0 9 → Mu x2 9 n4 → K_X0_mostAlike_4 G w h0 n4 v x1 x2 = F_X0_mostAlike G w v h0 → J p l e rm_X0_mostAlike s m args below meth c 0 0 (MQ below (QcI D dA G (fun r v1 w1 => v1 = v ∧ w1 = w ∧ True ∧ r = F_X0_mostAlike G w v h0)) args s 0 0 (dm G)) D dA G (dm G) s.heap 5 v w [(0, .ref h0), (1, .int x1), (2, .int x2)] 4 [] := by
    intro n4
    induction n4 with
    | zero => intro x1 x2 b3 hm hK; exact hm.zero b3 (by decide)
    | succ n4 ih4 =>
      intro x1 x2 b3 hmu4 hK
      have J17 : ∀ n17 : Nat, Bd x2 0 8 → ∀ x5 : Int32, ∀ x6 : Int32, Bd x6 0 9 → Mu x6 9 n17 → K_X0_mostAlike_17 G w h0 (K_X0_mostAlike_4 G w h0 n4) n17 v x1 x2 x5 x6 = F_X0_mostAlike G w v h0 → J p l e rm_X0_mostAlike s m args below meth c 0 0 (MQ below (QcI D dA G (fun r v1 w1 => v1 = v ∧ w1 = w ∧ True ∧ r = F_X0_mostAlike G w v h0)) args s 0 0 (dm G)) D dA G (dm G) s.heap 5 v w [(0, .ref h0), (1, .int x1), (2, .int x2), (3, .int x5), (4, .int x6)] 17 [] := by
        intro n17
        induction n17 with
        | zero => intro b4 x5 x6 b7 hm hK; exact hm.zero b7 (by decide)
        | succ n17 ih17 =>
          intro b4 x5 x6 b7 hmu17 hK
          have J45 : Bd x2 0 8 → ∀ x9 : Int32, Bd x6 0 8 → K_X0_mostAlike_45 G w h0 (K_X0_mostAlike_4 G w h0 n4) (K_X0_mostAlike_17 G w h0 (K_X0_mostAlike_4 G w h0 n4) n17) v x1 x2 x9 x6 = F_X0_mostAlike G w v h0 → J p l e rm_X0_mostAlike s m args below meth c 0 0 (MQ below (QcI D dA G (fun r v1 w1 => v1 = v ∧ w1 = w ∧ True ∧ r = F_X0_mostAlike G w v h0)) args s 0 0 (dm G)) D dA G (dm G) s.heap 5 v w [(0, .ref h0), (1, .int x1), (2, .int x2), (3, .int x9), (4, .int x6)] 45 [] := by
            intro b8 x9 b10 hK
            refine J_iinc E 4 1 (fun z => [(4, .int z), (0, .ref h0), (1, .int x1), (2, .int x2), (3, .int x9)]) dX0_mostAlike_45 rfl (by decide) (by decide) (fun _ => rfl) (fun x11 e12 => ?_)
            have b13 : Bd x11 1 9 := (Bd.add e12 b10 (Bd.lit 1 1 (by decide)) (by decide)).w _ _ (by decide)
            refine J_goto E 17 dX0_mostAlike_48 (by decide) ?_
            exact J.sub [1, 2, 3, 4, 0] rfl (ih17 b8 x9 x11 (b13.w 0 9 (by decide)) (Mu.step hmu17 e12 b10 (Bd.lit 1 1 (by decide)) (by decide)) ((kx_X0_mostAlike_1 (e12)).symm.trans hK))
          refine J_iload E dX0_mostAlike_17 4 rfl ?_
          refine J_aload_n E dX0_mostAlike_19 0 rfl ?_
          refine J_getI E in_X0 rfl (S_X0.h S0) 1 (by decide) wd300 rfl dX0_mostAlike_20 (fun x14 e15 => ?_)
          have b16 : Bd x14 0 9 := Ok.fd hOk e15 (S_X0.h S0) rfl
          refine J_icmp_ge E 51 dX0_mostAlike_23 (by decide) (fun c17 => ?_) (fun c17 => ?_)
          · refine J_iload_n E dX0_mostAlike_51 1 rfl ?_
            refine J_iload_n E dX0_mostAlike_52 3 rfl ?_
            refine J_callSI E cal_J9_max_7cf53 wd779 [.int x1, .int x5] [] (ct_J9_max_7cf53 l D dA G v w (hOk) x1 x5) rfl rfl (Nat.le_of_ble_eq_true rfl) ⟨rfl, rfl⟩ ⟨Nat.le_of_ble_eq_true rfl, Nat.le_of_ble_eq_true rfl⟩ dX0_mostAlike_53 (fun x21 v18 w19 p20 => ?_)
            rw [p20.1, p20.2.1]
            have e22 : x21 = F_J9_max_7cf53 G w v x1 x5 := (p20.2.2.2)
            refine J_istore_n E [(1, .int x21), (0, .ref h0), (2, .int x2), (3, .int x5), (4, .int x6)] dX0_mostAlike_56 rfl (by decide) rfl ?_
            refine J_iinc E 2 1 (fun z => [(2, .int z), (1, .int x21), (0, .ref h0), (3, .int x5), (4, .int x6)]) dX0_mostAlike_57 rfl (by decide) (by decide) (fun _ => rfl) (fun x23 e24 => ?_)
            have b25 : Bd x23 1 9 := (Bd.add e24 b4 (Bd.lit 1 1 (by decide)) (by decide)).w _ _ (by decide)
            refine J_goto E 4 dX0_mostAlike_60 (by decide) ?_
            exact J.sub [2, 1, 0] rfl (ih4 x21 x23 (b25.w 0 9 (by decide)) (Mu.step hmu4 e24 b4 (Bd.lit 1 1 (by decide)) (by decide)) ((kx_X0_mostAlike_2 (e15) (e22) (e24) (c17)).symm.trans hK))
          · have b26 : Bd x6 0 8 := Bd.lt_l (nle c17) b7 b16 8 (by decide)
            have b27 : Bd x14 1 9 := Bd.lt_r (nle c17) b7 b16 1 (by decide)
            refine J_aload_n E dX0_mostAlike_26 0 rfl ?_
            refine J_getR E in_X0 rfl (S_X0.h S0) 0 (by decide) wd299 rfl dX0_mostAlike_27 ?_
            refine J_iload E dX0_mostAlike_30 4 rfl ?_
            refine J_iald1 E (S_X0.f0 S0) (Bd.in b26 (by decide)) dX0_mostAlike_32 (fun x28 e29 => ?_)
            refine J_aload_n E dX0_mostAlike_33 0 rfl ?_
            refine J_getR E in_X0 rfl (S_X0.h S0) 0 (by decide) wd299 rfl dX0_mostAlike_34 ?_
            refine J_iload_n E dX0_mostAlike_37 2 rfl ?_
            refine J_iald1 E (S_X0.f0 S0) (Bd.in b4 (by decide)) dX0_mostAlike_38 (fun x30 e31 => ?_)
            refine J_icmp_ne E 45 dX0_mostAlike_39 (by decide) (fun c32 => ?_) (fun c32 => ?_)
            · exact J.sub [0, 1, 2, 3, 4] rfl (J45 b4 x5 b26 ((kx_X0_mostAlike_3 (e15) (e29) (e31) (c17) (c32)).symm.trans hK))
            · refine J_iinc E 3 1 (fun z => [(3, .int z), (0, .ref h0), (1, .int x1), (2, .int x2), (4, .int x6)]) dX0_mostAlike_42 rfl (by decide) (by decide) (fun _ => rfl) (fun x33 e34 => ?_)
              exact J.sub [1, 2, 3, 0, 4] rfl (J45 b4 x33 b26 ((kx_X0_mostAlike_4 (e15) (e29) (e31) (e34) (c17) (c32)).symm.trans hK))
      refine J_iload_n E dX0_mostAlike_4 2 rfl ?_
      refine J_aload_n E dX0_mostAlike_5 0 rfl ?_
      refine J_getI E in_X0 rfl (S_X0.h S0) 1 (by decide) wd300 rfl dX0_mostAlike_6 (fun x35 e36 => ?_)
      have b37 : Bd x35 0 9 := Ok.fd hOk e36 (S_X0.h S0) rfl
      refine J_icmp_ge E 63 dX0_mostAlike_9 (by decide) (fun c38 => ?_) (fun c38 => ?_)
      · refine J_iload_n E dX0_mostAlike_63 1 rfl ?_
        exact J_iret E hr dX0_mostAlike_64 ⟨rfl, rfl, trivial, ((kx_X0_mostAlike_5 (e36) (c38)).symm.trans hK)⟩
      · have b39 : Bd x2 0 8 := Bd.lt_l (nle c38) b3 b37 8 (by decide)
        have b40 : Bd x35 1 9 := Bd.lt_r (nle c38) b3 b37 1 (by decide)
        refine J_iconst E 0 dX0_mostAlike_12 (by decide) ?_
        refine J_istore_n E [(3, .int 0), (0, .ref h0), (1, .int x1), (2, .int x2)] dX0_mostAlike_13 rfl (by decide) rfl ?_
        refine J_iconst E 0 dX0_mostAlike_14 (by decide) ?_
        refine J_istore E [(4, .int 0), (3, .int 0), (0, .ref h0), (1, .int x1), (2, .int x2)] dX0_mostAlike_15 (by decide) rfl ?_
        exact J.sub [2, 3, 4, 1, 0] rfl (J17 10 b39 0 0 ((Bd.lit 0 0 (by decide)).w 0 9 (by decide)) (Mu.start _ (Bd.lit 0 0 (by decide)) (by decide)) ((kx_X0_mostAlike_6 (e36) (c38)).symm.trans hK))
  have hK : K_X0_mostAlike_e G w v h0 = F_X0_mostAlike G w v h0 := rfl
  refine J_iconst E 0 dX0_mostAlike_0 (by decide) ?_
  refine J_istore_n E [(1, .int 0), (0, .ref h0)] dX0_mostAlike_1 rfl (by decide) rfl ?_
  refine J_iconst E 0 dX0_mostAlike_2 (by decide) ?_
  refine J_istore_n E [(2, .int 0), (1, .int 0), (0, .ref h0)] dX0_mostAlike_3 rfl (by decide) rfl ?_
  exact J.sub [2, 1, 0] rfl (J4 10 0 0 ((Bd.lit 0 0 (by decide)).w 0 9 (by decide)) (Mu.start _ (Bd.lit 0 0 (by decide)) (by decide)) ((kx_X0_mostAlike_7).symm.trans hK))

def K_X2_isHere_e (G : Gm) (w : Mw) (v : Mv) (h0 : Nat) (x_0 : Int32) : Int32 :=
  if (((v h0 2) >>> (x_0 &&& 31)) &&& (1 : Int32)) = (1 : Int32) then ((1 : Int32)) else ((0 : Int32))
def F_X2_isHere (G : Gm) (w : Mw) (v : Mv) (h0 : Nat) (x_0 : Int32) : Int32 := K_X2_isHere_e G w v h0 x_0
set_option maxRecDepth 100000 in
theorem kx_X2_isHere_1 {G : Gm} {w : Mw} {v : Mv} {h0 : Nat} {x_0 : Int32} {x1 : Int32} {x3 : Int32} {x5 : Int32} (a0 : x1 = v h0 2) (a1 : x3 = x1 >>> (x_0 &&& 31)) (a2 : x5 = x3 &&& (1 : Int32)) (k0 : ¬ (x5 = (1 : Int32))) : K_X2_isHere_e G w v h0 x_0 = (0 : Int32) := by
  subst a2; subst a1; subst a0; first | rw [K_X2_isHere_e, if_neg k0] | simp only [K_X2_isHere_e, if_neg k0]
set_option maxRecDepth 100000 in
theorem kx_X2_isHere_2 {G : Gm} {w : Mw} {v : Mv} {h0 : Nat} {x_0 : Int32} {x1 : Int32} {x3 : Int32} {x5 : Int32} (a0 : x1 = v h0 2) (a1 : x3 = x1 >>> (x_0 &&& 31)) (a2 : x5 = x3 &&& (1 : Int32)) (k0 : x5 = (1 : Int32)) : K_X2_isHere_e G w v h0 x_0 = (1 : Int32) := by
  subst a2; subst a1; subst a0; first | rw [K_X2_isHere_e, if_pos k0] | simp only [K_X2_isHere_e, if_pos k0]
abbrev rm_X2_isHere : Room := { frames := 0, cells := 0, slots := 0, locals := 0 }
set_option maxHeartbeats 4000000 in
set_option maxRecDepth 100000 in
theorem ct_X2_isHere (l : Launch) (D : va_G) (dA : Nat → ClassId) (G : Gm) (v : Mv) (w : Mw) (hOk : Ok G v w) (h0 : Nat) (S0 : S_X2 G h0) (x_0 : Int32) (bx_0 : Bd x_0 0 6) : CtI l yX2_isHere cX2_isHere 2 (some .boolean) rm_X2_isHere D dA G [.ref h0, .int x_0] v w (fun r v1 w1 => v1 = v ∧ w1 = w ∧ Bd r 0 1 ∧ r = F_X2_isHere G w v h0 x_0) := by
  refine CtI.of RX2 [(0, .ref h0), (1, .int x_0)] (Nat.le_of_ble_eq_true rfl) rfl (by decide) rfl ?_
  intro p e s m args below meth c E hr
  have hK : K_X2_isHere_e G w v h0 x_0 = F_X2_isHere G w v h0 x_0 := rfl
  refine J_aload_n E dX2_isHere_0 0 rfl ?_
  refine J_getI E in_X2 rfl (S_X2.h S0) 2 (by decide) wd157 rfl dX2_isHere_1 (fun x1 e2 => ?_)
  refine J_iload_n E dX2_isHere_4 1 rfl ?_
  refine J_ishr E dX2_isHere_5 (fun x3 e4 => ?_)
  refine J_iconst E 1 dX2_isHere_6 (by decide) ?_
  refine J_iand E dX2_isHere_7 (fun x5 e6 => ?_)
  have b7 : Bd x5 0 1 := Bd.and_r e6 (Bd.lit 1 1 (by decide)) (by decide)
  refine J_iconst E 1 dX2_isHere_8 (by decide) ?_
  refine J_icmp_ne E 16 dX2_isHere_9 (by decide) (fun c8 => ?_) (fun c8 => ?_)
  · have b9 : Bd x5 0 0 := (Bd.ne_hi c8 b7 (Bd.lit 1 1 (by decide))).w _ _ (by decide)
    refine J_iconst E 0 dX2_isHere_16 (by decide) ?_
    exact J_zret E hr (Bd.z (Bd.lit 0 0 (by decide)) (by decide)) dX2_isHere_17 ⟨rfl, rfl, ((Bd.lit 0 0 (by decide)).w 0 1 (by decide)), ((kx_X2_isHere_1 (e2) (e4) (e6) (c8)).symm.trans hK)⟩
  · have b10 : Bd x5 1 1 := Bd.eq_l c8 b7 (Bd.lit 1 1 (by decide)) 1 1 (by decide)
    refine J_iconst E 1 dX2_isHere_12 (by decide) ?_
    refine J_goto E 17 dX2_isHere_13 (by decide) ?_
    exact J_zret E hr (Bd.z (Bd.lit 1 1 (by decide)) (by decide)) dX2_isHere_17 ⟨rfl, rfl, ((Bd.lit 1 1 (by decide)).w 0 1 (by decide)), ((kx_X2_isHere_2 (e2) (e4) (e6) (c8)).symm.trans hK)⟩

abbrev rm_X6_weightOf : Room := { frames := 2, cells := 0, slots := 0, locals := 43 }
set_option maxHeartbeats 4000000 in
set_option maxRecDepth 100000 in
theorem ct_X6_weightOf (l : Launch) (D : va_G) (dA : Nat → ClassId) (G : Gm) (v : Mv) (w : Mw) (hOk : Ok G v w) (h0 : Nat) (S0 : S_X6 G h0) (x_0 : Int32) (bx_0 : Bd x_0 0 6) (x_1 : Int32) (bx_1 : Bd x_1 0 60) : CtI l yX6_weightOf cX6_weightOf 3 (some .int) rm_X6_weightOf D dA G [.ref h0, .int x_0, .int x_1] v w (fun r v1 w1 => v1 = v ∧ w1 = w ∧ True ∧ True) := by
  refine CtI.of RX6 [(0, .ref h0), (1, .int x_0), (2, .int x_1)] (Nat.le_of_ble_eq_true rfl) rfl (by decide) rfl ?_
  intro p e s m args below meth c E hr
  refine J_aload_n E dX6_weightOf_0 0 rfl ?_
  refine J_getR E in_X6 rfl (S_X6.h S0) 1 (by decide) wd195 rfl dX6_weightOf_1 ?_
  refine J_iload_n E dX6_weightOf_4 1 rfl ?_
  refine J_iald1 E (S_X6.f1 S0) (Bd.in bx_0 (by decide)) dX6_weightOf_5 (fun x1 e2 => ?_)
  refine J_aload_n E dX6_weightOf_6 0 rfl ?_
  refine J_getR E in_X6 rfl (S_X6.h S0) 2 (by decide) wd197 rfl dX6_weightOf_7 ?_
  refine J_iload_n E dX6_weightOf_10 1 rfl ?_
  refine J_iald1 E (S_X6.f2 S0) (Bd.in bx_0 (by decide)) dX6_weightOf_11 (fun x3 e4 => ?_)
  refine J_aload_n E dX6_weightOf_12 0 rfl ?_
  refine J_getR E in_X6 rfl (S_X6.h S0) 6 (by decide) wd207 rfl dX6_weightOf_13 ?_
  refine J_getIN E in_X2 rfl (S_X2.h (S_X6.f6 S0)) 3 (by decide) wd159 rfl dX6_weightOf_16 (fun x5 e6 => ?_)
  refine J_iload_n E dX6_weightOf_19 2 rfl ?_
  refine J_iadd E dX6_weightOf_20 (fun x7 e8 => ?_)
  refine J_callSNI E cal_X5_thingWeighs wd530 [.int x1, .int x3, .int x7] [] (ct_X5_thingWeighs l D dA G v w (hOk) x1 x3 x7) rfl rfl (Nat.le_of_ble_eq_true rfl) ⟨rfl, rfl⟩ ⟨Nat.le_of_ble_eq_true rfl, Nat.le_of_ble_eq_true rfl⟩ dX6_weightOf_21 (fun x12 v9 w10 p11 => ?_)
  rw [p11.1, p11.2.1]
  exact J_iret E hr dX6_weightOf_24 ⟨rfl, rfl, trivial, trivial⟩

abbrev rm_X6_liftOf : Room := { frames := 2, cells := 0, slots := 0, locals := 44 }
set_option maxHeartbeats 4000000 in
set_option maxRecDepth 100000 in
theorem ct_X6_liftOf (l : Launch) (D : va_G) (dA : Nat → ClassId) (G : Gm) (v : Mv) (w : Mw) (hOk : Ok G v w) (h0 : Nat) (S0 : S_X6 G h0) (x_0 : Int32) (bx_0 : Bd x_0 0 6) (x_1 : Int32) (bx_1 : Bd x_1 0 60) : CtI l yX6_liftOf cX6_liftOf 4 (some .int) rm_X6_liftOf D dA G [.ref h0, .int x_0, .int x_1] v w (fun r v1 w1 => v1 = v ∧ w1 = w ∧ True ∧ True) := by
  refine CtI.of RX6 [(0, .ref h0), (1, .int x_0), (2, .int x_1)] (Nat.le_of_ble_eq_true rfl) rfl (by decide) rfl ?_
  intro p e s m args below meth c E hr
  have J39 : Bd x_0 0 6 → ∀ x2 : Int32, J p l e rm_X6_liftOf s m args below meth c 0 0 (MQ below (QcI D dA G (fun r v1 w1 => v1 = v ∧ w1 = w ∧ True ∧ True)) args s 0 0 (dm G)) D dA G (dm G) s.heap 4 v w [(0, .ref h0), (1, .int x_0)] 39 [.int x2] := by
    intro b1 x2
    refine J_istore_n E [(3, .int x2), (0, .ref h0), (1, .int x_0)] dX6_liftOf_39 rfl (by decide) rfl ?_
    refine J_aload_n E dX6_liftOf_40 1 rfl ?_
    refine J_getR E in_X6 rfl (S_X6.h S0) 4 (by decide) wd203 rfl dX6_liftOf_41 ?_
    refine J_iload_n E dX6_liftOf_44 2 rfl ?_
    refine J_iald1 E (S_X6.f4 S0) (Bd.in b1 (by decide)) dX6_liftOf_45 (fun x3 e4 => ?_)
    refine J_aload_n E dX6_liftOf_46 1 rfl ?_
    refine J_getR E in_X6 rfl (S_X6.h S0) 5 (by decide) wd205 rfl dX6_liftOf_47 ?_
    refine J_iload_n E dX6_liftOf_50 2 rfl ?_
    refine J_iald1 E (S_X6.f5 S0) (Bd.in b1 (by decide)) dX6_liftOf_51 (fun x5 e6 => ?_)
    refine J_iload_n E dX6_liftOf_52 0 rfl ?_
    refine J_callSNI E cal_X5_oneLifts wd542 [.int x3, .int x5, .int x2] [] (ct_X5_oneLifts l D dA G v w (hOk) x3 x5 x2) rfl rfl (Nat.le_of_ble_eq_true rfl) ⟨rfl, rfl⟩ ⟨Nat.le_of_ble_eq_true rfl, Nat.le_of_ble_eq_true rfl⟩ dX6_liftOf_53 (fun x10 v7 w8 p9 => ?_)
    rw [p9.1, p9.2.1]
    exact J_iret E hr dX6_liftOf_56 ⟨rfl, rfl, trivial, trivial⟩
  refine J_aload_n E dX6_liftOf_0 0 rfl ?_
  refine J_getR E in_X6 rfl (S_X6.h S0) 6 (by decide) wd207 rfl dX6_liftOf_1 ?_
  refine J_iload_n E dX6_liftOf_4 1 rfl ?_
  refine J_callVNI E cal_X2_isHere wd496 rfl (S_X2.h (S_X6.f6 S0)) [.int x_0] [] (ct_X2_isHere l D dA G v w (hOk) (rf G h0 6) (S_X6.f6 S0) x_0 bx_0) rfl rfl (Nat.le_of_ble_eq_true rfl) ⟨rfl, rfl⟩ ⟨Nat.le_of_ble_eq_true rfl, Nat.le_of_ble_eq_true rfl⟩ dX6_liftOf_5 (fun x14 v11 w12 p13 => ?_)
  rw [p13.1, p13.2.1]
  have b15 : Bd x14 0 1 := p13.2.2.1
  refine J_if_eq E 30 dX6_liftOf_8 (by decide) (fun c16 => ?_) (fun c16 => ?_)
  · have b17 : Bd x14 0 0 := Bd.eq_l c16 b15 (Bd.lit 0 0 (by decide)) 0 0 (by decide)
    refine J_aload_n E dX6_liftOf_30 0 rfl ?_
    refine J_getR E in_X6 rfl (S_X6.h S0) 6 (by decide) wd207 rfl dX6_liftOf_31 ?_
    refine J_getRN E in_X2 rfl (S_X2.h (S_X6.f6 S0)) 0 (by decide) wd151 rfl dX6_liftOf_34 ?_
    refine J_iload_n E dX6_liftOf_37 1 rfl ?_
    refine J_iald1 E (S_X2.f0 (S_X6.f6 S0)) (Bd.in bx_0 (by decide)) dX6_liftOf_38 (fun x18 e19 => ?_)
    exact J.sub [0, 1] rfl (J39 bx_0 x18)
  · have b20 : Bd x14 1 1 := (Bd.ne_lo c16 b15 (Bd.lit 0 0 (by decide))).w _ _ (by decide)
    refine J_bipush E 99 dX6_liftOf_11 (by decide) ?_
    refine J_aload_n E dX6_liftOf_13 0 rfl ?_
    refine J_getR E in_X6 rfl (S_X6.h S0) 6 (by decide) wd207 rfl dX6_liftOf_14 ?_
    refine J_getRN E in_X2 rfl (S_X2.h (S_X6.f6 S0)) 0 (by decide) wd151 rfl dX6_liftOf_17 ?_
    refine J_iload_n E dX6_liftOf_20 1 rfl ?_
    refine J_iald1 E (S_X2.f0 (S_X6.f6 S0)) (Bd.in bx_0 (by decide)) dX6_liftOf_21 (fun x21 e22 => ?_)
    refine J_iload_n E dX6_liftOf_22 2 rfl ?_
    refine J_iadd E dX6_liftOf_23 (fun x23 e24 => ?_)
    refine J_callSI E cal_J9_min_7cf53 wd611 [.int 99, .int x23] [] (ct_J9_min_7cf53 l D dA G v w (hOk) 99 x23) rfl rfl (Nat.le_of_ble_eq_true rfl) ⟨rfl, rfl⟩ ⟨Nat.le_of_ble_eq_true rfl, Nat.le_of_ble_eq_true rfl⟩ dX6_liftOf_24 (fun x28 v25 w26 p27 => ?_)
    rw [p27.1, p27.2.1]
    refine J_goto E 39 dX6_liftOf_27 (by decide) ?_
    exact J.sub [0, 1] rfl (J39 bx_0 x28)

abbrev rm_X6_holdsFor : Room := { frames := 3, cells := 0, slots := 0, locals := 67 }
set_option maxHeartbeats 4000000 in
set_option maxRecDepth 100000 in
theorem ct_X6_holdsFor (l : Launch) (D : va_G) (dA : Nat → ClassId) (G : Gm) (v : Mv) (w : Mw) (hOk : Ok G v w) (h0 : Nat) (S0 : S_X6 G h0) (x_0 : Int32) (bx_0 : Bd x_0 0 6) (x_1 : Int32) (bx_1 : Bd x_1 0 6) (x_2 : Int32) (bx_2 : Bd x_2 1 60) : CtI l yX6_holdsFor cX6_holdsFor 5 (some .int) rm_X6_holdsFor D dA G [.ref h0, .int x_0, .int x_1, .int x_2] v w (fun r v1 w1 => v1 = v ∧ w1 = w ∧ Bd r 0 60 ∧ True) := by
  refine CtI.of RX6 [(0, .ref h0), (1, .int x_0), (2, .int x_1), (3, .int x_2)] (Nat.le_of_ble_eq_true rfl) rfl (by decide) rfl ?_
  intro p e s m args below meth c E hr
  have J3 : ∀ n3 : Nat, Bd x_0 0 6 → Bd x_1 0 6 → Bd x_2 1 60 → ∀ x4 : Int32, Bd x4 0 60 → Mu x4 60 n3 → J p l e rm_X6_holdsFor s m args below meth c 0 0 (MQ below (QcI D dA G (fun r v1 w1 => v1 = v ∧ w1 = w ∧ Bd r 0 60 ∧ True)) args s 0 0 (dm G)) D dA G (dm G) s.heap 5 v w [(0, .ref h0), (1, .int x_0), (2, .int x_1), (3, .int x_2), (4, .int x4)] 3 [] := by
    intro n3
    induction n3 with
    | zero => intro b1 b2 b3 x4 b5 hm; exact hm.zero b5 (by decide)
    | succ n3 ih3 =>
      intro b1 b2 b3 x4 b5 hmu3
      refine J_iload E dX6_holdsFor_3 4 rfl ?_
      refine J_iload_n E dX6_holdsFor_5 3 rfl ?_
      refine J_icmp_ge E 35 dX6_holdsFor_6 (by decide) (fun c6 => ?_) (fun c6 => ?_)
      · have b7 : Bd x4 1 60 := Bd.le_r c6 b3 b5 1 (by decide)
        refine J_iload_n E dX6_holdsFor_35 3 rfl ?_
        exact J_iret E hr dX6_holdsFor_36 ⟨rfl, rfl, (b3.w 0 60 (by decide)), trivial⟩
      · have b8 : Bd x4 0 59 := Bd.lt_l (nle c6) b5 b3 59 (by decide)
        refine J_aload_n E dX6_holdsFor_9 0 rfl ?_
        refine J_iload_n E dX6_holdsFor_10 1 rfl ?_
        refine J_iload E dX6_holdsFor_11 4 rfl ?_
        refine J_callVI E cal_X6_weightOf wd603 rfl (S_X6.h S0) [.int x_0, .int x4] [] (ct_X6_weightOf l D dA G v w (hOk) h0 S0 x_0 b1 x4 (b8.w 0 60 (by decide))) rfl rfl (Nat.le_of_ble_eq_true rfl) ⟨rfl, rfl⟩ ⟨Nat.le_of_ble_eq_true rfl, Nat.le_of_ble_eq_true rfl⟩ dX6_holdsFor_13 (fun x12 v9 w10 p11 => ?_)
        rw [p11.1, p11.2.1]
        refine J_aload_n E dX6_holdsFor_16 0 rfl ?_
        refine J_iload_n E dX6_holdsFor_17 2 rfl ?_
        refine J_iload E dX6_holdsFor_18 4 rfl ?_
        refine J_callVI E cal_X6_liftOf wd607 rfl (S_X6.h S0) [.int x_1, .int x4] [.int x12] (ct_X6_liftOf l D dA G v w (hOk) h0 S0 x_1 b2 x4 (b8.w 0 60 (by decide))) rfl rfl (Nat.le_of_ble_eq_true rfl) ⟨rfl, rfl⟩ ⟨Nat.le_of_ble_eq_true rfl, Nat.le_of_ble_eq_true rfl⟩ dX6_holdsFor_20 (fun x16 v13 w14 p15 => ?_)
        rw [p15.1, p15.2.1]
        refine J_icmp_gt E 29 dX6_holdsFor_23 (by decide) (fun c17 => ?_) (fun c17 => ?_)
        · refine J_iinc E 4 1 (fun z => [(4, .int z), (0, .ref h0), (1, .int x_0), (2, .int x_1), (3, .int x_2)]) dX6_holdsFor_29 rfl (by decide) (by decide) (fun _ => rfl) (fun x18 e19 => ?_)
          have b20 : Bd x18 1 60 := (Bd.add e19 b8 (Bd.lit 1 1 (by decide)) (by decide)).w _ _ (by decide)
          refine J_goto E 3 dX6_holdsFor_32 (by decide) ?_
          exact J.sub [1, 2, 3, 4, 0] rfl (ih3 b1 b2 b3 x18 (b20.w 0 60 (by decide)) (Mu.step hmu3 e19 b8 (Bd.lit 1 1 (by decide)) (by decide)))
        · refine J_iload E dX6_holdsFor_26 4 rfl ?_
          exact J_iret E hr dX6_holdsFor_28 ⟨rfl, rfl, (b8.w 0 60 (by decide)), trivial⟩
  refine J_iconst E 0 dX6_holdsFor_0 (by decide) ?_
  refine J_istore E [(4, .int 0), (0, .ref h0), (1, .int x_0), (2, .int x_1), (3, .int x_2)] dX6_holdsFor_1 (by decide) rfl ?_
  exact J.sub [1, 2, 3, 4, 0] rfl (J3 61 bx_0 bx_1 bx_2 0 ((Bd.lit 0 0 (by decide)).w 0 60 (by decide)) (Mu.start _ (Bd.lit 0 0 (by decide)) (by decide)))

abbrev rm_X6_thingsHolding : Room := { frames := 4, cells := 0, slots := 0, locals := 91 }
set_option maxHeartbeats 4000000 in
set_option maxRecDepth 100000 in
theorem ct_X6_thingsHolding (l : Launch) (D : va_G) (dA : Nat → ClassId) (G : Gm) (v : Mv) (w : Mw) (hOk : Ok G v w) (h0 : Nat) (S0 : S_X6 G h0) (x_0 : Int32) (bx_0 : Bd x_0 0 6) (x_1 : Int32) (bx_1 : Bd x_1 1 60) : CtI l yX6_thingsHolding cX6_thingsHolding 5 (some .int) rm_X6_thingsHolding D dA G [.ref h0, .int x_0, .int x_1] v w (fun r v1 w1 => v1 = v ∧ w1 = w ∧ Bd r 0 127 ∧ True) := by
  refine CtI.of RX6 [(0, .ref h0), (1, .int x_0), (2, .int x_1)] (Nat.le_of_ble_eq_true rfl) rfl (by decide) rfl ?_
  intro p e s m args below meth c E hr
  have J16 : ∀ n16 : Nat, Bd x_0 0 6 → Bd x_1 1 60 → ∀ x3 : Int32, Bd x3 0 127 → ∀ x5 : Int32, Bd x5 0 7 → Mu x5 7 n16 → J p l e rm_X6_thingsHolding s m args below meth c 0 0 (MQ below (QcI D dA G (fun r v1 w1 => v1 = v ∧ w1 = w ∧ Bd r 0 127 ∧ True)) args s 0 0 (dm G)) D dA G (dm G) s.heap 5 v w [(0, .ref h0), (1, .int x_0), (2, .int x_1), (3, .int x3), (4, .int x5)] 16 [] := by
    intro n16
    induction n16 with
    | zero => intro b1 b2 x3 b4 x5 b6 hm; exact hm.zero b6 (by decide)
    | succ n16 ih16 =>
      intro b1 b2 x3 b4 x5 b6 hmu16
      have J44 : Bd x_0 0 6 → Bd x_1 1 60 → ∀ x9 : Int32, Bd x9 0 127 → Bd x5 0 6 → J p l e rm_X6_thingsHolding s m args below meth c 0 0 (MQ below (QcI D dA G (fun r v1 w1 => v1 = v ∧ w1 = w ∧ Bd r 0 127 ∧ True)) args s 0 0 (dm G)) D dA G (dm G) s.heap 5 v w [(0, .ref h0), (1, .int x_0), (2, .int x_1), (3, .int x9), (4, .int x5)] 44 [] := by
        intro b7 b8 x9 b10 b11
        refine J_iinc E 4 1 (fun z => [(4, .int z), (0, .ref h0), (1, .int x_0), (2, .int x_1), (3, .int x9)]) dX6_thingsHolding_44 rfl (by decide) (by decide) (fun _ => rfl) (fun x12 e13 => ?_)
        have b14 : Bd x12 1 7 := (Bd.add e13 b11 (Bd.lit 1 1 (by decide)) (by decide)).w _ _ (by decide)
        refine J_goto E 16 dX6_thingsHolding_47 (by decide) ?_
        exact J.sub [1, 2, 3, 4, 0] rfl (ih16 b7 b8 x9 b10 x12 (b14.w 0 7 (by decide)) (Mu.step hmu16 e13 b11 (Bd.lit 1 1 (by decide)) (by decide)))
      refine J_iload E dX6_thingsHolding_16 4 rfl ?_
      refine J_aload_n E dX6_thingsHolding_18 0 rfl ?_
      refine J_getI E in_X6 rfl (S_X6.h S0) 0 (by decide) wd191 rfl dX6_thingsHolding_19 (fun x15 e16 => ?_)
      have b17 : Bd x15 0 7 := Ok.fd hOk e16 (S_X6.h S0) rfl
      refine J_icmp_ge E 50 dX6_thingsHolding_22 (by decide) (fun c18 => ?_) (fun c18 => ?_)
      · refine J_iload_n E dX6_thingsHolding_50 3 rfl ?_
        exact J_iret E hr dX6_thingsHolding_51 ⟨rfl, rfl, b4, trivial⟩
      · have b19 : Bd x5 0 6 := Bd.lt_l (nle c18) b6 b17 6 (by decide)
        have b20 : Bd x15 1 7 := Bd.lt_r (nle c18) b6 b17 1 (by decide)
        refine J_aload_n E dX6_thingsHolding_25 0 rfl ?_
        refine J_iload E dX6_thingsHolding_26 4 rfl ?_
        refine J_iload_n E dX6_thingsHolding_28 1 rfl ?_
        refine J_iload_n E dX6_thingsHolding_29 2 rfl ?_
        refine J_callVI E cal_X6_holdsFor wd692 rfl (S_X6.h S0) [.int x5, .int x_0, .int x_1] [] (ct_X6_holdsFor l D dA G v w (hOk) h0 S0 x5 b19 x_0 b1 x_1 b2) rfl rfl (Nat.le_of_ble_eq_true rfl) ⟨rfl, rfl⟩ ⟨Nat.le_of_ble_eq_true rfl, Nat.le_of_ble_eq_true rfl⟩ dX6_thingsHolding_30 (fun x24 v21 w22 p23 => ?_)
        rw [p23.1, p23.2.1]
        have b25 : Bd x24 0 60 := p23.2.2.1
        refine J_iload_n E dX6_thingsHolding_33 2 rfl ?_
        refine J_icmp_lt E 44 dX6_thingsHolding_34 (by decide) (fun c26 => ?_) (fun c26 => ?_)
        · have b27 : Bd x24 0 59 := Bd.lt_l c26 b25 b2 59 (by decide)
          exact J.sub [0, 1, 2, 3, 4] rfl (J44 b1 b2 x3 b4 b19)
        · have b28 : Bd x24 1 60 := Bd.le_r (nlt c26) b2 b25 1 (by decide)
          refine J_iload_n E dX6_thingsHolding_37 3 rfl ?_
          refine J_iconst E 1 dX6_thingsHolding_38 (by decide) ?_
          refine J_iload E dX6_thingsHolding_39 4 rfl ?_
          refine J_ishl E dX6_thingsHolding_41 (fun x29 e30 => ?_)
          have b31 : Bd x29 1 64 := Bd.shl1 e30 b19 6 (by decide)
          refine J_ior E dX6_thingsHolding_42 (fun x32 e33 => ?_)
          have b34 : Bd x32 0 127 := Bd.or e33 b4 b31 7 (by decide)
          refine J_istore_n E [(3, .int x32), (0, .ref h0), (1, .int x_0), (2, .int x_1), (4, .int x5)] dX6_thingsHolding_43 rfl (by decide) rfl ?_
          exact J.sub [1, 2, 3, 0, 4] rfl (J44 b1 b2 x32 b34 b19)
  refine J_iconst E 0 dX6_thingsHolding_0 (by decide) ?_
  refine J_istore_n E [(3, .int 0), (0, .ref h0), (1, .int x_0), (2, .int x_1)] dX6_thingsHolding_1 rfl (by decide) rfl ?_
  refine J_aload_n E dX6_thingsHolding_2 1 rfl ?_
  refine J_getR E in_X6 rfl (S_X6.h S0) 6 (by decide) wd207 rfl dX6_thingsHolding_3 ?_
  refine J_iload_n E dX6_thingsHolding_6 2 rfl ?_
  refine J_callVNI E cal_X2_isHere wd496 rfl (S_X2.h (S_X6.f6 S0)) [.int x_0] [] (ct_X2_isHere l D dA G v w (hOk) (rf G h0 6) (S_X6.f6 S0) x_0 bx_0) rfl rfl (Nat.le_of_ble_eq_true rfl) ⟨rfl, rfl⟩ ⟨Nat.le_of_ble_eq_true rfl, Nat.le_of_ble_eq_true rfl⟩ dX6_thingsHolding_7 (fun x38 v35 w36 p37 => ?_)
  rw [p37.1, p37.2.1]
  have b39 : Bd x38 0 1 := p37.2.2.1
  refine J_if_eq E 50 dX6_thingsHolding_10 (by decide) (fun c40 => ?_) (fun c40 => ?_)
  · have b41 : Bd x38 0 0 := Bd.eq_l c40 b39 (Bd.lit 0 0 (by decide)) 0 0 (by decide)
    refine J_iload_n E dX6_thingsHolding_50 0 rfl ?_
    exact J_iret E hr dX6_thingsHolding_51 ⟨rfl, rfl, ((Bd.lit 0 0 (by decide)).w 0 127 (by decide)), trivial⟩
  · have b42 : Bd x38 1 1 := (Bd.ne_lo c40 b39 (Bd.lit 0 0 (by decide))).w _ _ (by decide)
    refine J_iconst E 0 dX6_thingsHolding_13 (by decide) ?_
    refine J_istore E [(4, .int 0), (3, .int 0), (0, .ref h0), (1, .int x_0), (2, .int x_1)] dX6_thingsHolding_14 (by decide) rfl ?_
    exact J.sub [2, 3, 4, 1, 0] rfl (J16 8 bx_0 bx_1 0 ((Bd.lit 0 0 (by decide)).w 0 127 (by decide)) 0 ((Bd.lit 0 0 (by decide)).w 0 7 (by decide)) (Mu.start _ (Bd.lit 0 0 (by decide)) (by decide)))

abbrev rm_X1_most : Room := { frames := 0, cells := 0, slots := 0, locals := 0 }
set_option maxHeartbeats 4000000 in
set_option maxRecDepth 100000 in
theorem ct_X1_most (l : Launch) (D : va_G) (dA : Nat → ClassId) (G : Gm) (v : Mv) (w : Mw) (hOk : Ok G v w) (h0 : Nat) (S0 : S_X1 G h0) (x_0 : Int32) (bx_0 : Bd x_0 0 7) (x_1 : Int32) (bx_1 : Bd x_1 0 127) : CtI l yX1_most cX1_most 3 (some .int) rm_X1_most D dA G [.ref h0, .int x_0, .int x_1] v w (fun r v1 w1 => v1 = v ∧ w1 = w ∧ True ∧ True) := by
  refine CtI.of RX1 [(0, .ref h0), (1, .int x_0), (2, .int x_1)] (Nat.le_of_ble_eq_true rfl) rfl (by decide) rfl ?_
  intro p e s m args below meth c E hr
  refine J_iload_n E dX1_most_0 1 rfl ?_
  refine J_aload_n E dX1_most_1 0 rfl ?_
  refine J_getI E in_X1 rfl (S_X1.h S0) 2 (by decide) wd285 rfl dX1_most_2 (fun x1 e2 => ?_)
  have b3 : Bd x1 0 7 := Ok.fd hOk e2 (S_X1.h S0) rfl
  refine J_icmp_ge E 23 dX1_most_5 (by decide) (fun c4 => ?_) (fun c4 => ?_)
  · refine J_iconst E 0 dX1_most_23 (by decide) ?_
    exact J_iret E hr dX1_most_24 ⟨rfl, rfl, trivial, trivial⟩
  · have b5 : Bd x_0 0 6 := Bd.lt_l (nle c4) bx_0 b3 6 (by decide)
    have b6 : Bd x1 1 7 := Bd.lt_r (nle c4) bx_0 b3 1 (by decide)
    refine J_aload_n E dX1_most_8 0 rfl ?_
    refine J_getR E in_X1 rfl (S_X1.h S0) 1 (by decide) wd284 rfl dX1_most_9 ?_
    refine J_iload_n E dX1_most_12 1 rfl ?_
    refine J_sipush E 128 dX1_most_13 (by decide) ?_
    refine J_imul E dX1_most_16 (fun x7 e8 => ?_)
    have b9 : Bd x7 0 768 := Bd.mul e8 b5 (Bd.lit 128 128 (by decide)) (by decide)
    refine J_iload_n E dX1_most_17 2 rfl ?_
    refine J_iadd E dX1_most_18 (fun x10 e11 => ?_)
    have b12 : Bd x10 0 895 := (Bd.add e11 b9 bx_1 (by decide)).w _ _ (by decide)
    refine J_iald1 E (S_X1.f1 S0) (Bd.in b12 (by decide)) dX1_most_19 (fun x13 e14 => ?_)
    refine J_goto E 24 dX1_most_20 (by decide) ?_
    exact J_iret E hr dX1_most_24 ⟨rfl, rfl, trivial, trivial⟩

abbrev rm_X1_best : Room := { frames := 1, cells := 0, slots := 0, locals := 22 }
set_option maxHeartbeats 4000000 in
set_option maxRecDepth 100000 in
theorem ct_X1_best (l : Launch) (D : va_G) (dA : Nat → ClassId) (G : Gm) (v : Mv) (w : Mw) (hOk : Ok G v w) (h0 : Nat) (S0 : S_X1 G h0) (x_0 : Int32) (bx_0 : Bd x_0 0 6) (x_1 : Int32) (bx_1 : Bd x_1 0 127) : CtI l yX1_best cX1_best 6 (some .int) rm_X1_best D dA G [.ref h0, .int x_0, .int x_1] v w (fun r v1 w1 => v1 = v ∧ w1 = w ∧ True ∧ True) := by
  refine CtI.of RX1 [(0, .ref h0), (1, .int x_0), (2, .int x_1)] (Nat.le_of_ble_eq_true rfl) rfl (by decide) rfl ?_
  intro p e s m args below meth c E hr
  have J22 : ∀ n22 : Nat, Bd x_0 0 6 → Bd x_1 0 127 → ∀ x3 : Int32, ∀ x4 : Int32, Bd x4 0 127 → ∀ x6 : Int32, Bd x6 0 7 → Mu x6 7 n22 → J p l e rm_X1_best s m args below meth c 0 0 (MQ below (QcI D dA G (fun r v1 w1 => v1 = v ∧ w1 = w ∧ True ∧ True)) args s 0 0 (dm G)) D dA G (dm G) s.heap 6 v w [(0, .ref h0), (1, .int x_0), (2, .int x_1), (3, .int x3), (4, .int x4), (5, .int x6)] 22 [] := by
    intro n22
    induction n22 with
    | zero => intro b1 b2 x3 x4 b5 x6 b7 hm; exact hm.zero b7 (by decide)
    | succ n22 ih22 =>
      intro b1 b2 x3 x4 b5 x6 b7 hmu22
      have J63 : Bd x_0 0 6 → Bd x_1 0 127 → Bd x4 0 127 → Bd x6 0 6 → J p l e rm_X1_best s m args below meth c 0 0 (MQ below (QcI D dA G (fun r v1 w1 => v1 = v ∧ w1 = w ∧ True ∧ True)) args s 0 0 (dm G)) D dA G (dm G) s.heap 6 v w [(0, .ref h0), (1, .int x_0), (2, .int x_1), (3, .int x3), (4, .int x4), (5, .int x6)] 63 [] := by
        intro b8 b9 b10 b11
        refine J_iinc E 5 1 (fun z => [(5, .int z), (0, .ref h0), (1, .int x_0), (2, .int x_1), (3, .int x3), (4, .int x4)]) dX1_best_63 rfl (by decide) (by decide) (fun _ => rfl) (fun x12 e13 => ?_)
        have b14 : Bd x12 1 7 := (Bd.add e13 b11 (Bd.lit 1 1 (by decide)) (by decide)).w _ _ (by decide)
        refine J_goto E 22 dX1_best_66 (by decide) ?_
        exact J.sub [1, 2, 3, 4, 5, 0] rfl (ih22 b8 b9 x3 x4 b10 x12 (b14.w 0 7 (by decide)) (Mu.step hmu22 e13 b11 (Bd.lit 1 1 (by decide)) (by decide)))
      refine J_iload E dX1_best_22 5 rfl ?_
      refine J_bipush E 7 dX1_best_24 (by decide) ?_
      refine J_icmp_ge E 69 dX1_best_26 (by decide) (fun c15 => ?_) (fun c15 => ?_)
      · have b16 : Bd x6 7 7 := Bd.le_r c15 (Bd.lit 7 7 (by decide)) b7 7 (by decide)
        refine J_iload_n E dX1_best_69 3 rfl ?_
        exact J_iret E hr dX1_best_70 ⟨rfl, rfl, trivial, trivial⟩
      · have b17 : Bd x6 0 6 := Bd.lt_l (nle c15) b7 (Bd.lit 7 7 (by decide)) 6 (by decide)
        refine J_iload E dX1_best_29 4 rfl ?_
        refine J_iload E dX1_best_31 5 rfl ?_
        refine J_ishr E dX1_best_33 (fun x18 e19 => ?_)
        have b20 : Bd x18 0 127 := Bd.shr e19 b5 (by decide)
        refine J_iconst E 1 dX1_best_34 (by decide) ?_
        refine J_iand E dX1_best_35 (fun x21 e22 => ?_)
        have b23 : Bd x21 0 1 := Bd.and_r e22 (Bd.lit 1 1 (by decide)) (by decide)
        refine J_iconst E 1 dX1_best_36 (by decide) ?_
        refine J_icmp_ne E 63 dX1_best_37 (by decide) (fun c24 => ?_) (fun c24 => ?_)
        · have b25 : Bd x21 0 0 := (Bd.ne_hi c24 b23 (Bd.lit 1 1 (by decide))).w _ _ (by decide)
          exact J.sub [0, 1, 2, 3, 4, 5] rfl (J63 b1 b2 b5 b17)
        · have b26 : Bd x21 1 1 := Bd.eq_l c24 b23 (Bd.lit 1 1 (by decide)) 1 1 (by decide)
          refine J_aload_n E dX1_best_40 0 rfl ?_
          refine J_iload_n E dX1_best_41 1 rfl ?_
          refine J_iconst E 1 dX1_best_42 (by decide) ?_
          refine J_iadd E dX1_best_43 (fun x27 e28 => ?_)
          have b29 : Bd x27 1 7 := (Bd.add e28 b1 (Bd.lit 1 1 (by decide)) (by decide)).w _ _ (by decide)
          refine J_iload_n E dX1_best_44 2 rfl ?_
          refine J_iconst E 1 dX1_best_45 (by decide) ?_
          refine J_iload E dX1_best_46 5 rfl ?_
          refine J_ishl E dX1_best_48 (fun x30 e31 => ?_)
          have b32 : Bd x30 1 64 := Bd.shl1 e31 b17 6 (by decide)
          refine J_iconst E (-1) dX1_best_49 (by decide) ?_
          refine J_ixor E dX1_best_50 (fun x33 e34 => ?_)
          refine J_iand E dX1_best_51 (fun x35 e36 => ?_)
          have b37 : Bd x35 0 127 := Bd.and_l e36 b2 (by decide)
          refine J_callVI E cal_X1_most wd697 rfl (S_X1.h S0) [.int x27, .int x35] [] (ct_X1_most l D dA G v w (hOk) h0 S0 x27 (b29.w 0 7 (by decide)) x35 b37) rfl rfl (Nat.le_of_ble_eq_true rfl) ⟨rfl, rfl⟩ ⟨Nat.le_of_ble_eq_true rfl, Nat.le_of_ble_eq_true rfl⟩ dX1_best_52 (fun x41 v38 w39 p40 => ?_)
          rw [p40.1, p40.2.1]
          refine J_iload_n E dX1_best_55 3 rfl ?_
          refine J_icmp_ne E 63 dX1_best_56 (by decide) (fun c42 => ?_) (fun c42 => ?_)
          · exact J.sub [0, 1, 2, 3, 4, 5] rfl (J63 b1 b2 b5 b17)
          · refine J_iload_n E dX1_best_59 3 rfl ?_
            refine J_iconst E 1 dX1_best_60 (by decide) ?_
            refine J_iadd E dX1_best_61 (fun x43 e44 => ?_)
            exact J_iret E hr dX1_best_62 ⟨rfl, rfl, trivial, trivial⟩
  refine J_aload_n E dX1_best_0 0 rfl ?_
  refine J_iload_n E dX1_best_1 1 rfl ?_
  refine J_iconst E 1 dX1_best_2 (by decide) ?_
  refine J_iadd E dX1_best_3 (fun x45 e46 => ?_)
  have b47 : Bd x45 1 7 := (Bd.add e46 bx_0 (Bd.lit 1 1 (by decide)) (by decide)).w _ _ (by decide)
  refine J_iload_n E dX1_best_4 2 rfl ?_
  refine J_callVI E cal_X1_most wd697 rfl (S_X1.h S0) [.int x45, .int x_1] [] (ct_X1_most l D dA G v w (hOk) h0 S0 x45 (b47.w 0 7 (by decide)) x_1 bx_1) rfl rfl (Nat.le_of_ble_eq_true rfl) ⟨rfl, rfl⟩ ⟨Nat.le_of_ble_eq_true rfl, Nat.le_of_ble_eq_true rfl⟩ dX1_best_5 (fun x51 v48 w49 p50 => ?_)
  rw [p50.1, p50.2.1]
  refine J_istore_n E [(3, .int x51), (0, .ref h0), (1, .int x_0), (2, .int x_1)] dX1_best_8 rfl (by decide) rfl ?_
  refine J_aload_n E dX1_best_9 1 rfl ?_
  refine J_getR E in_X1 rfl (S_X1.h S0) 0 (by decide) wd283 rfl dX1_best_10 ?_
  refine J_iload_n E dX1_best_13 2 rfl ?_
  refine J_iald1 E (S_X1.f0 S0) (Bd.in bx_0 (by decide)) dX1_best_14 (fun x52 e53 => ?_)
  refine J_iload_n E dX1_best_15 3 rfl ?_
  refine J_iand E dX1_best_16 (fun x54 e55 => ?_)
  have b56 : Bd x54 0 127 := Bd.and_r e55 bx_1 (by decide)
  refine J_istore E [(4, .int x54), (3, .int x51), (0, .ref h0), (1, .int x_0), (2, .int x_1)] dX1_best_17 (by decide) rfl ?_
  refine J_iconst E 0 dX1_best_19 (by decide) ?_
  refine J_istore E [(5, .int 0), (4, .int x54), (3, .int x51), (0, .ref h0), (1, .int x_0), (2, .int x_1)] dX1_best_20 (by decide) rfl ?_
  exact J.sub [3, 4, 5, 2, 1, 0] rfl (J22 8 bx_0 bx_1 x51 x54 b56 0 ((Bd.lit 0 0 (by decide)).w 0 7 (by decide)) (Mu.start _ (Bd.lit 0 0 (by decide)) (by decide)))

abbrev rm_X1_fill : Room := { frames := 5, cells := 0, slots := 0, locals := 115 }
set_option maxHeartbeats 4000000 in
set_option maxRecDepth 100000 in
theorem ct_X1_fill (l : Launch) (D : va_G) (dA : Nat → ClassId) (G : Gm) (v : Mv) (w : Mw) (hOk : Ok G v w) (h0 : Nat) (S0 : S_X1 G h0) (h_0 : Nat) (S_0 : S_X6 G h_0) (x_1 : Int32) (bx_1 : Bd x_1 1 60) : CtV l yX1_fill cX1_fill 5 none rm_X1_fill D dA G [.ref h0, .ref h_0, .int x_1] v w (fun v1 w1 => Ok G v1 w1 ∧ Kp G v v1 ∧ Fr G [1, 107, 996] v v1) := by
  refine CtV.of RX1 [(0, .ref h0), (1, .ref h_0), (2, .int x_1)] (Nat.le_of_ble_eq_true rfl) rfl (by decide) rfl ?_
  intro p e s m args below meth c E hr
  have J15 : ∀ n15 : Nat, ∀ (v1 : Mv) (w2 : Mw), Ok G v1 w2 → Kp G v v1 → Fr G [1, 107, 996] v v1 → Bd x_1 1 60 → ∀ x7 : Int32, Bd x7 (-1) 6 → Md x7 (-1) n15 → J p l e rm_X1_fill s m args below meth c 0 0 (MQ below (QcV D dA G (fun v1 w1 => Ok G v1 w1 ∧ Kp G v v1 ∧ Fr G [1, 107, 996] v v1)) args s 0 0 (dm G)) D dA G (dm G) s.heap 5 v1 w2 [(0, .ref h0), (1, .ref h_0), (2, .int x_1), (3, .int x7)] 15 [] := by
    intro n15
    induction n15 with
    | zero => intro v1 w2 o3 k4 f5 b6 x7 b8 hm; exact hm.zero b8 (by decide)
    | succ n15 ih15 =>
      intro v1 w2 o3 k4 f5 b6 x7 b8 hmu15
      have J34 : ∀ n34 : Nat, ∀ (v9 : Mv) (w10 : Mw), Ok G v9 w10 → Kp G v v9 → Fr G [1, 107, 996] v v9 → Bd x_1 1 60 → Bd x7 0 6 → ∀ x16 : Int32, Bd x16 0 128 → Mu x16 128 n34 → J p l e rm_X1_fill s m args below meth c 0 0 (MQ below (QcV D dA G (fun v1 w1 => Ok G v1 w1 ∧ Kp G v v1 ∧ Fr G [1, 107, 996] v v1)) args s 0 0 (dm G)) D dA G (dm G) s.heap 5 v9 w10 [(0, .ref h0), (1, .ref h_0), (2, .int x_1), (3, .int x7), (4, .int x16)] 34 [] := by
        intro n34
        induction n34 with
        | zero => intro v9 w10 o11 k12 f13 b14 b15 x16 b17 hm; exact hm.zero b17 (by decide)
        | succ n34 ih34 =>
          intro v9 w10 o11 k12 f13 b14 b15 x16 b17 hmu34
          refine J_iload E dX1_fill_34 4 rfl ?_
          refine J_iconst E 1 dX1_fill_36 (by decide) ?_
          refine J_aload_n E dX1_fill_37 1 rfl ?_
          refine J_getIN E in_X6 rfl (S_X6.h S_0) 0 (by decide) wd192 rfl dX1_fill_38 (fun x18 e19 => ?_)
          have b20 : Bd x18 0 7 := Ok.fd o11 e19 (S_X6.h S_0) rfl
          refine J_ishl E dX1_fill_41 (fun x21 e22 => ?_)
          have b23 : Bd x21 1 128 := Bd.shl1 e22 b20 7 (by decide)
          refine J_icmp_ge E 71 dX1_fill_42 (by decide) (fun c24 => ?_) (fun c24 => ?_)
          · have b25 : Bd x16 1 128 := Bd.le_r c24 b23 b17 1 (by decide)
            refine J_iinc E 3 (-1) (fun z => [(3, .int z), (0, .ref h0), (1, .ref h_0), (2, .int x_1), (4, .int x16)]) dX1_fill_71 rfl (by decide) (by decide) (fun _ => rfl) (fun x26 e27 => ?_)
            have b28 : Bd x26 (-1) 5 := (Bd.add e27 b15 (Bd.lit (-1) (-1) (by decide)) (by decide)).w _ _ (by decide)
            refine J_goto E 15 dX1_fill_74 (by decide) ?_
            exact J.sub [1, 2, 3, 0] rfl (ih15 v9 w10 (o11) (k12) f13 b14 x26 (b28.w (-1) 6 (by decide)) (Md.step hmu15 e27 b15 (Bd.lit (-1) (-1) (by decide)) (by decide)))
          · have b29 : Bd x16 0 127 := Bd.lt_l (nle c24) b17 b23 127 (by decide)
            refine J_aload_n E dX1_fill_45 0 rfl ?_
            refine J_getR E in_X1 rfl (S_X1.h S0) 1 (by decide) wd284 rfl dX1_fill_46 ?_
            refine J_iload_n E dX1_fill_49 3 rfl ?_
            refine J_sipush E 128 dX1_fill_50 (by decide) ?_
            refine J_imul E dX1_fill_53 (fun x30 e31 => ?_)
            have b32 : Bd x30 0 768 := Bd.mul e31 b15 (Bd.lit 128 128 (by decide)) (by decide)
            refine J_iload E dX1_fill_54 4 rfl ?_
            refine J_iadd E dX1_fill_56 (fun x33 e34 => ?_)
            have b35 : Bd x33 0 895 := (Bd.add e34 b32 b29 (by decide)).w _ _ (by decide)
            refine J_aload_n E dX1_fill_57 0 rfl ?_
            refine J_iload_n E dX1_fill_58 3 rfl ?_
            refine J_iload E dX1_fill_59 4 rfl ?_
            refine J_callVI E cal_X1_best wd693 rfl (S_X1.h S0) [.int x7, .int x16] [.int x33, .ref (rf G h0 1)] (ct_X1_best l D dA G v9 w10 (o11) h0 S0 x7 b15 x16 b29) rfl rfl (Nat.le_of_ble_eq_true rfl) ⟨rfl, rfl⟩ ⟨Nat.le_of_ble_eq_true rfl, Nat.le_of_ble_eq_true rfl⟩ dX1_fill_61 (fun x39 v36 w37 p38 => ?_)
            rw [p38.1, p38.2.1]
            refine J_iast1 E (S_X1.f1 S0) (Bd.in b35 (by decide)) dX1_fill_64 (fun v40 e41 => ?_)
            have o42 : Ok G v40 w10 := by rw [e41]; exact Ok.sv o11 (S_X1.f1 S0) b35 (Bd.any x39) 0 896 (by decide) (by decide +kernel)
            have k43 : Kp G v v40 := by rw [e41]; exact Kp.sv k12 (S_X1.f1 S0) b35 0 896 I0 I1 (by decide) (by decide +kernel)
            have f44 : Fr G [1, 107, 996] v v40 := Fr.st f13 e41 (S_X1.f1 S0) rfl
            have e45 : x18 = v40 h_0 0 := by rw [e41, stv_a (tg_ne (S_X6.h S_0) ((S_X1.f1 S0)) rfl)]; exact e19
            refine J_iinc E 4 1 (fun z => [(4, .int z), (0, .ref h0), (1, .ref h_0), (2, .int x_1), (3, .int x7)]) dX1_fill_65 rfl (by decide) (by decide) (fun _ => rfl) (fun x46 e47 => ?_)
            have b48 : Bd x46 1 128 := (Bd.add e47 b29 (Bd.lit 1 1 (by decide)) (by decide)).w _ _ (by decide)
            refine J_goto E 34 dX1_fill_68 (by decide) ?_
            exact J.sub [1, 2, 3, 4, 0] rfl (ih34 v40 w10 (o42) (k43) f44 b14 b15 x46 (b48.w 0 128 (by decide)) (Mu.step hmu34 e47 b29 (Bd.lit 1 1 (by decide)) (by decide)))
      refine J_iload_n E dX1_fill_15 3 rfl ?_
      refine J_if_lt E 77 dX1_fill_16 (by decide) (fun c49 => ?_) (fun c49 => ?_)
      · have b50 : Bd x7 (-1) (-1) := Bd.lt_l c49 b8 (Bd.lit 0 0 (by decide)) (-1) (by decide)
        exact J_vret E hr dX1_fill_77 ⟨o3, k4, f5⟩
      · have b51 : Bd x7 0 6 := Bd.le_r (nlt c49) (Bd.lit 0 0 (by decide)) b8 0 (by decide)
        refine J_aload_n E dX1_fill_19 0 rfl ?_
        refine J_getR E in_X1 rfl (S_X1.h S0) 0 (by decide) wd283 rfl dX1_fill_20 ?_
        refine J_iload_n E dX1_fill_23 3 rfl ?_
        refine J_aload_n E dX1_fill_24 1 rfl ?_
        refine J_iload_n E dX1_fill_25 3 rfl ?_
        refine J_iload_n E dX1_fill_26 2 rfl ?_
        refine J_callVNI E cal_X6_thingsHolding wd688 rfl (S_X6.h S_0) [.int x7, .int x_1] [.int x7, .ref (rf G h0 0)] (ct_X6_thingsHolding l D dA G v1 w2 (o3) h_0 S_0 x7 b51 x_1 b6) rfl rfl (Nat.le_of_ble_eq_true rfl) ⟨rfl, rfl⟩ ⟨Nat.le_of_ble_eq_true rfl, Nat.le_of_ble_eq_true rfl⟩ dX1_fill_27 (fun x55 v52 w53 p54 => ?_)
        rw [p54.1, p54.2.1]
        have b56 : Bd x55 0 127 := p54.2.2.1
        refine J_iast1 E (S_X1.f0 S0) (Bd.in b51 (by decide)) dX1_fill_30 (fun v57 e58 => ?_)
        have o59 : Ok G v57 w2 := by rw [e58]; exact Ok.sv o3 (S_X1.f0 S0) b51 b56 0 7 (by decide) (by decide +kernel)
        have k60 : Kp G v v57 := by rw [e58]; exact Kp.sv k4 (S_X1.f0 S0) b51 0 7 0 127 (by decide) (by decide +kernel)
        have f61 : Fr G [1, 107, 996] v v57 := Fr.st f5 e58 (S_X1.f0 S0) rfl
        refine J_iconst E 0 dX1_fill_31 (by decide) ?_
        refine J_istore E [(4, .int 0), (0, .ref h0), (1, .ref h_0), (2, .int x_1), (3, .int x7)] dX1_fill_32 (by decide) rfl ?_
        exact J.sub [1, 2, 3, 4, 0] rfl (J34 129 v57 w2 (o59) (k60) f61 b6 b51 0 ((Bd.lit 0 0 (by decide)).w 0 128 (by decide)) (Mu.start _ (Bd.lit 0 0 (by decide)) (by decide)))
  refine J_aload_n E dX1_fill_0 0 rfl ?_
  refine J_aload_n E dX1_fill_1 1 rfl ?_
  refine J_getIN E in_X6 rfl (S_X6.h S_0) 3 (by decide) wd199 rfl dX1_fill_2 (fun x62 e63 => ?_)
  have b64 : Bd x62 0 7 := Ok.fd hOk e63 (S_X6.h S_0) rfl
  refine J_pI E in_X1 rfl (S_X1.h S0) 2 (by decide) wd285 tyX1 tyX1_ok nmX1 rfl rfl .int (by decide +kernel) rfl rfl dX1_fill_5 (fun v65 e66 => ?_)
  have o67 : Ok G v65 w := Ok.pf hOk e66 (S_X1.h S0) rfl b64
  have k68 : Kp G v v65 := Kp.pf Kp.rf e66 (S_X1.h S0) rfl
  have e69 : x62 = v65 h_0 3 := by rw [e66, stv_k (by decide)]; exact e63
  have f70 : Fr G [1, 107, 996] v v65 := Fr.st Fr.rf e66 (S_X1.h S0) rfl
  have e71 : x62 = v65 h0 2 := by rw [e66, stv_s]
  refine J_aload_n E dX1_fill_8 0 rfl ?_
  refine J_getI E in_X1 rfl (S_X1.h S0) 2 (by decide) wd285 rfl dX1_fill_9 (fun x72 e73 => ?_)
  rw [show x72 = x62 from e73.trans (e71).symm]
  refine J_iconst E 1 dX1_fill_12 (by decide) ?_
  refine J_isub E dX1_fill_13 (fun x74 e75 => ?_)
  have b76 : Bd x74 (-1) 6 := (Bd.sub e75 b64 (Bd.lit 1 1 (by decide)) (by decide)).w _ _ (by decide)
  refine J_istore_n E [(3, .int x74), (0, .ref h0), (1, .ref h_0), (2, .int x_1)] dX1_fill_14 rfl (by decide) rfl ?_
  exact J.sub [1, 2, 3, 0] rfl (J15 8 v65 w (o67) (k68) f70 bx_1 x74 b76 (Md.start _ b76 (by decide)))

abbrev rm_X1_firstThing : Room := { frames := 1, cells := 0, slots := 0, locals := 22 }
set_option maxHeartbeats 4000000 in
set_option maxRecDepth 100000 in
theorem ct_X1_firstThing (l : Launch) (D : va_G) (dA : Nat → ClassId) (G : Gm) (v : Mv) (w : Mw) (hOk : Ok G v w) (h0 : Nat) (S0 : S_X1 G h0) (x_0 : Int32) (bx_0 : Bd x_0 0 6) (x_1 : Int32) (bx_1 : Bd x_1 0 127) : CtI l yX1_firstThing cX1_firstThing 6 (some .int) rm_X1_firstThing D dA G [.ref h0, .int x_0, .int x_1] v w (fun r v1 w1 => v1 = v ∧ w1 = w ∧ Bd r (-1) 6 ∧ True) := by
  refine CtI.of RX1 [(0, .ref h0), (1, .int x_0), (2, .int x_1)] (Nat.le_of_ble_eq_true rfl) rfl (by decide) rfl ?_
  intro p e s m args below meth c E hr
  have J34 : ∀ n34 : Nat, Bd x_0 0 6 → Bd x_1 0 127 → ∀ x3 : Int32, ∀ x4 : Int32, Bd x4 0 127 → ∀ x6 : Int32, Bd x6 0 7 → Mu x6 7 n34 → J p l e rm_X1_firstThing s m args below meth c 0 0 (MQ below (QcI D dA G (fun r v1 w1 => v1 = v ∧ w1 = w ∧ Bd r (-1) 6 ∧ True)) args s 0 0 (dm G)) D dA G (dm G) s.heap 6 v w [(0, .ref h0), (1, .int x_0), (2, .int x_1), (3, .int x3), (4, .int x4), (5, .int x6)] 34 [] := by
    intro n34
    induction n34 with
    | zero => intro b1 b2 x3 x4 b5 x6 b7 hm; exact hm.zero b7 (by decide)
    | succ n34 ih34 =>
      intro b1 b2 x3 x4 b5 x6 b7 hmu34
      have J76 : Bd x_0 0 6 → Bd x_1 0 127 → Bd x4 0 127 → Bd x6 0 6 → J p l e rm_X1_firstThing s m args below meth c 0 0 (MQ below (QcI D dA G (fun r v1 w1 => v1 = v ∧ w1 = w ∧ Bd r (-1) 6 ∧ True)) args s 0 0 (dm G)) D dA G (dm G) s.heap 6 v w [(0, .ref h0), (1, .int x_0), (2, .int x_1), (3, .int x3), (4, .int x4), (5, .int x6)] 76 [] := by
        intro b8 b9 b10 b11
        refine J_iinc E 5 1 (fun z => [(5, .int z), (0, .ref h0), (1, .int x_0), (2, .int x_1), (3, .int x3), (4, .int x4)]) dX1_firstThing_76 rfl (by decide) (by decide) (fun _ => rfl) (fun x12 e13 => ?_)
        have b14 : Bd x12 1 7 := (Bd.add e13 b11 (Bd.lit 1 1 (by decide)) (by decide)).w _ _ (by decide)
        refine J_goto E 34 dX1_firstThing_79 (by decide) ?_
        exact J.sub [1, 2, 3, 4, 5, 0] rfl (ih34 b8 b9 x3 x4 b10 x12 (b14.w 0 7 (by decide)) (Mu.step hmu34 e13 b11 (Bd.lit 1 1 (by decide)) (by decide)))
      refine J_iload E dX1_firstThing_34 5 rfl ?_
      refine J_bipush E 7 dX1_firstThing_36 (by decide) ?_
      refine J_icmp_ge E 82 dX1_firstThing_38 (by decide) (fun c15 => ?_) (fun c15 => ?_)
      · have b16 : Bd x6 7 7 := Bd.le_r c15 (Bd.lit 7 7 (by decide)) b7 7 (by decide)
        refine J_iconst E (-1) dX1_firstThing_82 (by decide) ?_
        exact J_iret E hr dX1_firstThing_83 ⟨rfl, rfl, ((Bd.lit (-1) (-1) (by decide)).w (-1) 6 (by decide)), trivial⟩
      · have b17 : Bd x6 0 6 := Bd.lt_l (nle c15) b7 (Bd.lit 7 7 (by decide)) 6 (by decide)
        refine J_iload E dX1_firstThing_41 4 rfl ?_
        refine J_iload E dX1_firstThing_43 5 rfl ?_
        refine J_ishr E dX1_firstThing_45 (fun x18 e19 => ?_)
        have b20 : Bd x18 0 127 := Bd.shr e19 b5 (by decide)
        refine J_iconst E 1 dX1_firstThing_46 (by decide) ?_
        refine J_iand E dX1_firstThing_47 (fun x21 e22 => ?_)
        have b23 : Bd x21 0 1 := Bd.and_r e22 (Bd.lit 1 1 (by decide)) (by decide)
        refine J_iconst E 1 dX1_firstThing_48 (by decide) ?_
        refine J_icmp_ne E 76 dX1_firstThing_49 (by decide) (fun c24 => ?_) (fun c24 => ?_)
        · have b25 : Bd x21 0 0 := (Bd.ne_hi c24 b23 (Bd.lit 1 1 (by decide))).w _ _ (by decide)
          exact J.sub [0, 1, 2, 3, 4, 5] rfl (J76 b1 b2 b5 b17)
        · have b26 : Bd x21 1 1 := Bd.eq_l c24 b23 (Bd.lit 1 1 (by decide)) 1 1 (by decide)
          refine J_aload_n E dX1_firstThing_52 0 rfl ?_
          refine J_iload_n E dX1_firstThing_53 1 rfl ?_
          refine J_iconst E 1 dX1_firstThing_54 (by decide) ?_
          refine J_iadd E dX1_firstThing_55 (fun x27 e28 => ?_)
          have b29 : Bd x27 1 7 := (Bd.add e28 b1 (Bd.lit 1 1 (by decide)) (by decide)).w _ _ (by decide)
          refine J_iload_n E dX1_firstThing_56 2 rfl ?_
          refine J_iconst E 1 dX1_firstThing_57 (by decide) ?_
          refine J_iload E dX1_firstThing_58 5 rfl ?_
          refine J_ishl E dX1_firstThing_60 (fun x30 e31 => ?_)
          have b32 : Bd x30 1 64 := Bd.shl1 e31 b17 6 (by decide)
          refine J_iconst E (-1) dX1_firstThing_61 (by decide) ?_
          refine J_ixor E dX1_firstThing_62 (fun x33 e34 => ?_)
          refine J_iand E dX1_firstThing_63 (fun x35 e36 => ?_)
          have b37 : Bd x35 0 127 := Bd.and_l e36 b2 (by decide)
          refine J_callVI E cal_X1_most wd697 rfl (S_X1.h S0) [.int x27, .int x35] [] (ct_X1_most l D dA G v w (hOk) h0 S0 x27 (b29.w 0 7 (by decide)) x35 b37) rfl rfl (Nat.le_of_ble_eq_true rfl) ⟨rfl, rfl⟩ ⟨Nat.le_of_ble_eq_true rfl, Nat.le_of_ble_eq_true rfl⟩ dX1_firstThing_64 (fun x41 v38 w39 p40 => ?_)
          rw [p40.1, p40.2.1]
          refine J_iconst E 1 dX1_firstThing_67 (by decide) ?_
          refine J_iadd E dX1_firstThing_68 (fun x42 e43 => ?_)
          refine J_iload_n E dX1_firstThing_69 3 rfl ?_
          refine J_icmp_ne E 76 dX1_firstThing_70 (by decide) (fun c44 => ?_) (fun c44 => ?_)
          · exact J.sub [0, 1, 2, 3, 4, 5] rfl (J76 b1 b2 b5 b17)
          · refine J_iload E dX1_firstThing_73 5 rfl ?_
            exact J_iret E hr dX1_firstThing_75 ⟨rfl, rfl, (b17.w (-1) 6 (by decide)), trivial⟩
  refine J_aload_n E dX1_firstThing_0 0 rfl ?_
  refine J_iload_n E dX1_firstThing_1 1 rfl ?_
  refine J_iload_n E dX1_firstThing_2 2 rfl ?_
  refine J_callVI E cal_X1_most wd697 rfl (S_X1.h S0) [.int x_0, .int x_1] [] (ct_X1_most l D dA G v w (hOk) h0 S0 x_0 (bx_0.w 0 7 (by decide)) x_1 bx_1) rfl rfl (Nat.le_of_ble_eq_true rfl) ⟨rfl, rfl⟩ ⟨Nat.le_of_ble_eq_true rfl, Nat.le_of_ble_eq_true rfl⟩ dX1_firstThing_3 (fun x48 v45 w46 p47 => ?_)
  rw [p47.1, p47.2.1]
  refine J_istore_n E [(3, .int x48), (0, .ref h0), (1, .int x_0), (2, .int x_1)] dX1_firstThing_6 rfl (by decide) rfl ?_
  refine J_aload_n E dX1_firstThing_7 1 rfl ?_
  refine J_iload_n E dX1_firstThing_8 2 rfl ?_
  refine J_iconst E 1 dX1_firstThing_9 (by decide) ?_
  refine J_iadd E dX1_firstThing_10 (fun x49 e50 => ?_)
  have b51 : Bd x49 1 7 := (Bd.add e50 bx_0 (Bd.lit 1 1 (by decide)) (by decide)).w _ _ (by decide)
  refine J_iload_n E dX1_firstThing_11 3 rfl ?_
  refine J_callVI E cal_X1_most wd697 rfl (S_X1.h S0) [.int x49, .int x_1] [] (ct_X1_most l D dA G v w (hOk) h0 S0 x49 (b51.w 0 7 (by decide)) x_1 bx_1) rfl rfl (Nat.le_of_ble_eq_true rfl) ⟨rfl, rfl⟩ ⟨Nat.le_of_ble_eq_true rfl, Nat.le_of_ble_eq_true rfl⟩ dX1_firstThing_12 (fun x55 v52 w53 p54 => ?_)
  rw [p54.1, p54.2.1]
  refine J_iload_n E dX1_firstThing_15 0 rfl ?_
  refine J_icmp_ne E 21 dX1_firstThing_16 (by decide) (fun c56 => ?_) (fun c56 => ?_)
  · refine J_aload_n E dX1_firstThing_21 1 rfl ?_
    refine J_getR E in_X1 rfl (S_X1.h S0) 0 (by decide) wd283 rfl dX1_firstThing_22 ?_
    refine J_iload_n E dX1_firstThing_25 2 rfl ?_
    refine J_iald1 E (S_X1.f0 S0) (Bd.in bx_0 (by decide)) dX1_firstThing_26 (fun x57 e58 => ?_)
    refine J_iload_n E dX1_firstThing_27 3 rfl ?_
    refine J_iand E dX1_firstThing_28 (fun x59 e60 => ?_)
    have b61 : Bd x59 0 127 := Bd.and_r e60 bx_1 (by decide)
    refine J_istore E [(4, .int x59), (3, .int x48), (0, .ref h0), (1, .int x_0), (2, .int x_1)] dX1_firstThing_29 (by decide) rfl ?_
    refine J_iconst E 0 dX1_firstThing_31 (by decide) ?_
    refine J_istore E [(5, .int 0), (4, .int x59), (3, .int x48), (0, .ref h0), (1, .int x_0), (2, .int x_1)] dX1_firstThing_32 (by decide) rfl ?_
    exact J.sub [3, 4, 5, 2, 1, 0] rfl (J34 8 bx_0 bx_1 x48 x59 b61 0 ((Bd.lit 0 0 (by decide)).w 0 7 (by decide)) (Mu.start _ (Bd.lit 0 0 (by decide)) (by decide)))
  · refine J_iconst E (-1) dX1_firstThing_19 (by decide) ?_
    exact J_iret E hr dX1_firstThing_20 ⟨rfl, rfl, ((Bd.lit (-1) (-1) (by decide)).w (-1) 6 (by decide)), trivial⟩

abbrev rm_X1_firstThingOf : Room := { frames := 2, cells := 0, slots := 0, locals := 47 }
set_option maxHeartbeats 4000000 in
set_option maxRecDepth 100000 in
theorem ct_X1_firstThingOf (l : Launch) (D : va_G) (dA : Nat → ClassId) (G : Gm) (v : Mv) (w : Mw) (hOk : Ok G v w) (h0 : Nat) (S0 : S_X1 G h0) (x_0 : Int32) (bx_0 : Bd x_0 0 6) (x_1 : Int32) (bx_1 : Bd x_1 0 127) : CtI l yX1_firstThingOf cX1_firstThingOf 6 (some .int) rm_X1_firstThingOf D dA G [.ref h0, .int x_0, .int x_1] v w (fun r v1 w1 => v1 = v ∧ w1 = w ∧ True ∧ True) := by
  refine CtI.of RX1 [(0, .ref h0), (1, .int x_0), (2, .int x_1)] (Nat.le_of_ble_eq_true rfl) rfl (by decide) rfl ?_
  intro p e s m args below meth c E hr
  have J8 : ∀ n8 : Nat, Bd x_0 0 6 → ∀ x2 : Int32, Bd x2 0 127 → ∀ x4 : Int32, Bd x4 (-1) 6 → ∀ x6 : Int32, Bd x6 0 7 → Mu x6 7 n8 → J p l e rm_X1_firstThingOf s m args below meth c 0 0 (MQ below (QcI D dA G (fun r v1 w1 => v1 = v ∧ w1 = w ∧ True ∧ True)) args s 0 0 (dm G)) D dA G (dm G) s.heap 6 v w [(0, .ref h0), (1, .int x_0), (3, .int x2), (4, .int x4), (5, .int x6)] 8 [] := by
    intro n8
    induction n8 with
    | zero => intro b1 x2 b3 x4 b5 x6 b7 hm; exact hm.zero b7 (by decide)
    | succ n8 ih8 =>
      intro b1 x2 b3 x4 b5 x6 b7 hmu8
      have J38 : Bd x_0 0 6 → ∀ x9 : Int32, Bd x9 0 127 → ∀ x11 : Int32, Bd x11 (-1) 6 → Bd x6 0 6 → J p l e rm_X1_firstThingOf s m args below meth c 0 0 (MQ below (QcI D dA G (fun r v1 w1 => v1 = v ∧ w1 = w ∧ True ∧ True)) args s 0 0 (dm G)) D dA G (dm G) s.heap 6 v w [(0, .ref h0), (1, .int x_0), (3, .int x9), (4, .int x11), (5, .int x6)] 38 [] := by
        intro b8 x9 b10 x11 b12 b13
        refine J_iinc E 4 1 (fun z => [(5, .int z), (0, .ref h0), (1, .int x_0), (3, .int x9), (4, .int x11)]) dX1_firstThingOf_38 rfl (by decide) (by decide) (fun _ => rfl) (fun x14 e15 => ?_)
        have b16 : Bd x14 1 7 := (Bd.add e15 b13 (Bd.lit 1 1 (by decide)) (by decide)).w _ _ (by decide)
        refine J_goto E 8 dX1_firstThingOf_41 (by decide) ?_
        exact J.sub [1, 2, 3, 4, 0] rfl (ih8 b8 x9 b10 x11 b12 x14 (b16.w 0 7 (by decide)) (Mu.step hmu8 e15 b13 (Bd.lit 1 1 (by decide)) (by decide)))
      refine J_iload E dX1_firstThingOf_8 4 rfl ?_
      refine J_iload_n E dX1_firstThingOf_10 1 rfl ?_
      refine J_icmp_gt E 44 dX1_firstThingOf_11 (by decide) (fun c17 => ?_) (fun c17 => ?_)
      · have b18 : Bd x6 1 7 := Bd.lt_r c17 b1 b7 1 (by decide)
        refine J_iload E dX1_firstThingOf_44 3 rfl ?_
        exact J_iret E hr dX1_firstThingOf_46 ⟨rfl, rfl, trivial, trivial⟩
      · have b19 : Bd x6 0 6 := Bd.le_l (nlt c17) b7 b1 6 (by decide)
        refine J_aload_n E dX1_firstThingOf_14 0 rfl ?_
        refine J_iload E dX1_firstThingOf_15 4 rfl ?_
        refine J_iload_n E dX1_firstThingOf_17 2 rfl ?_
        refine J_callVI E cal_X1_firstThing wd706 rfl (S_X1.h S0) [.int x6, .int x2] [] (ct_X1_firstThing l D dA G v w (hOk) h0 S0 x6 b19 x2 b3) rfl rfl (Nat.le_of_ble_eq_true rfl) ⟨rfl, rfl⟩ ⟨Nat.le_of_ble_eq_true rfl, Nat.le_of_ble_eq_true rfl⟩ dX1_firstThingOf_18 (fun x23 v20 w21 p22 => ?_)
        rw [p22.1, p22.2.1]
        have b24 : Bd x23 (-1) 6 := p22.2.2.1
        refine J_istore E [(4, .int x23), (0, .ref h0), (1, .int x_0), (3, .int x2), (5, .int x6)] dX1_firstThingOf_21 (by decide) rfl ?_
        refine J_iload E dX1_firstThingOf_23 0 rfl ?_
        refine J_iconst E (-1) dX1_firstThingOf_25 (by decide) ?_
        refine J_icmp_eq E 38 dX1_firstThingOf_26 (by decide) (fun c25 => ?_) (fun c25 => ?_)
        · have b26 : Bd x23 (-1) (-1) := Bd.eq_l c25 b24 (Bd.lit (-1) (-1) (by decide)) (-1) (-1) (by decide)
          exact J.sub [1, 2, 3, 0, 4] rfl (J38 b1 x2 b3 x23 (b26.w (-1) 6 (by decide)) b19)
        · have b27 : Bd x23 0 6 := (Bd.ne_lo c25 b24 (Bd.lit (-1) (-1) (by decide))).w _ _ (by decide)
          refine J_iload_n E dX1_firstThingOf_29 3 rfl ?_
          refine J_iconst E 1 dX1_firstThingOf_30 (by decide) ?_
          refine J_iload E dX1_firstThingOf_31 0 rfl ?_
          refine J_ishl E dX1_firstThingOf_33 (fun x28 e29 => ?_)
          have b30 : Bd x28 1 64 := Bd.shl1 e29 b27 6 (by decide)
          refine J_iconst E (-1) dX1_firstThingOf_34 (by decide) ?_
          refine J_ixor E dX1_firstThingOf_35 (fun x31 e32 => ?_)
          refine J_iand E dX1_firstThingOf_36 (fun x33 e34 => ?_)
          have b35 : Bd x33 0 127 := Bd.and_l e34 b3 (by decide)
          refine J_istore_n E [(3, .int x33), (4, .int x23), (0, .ref h0), (1, .int x_0), (5, .int x6)] dX1_firstThingOf_37 rfl (by decide) rfl ?_
          exact J.sub [2, 3, 0, 1, 4] rfl (J38 b1 x33 b35 x23 (b27.w (-1) 6 (by decide)) b19)
  refine J_iload_n E dX1_firstThingOf_0 2 rfl ?_
  refine J_istore_n E [(3, .int x_1), (0, .ref h0), (1, .int x_0), (2, .int x_1)] dX1_firstThingOf_1 rfl (by decide) rfl ?_
  refine J_iconst E (-1) dX1_firstThingOf_2 (by decide) ?_
  refine J_istore E [(4, .int (-1)), (3, .int x_1), (0, .ref h0), (1, .int x_0), (2, .int x_1)] dX1_firstThingOf_3 (by decide) rfl ?_
  refine J_iconst E 0 dX1_firstThingOf_5 (by decide) ?_
  refine J_istore E [(5, .int 0), (4, .int (-1)), (3, .int x_1), (0, .ref h0), (1, .int x_0), (2, .int x_1)] dX1_firstThingOf_6 (by decide) rfl ?_
  exact J.sub [3, 4, 2, 1, 0] rfl (J8 8 bx_0 x_1 bx_1 (-1) ((Bd.lit (-1) (-1) (by decide)).w (-1) 6 (by decide)) 0 ((Bd.lit 0 0 (by decide)).w 0 7 (by decide)) (Mu.start _ (Bd.lit 0 0 (by decide)) (by decide)))

def K_X2_copyFrom_2 (G : Gm) (w : Mw) (h0 : Nat) (h_0 : Nat) : Nat → Mv → Int32 → Mv
  | 0, _, _ => (fun _ _ => 0 : Mv)
  | n2 + 1, v1, x5 =>
    if (7 : Int32) ≤ x5 then ((stv (stv v1 h0 2 (v1 h_0 2)) h0 3 ((stv v1 h0 2 (v1 h_0 2)) h_0 3))) else ((K_X2_copyFrom_2 G w h0 h_0 n2) (stv (stv v1 (rf G h0 0) (Int32.toNatClampNeg x5) (v1 (rf G h_0 0) (Int32.toNatClampNeg x5))) (rf G h0 1) (Int32.toNatClampNeg x5) ((stv v1 (rf G h0 0) (Int32.toNatClampNeg x5) (v1 (rf G h_0 0) (Int32.toNatClampNeg x5))) (rf G h_0 1) (Int32.toNatClampNeg x5))) (x5 + (1 : Int32)))
def K_X2_copyFrom_e (G : Gm) (w : Mw) (v : Mv) (h0 : Nat) (h_0 : Nat) : Mv :=
  K_X2_copyFrom_2 G w h0 h_0 8 v (0 : Int32)
def F_X2_copyFrom (G : Gm) (w : Mw) (v : Mv) (h0 : Nat) (h_0 : Nat) : Mv := K_X2_copyFrom_e G w v h0 h_0
set_option maxRecDepth 100000 in
theorem kx_X2_copyFrom_1 {G : Gm} {w : Mw} {h0 : Nat} {h_0 : Nat} {n2 : Nat} {v1 : Mv} {x5 : Int32} {v19 : Mv} {x9 : Int32} {v11 : Mv} {x17 : Int32} (a0 : x9 = v1 h_0 2) (a1 : v11 = stv v1 h0 2 x9) (a2 : x17 = v11 h_0 3) (a3 : v19 = stv v11 h0 3 x17) (k0 : (7 : Int32) ≤ x5) : K_X2_copyFrom_2 G w h0 h_0 (n2 + 1) v1 x5 = v19 := by
  subst a3; subst a2; subst a1; subst a0; first | rw [K_X2_copyFrom_2, if_pos k0] | simp only [K_X2_copyFrom_2, if_pos k0]
set_option maxRecDepth 100000 in
theorem kx_X2_copyFrom_2 {G : Gm} {w : Mw} {h0 : Nat} {h_0 : Nat} {n2 : Nat} {v1 : Mv} {x5 : Int32} {v36 : Mv} {x41 : Int32} {x27 : Int32} {v29 : Mv} {x34 : Int32} (a0 : x27 = v1 (rf G h_0 0) (Int32.toNatClampNeg x5)) (a1 : v29 = stv v1 (rf G h0 0) (Int32.toNatClampNeg x5) x27) (a2 : x34 = v29 (rf G h_0 1) (Int32.toNatClampNeg x5)) (a3 : v36 = stv v29 (rf G h0 1) (Int32.toNatClampNeg x5) x34) (a4 : x41 = x5 + (1 : Int32)) (k0 : ¬ ((7 : Int32) ≤ x5)) : K_X2_copyFrom_2 G w h0 h_0 (n2 + 1) v1 x5 = (K_X2_copyFrom_2 G w h0 h_0 n2) v36 x41 := by
  subst a4; subst a3; subst a2; subst a1; subst a0; first | rw [K_X2_copyFrom_2, if_neg k0] | simp only [K_X2_copyFrom_2, if_neg k0]
set_option maxRecDepth 100000 in
theorem kx_X2_copyFrom_3 {G : Gm} {w : Mw} {v : Mv} {h0 : Nat} {h_0 : Nat}   : K_X2_copyFrom_e G w v h0 h_0 = K_X2_copyFrom_2 G w h0 h_0 8 v (0 : Int32) := by
  first | rw [K_X2_copyFrom_e] | simp only [K_X2_copyFrom_e]
abbrev rm_X2_copyFrom : Room := { frames := 0, cells := 0, slots := 0, locals := 0 }
set_option maxHeartbeats 4000000 in
set_option maxRecDepth 100000 in
theorem ct_X2_copyFrom (l : Launch) (D : va_G) (dA : Nat → ClassId) (G : Gm) (v : Mv) (w : Mw) (hOk : Ok G v w) (h0 : Nat) (S0 : S_X2 G h0) (h_0 : Nat) (S_0 : S_X2 G h_0) : CtV l yX2_copyFrom cX2_copyFrom 3 none rm_X2_copyFrom D dA G [.ref h0, .ref h_0] v w (fun v1 w1 => Ok G v1 w1 ∧ Kp G v v1 ∧ (w1 = w ∧ v1 = F_X2_copyFrom G w v h0 h_0) ∧ Fr G [2, 107] v v1) := by
  refine CtV.of RX2 [(0, .ref h0), (1, .ref h_0)] (Nat.le_of_ble_eq_true rfl) rfl (by decide) rfl ?_
  intro p e s m args below meth c E hr
  have J2 : ∀ n2 : Nat, ∀ (v1 : Mv), Ok G v1 w → Kp G v v1 → Fr G [2, 107] v v1 → ∀ x5 : Int32, Bd x5 0 7 → Mu x5 7 n2 → K_X2_copyFrom_2 G w h0 h_0 n2 v1 x5 = F_X2_copyFrom G w v h0 h_0 → J p l e rm_X2_copyFrom s m args below meth c 0 0 (MQ below (QcV D dA G (fun v1 w1 => Ok G v1 w1 ∧ Kp G v v1 ∧ (w1 = w ∧ v1 = F_X2_copyFrom G w v h0 h_0) ∧ Fr G [2, 107] v v1)) args s 0 0 (dm G)) D dA G (dm G) s.heap 3 v1 w [(0, .ref h0), (1, .ref h_0), (2, .int x5)] 2 [] := by
    intro n2
    induction n2 with
    | zero => intro v1 o2 k3 f4 x5 b6 hm hK; exact hm.zero b6 (by decide)
    | succ n2 ih2 =>
      intro v1 o2 k3 f4 x5 b6 hmu2 hK
      refine J_iload_n E dX2_copyFrom_2 2 rfl ?_
      refine J_bipush E 7 dX2_copyFrom_3 (by decide) ?_
      refine J_icmp_ge E 38 dX2_copyFrom_5 (by decide) (fun c7 => ?_) (fun c7 => ?_)
      · have b8 : Bd x5 7 7 := Bd.le_r c7 (Bd.lit 7 7 (by decide)) b6 7 (by decide)
        refine J_aload_n E dX2_copyFrom_38 0 rfl ?_
        refine J_aload_n E dX2_copyFrom_39 1 rfl ?_
        refine J_getI E in_X2 rfl (S_X2.h S_0) 2 (by decide) wd157 rfl dX2_copyFrom_40 (fun x9 e10 => ?_)
        refine J_pI E in_X2 rfl (S_X2.h S0) 2 (by decide) wd157 tyX2 tyX2_ok nmX2 rfl rfl .int (by decide +kernel) rfl rfl dX2_copyFrom_43 (fun v11 e12 => ?_)
        have o13 : Ok G v11 w := Ok.pf o2 e12 (S_X2.h S0) rfl (Bd.any x9)
        have k14 : Kp G v v11 := Kp.pf k3 e12 (S_X2.h S0) rfl
        have f15 : Fr G [2, 107] v v11 := Fr.st f4 e12 (S_X2.h S0) rfl
        have e16 : x9 = v11 h0 2 := by rw [e12, stv_s]
        refine J_aload_n E dX2_copyFrom_46 0 rfl ?_
        refine J_aload_n E dX2_copyFrom_47 1 rfl ?_
        refine J_getI E in_X2 rfl (S_X2.h S_0) 3 (by decide) wd160 rfl dX2_copyFrom_48 (fun x17 e18 => ?_)
        refine J_pI E in_X2 rfl (S_X2.h S0) 3 (by decide) wd160 tyX2 tyX2_ok nmX2 rfl rfl .int (by decide +kernel) rfl rfl dX2_copyFrom_51 (fun v19 e20 => ?_)
        have o21 : Ok G v19 w := Ok.pf o13 e20 (S_X2.h S0) rfl (Bd.any x17)
        have k22 : Kp G v v19 := Kp.pf k14 e20 (S_X2.h S0) rfl
        have e23 : x9 = v19 h0 2 := by rw [e20, stv_k (by decide)]; exact e16
        have f24 : Fr G [2, 107] v v19 := Fr.st f15 e20 (S_X2.h S0) rfl
        have e25 : x17 = v19 h0 3 := by rw [e20, stv_s]
        exact J_vret E hr dX2_copyFrom_54 ⟨o21, k22, ⟨⟨rfl, ((kx_X2_copyFrom_1 (e10) (e12) (e18) (e20) (c7)).symm.trans hK)⟩, f24⟩⟩
      · have b26 : Bd x5 0 6 := Bd.lt_l (nle c7) b6 (Bd.lit 7 7 (by decide)) 6 (by decide)
        refine J_aload_n E dX2_copyFrom_8 0 rfl ?_
        refine J_getR E in_X2 rfl (S_X2.h S0) 0 (by decide) wd150 rfl dX2_copyFrom_9 ?_
        refine J_iload_n E dX2_copyFrom_12 2 rfl ?_
        refine J_aload_n E dX2_copyFrom_13 1 rfl ?_
        refine J_getR E in_X2 rfl (S_X2.h S_0) 0 (by decide) wd150 rfl dX2_copyFrom_14 ?_
        refine J_iload_n E dX2_copyFrom_17 2 rfl ?_
        refine J_iald1 E (S_X2.f0 S_0) (Bd.in b26 (by decide)) dX2_copyFrom_18 (fun x27 e28 => ?_)
        refine J_iast1 E (S_X2.f0 S0) (Bd.in b26 (by decide)) dX2_copyFrom_19 (fun v29 e30 => ?_)
        have o31 : Ok G v29 w := by rw [e30]; exact Ok.sv o2 (S_X2.f0 S0) b26 (Bd.any x27) 0 7 (by decide) (by decide +kernel)
        have k32 : Kp G v v29 := by rw [e30]; exact Kp.sv k3 (S_X2.f0 S0) b26 0 7 I0 I1 (by decide) (by decide +kernel)
        have f33 : Fr G [2, 107] v v29 := Fr.st f4 e30 (S_X2.f0 S0) rfl
        refine J_aload_n E dX2_copyFrom_20 0 rfl ?_
        refine J_getR E in_X2 rfl (S_X2.h S0) 1 (by decide) wd152 rfl dX2_copyFrom_21 ?_
        refine J_iload_n E dX2_copyFrom_24 2 rfl ?_
        refine J_aload_n E dX2_copyFrom_25 1 rfl ?_
        refine J_getR E in_X2 rfl (S_X2.h S_0) 1 (by decide) wd152 rfl dX2_copyFrom_26 ?_
        refine J_iload_n E dX2_copyFrom_29 2 rfl ?_
        refine J_iald1 E (S_X2.f1 S_0) (Bd.in b26 (by decide)) dX2_copyFrom_30 (fun x34 e35 => ?_)
        refine J_iast1 E (S_X2.f1 S0) (Bd.in b26 (by decide)) dX2_copyFrom_31 (fun v36 e37 => ?_)
        have o38 : Ok G v36 w := by rw [e37]; exact Ok.sv o31 (S_X2.f1 S0) b26 (Bd.any x34) 0 7 (by decide) (by decide +kernel)
        have k39 : Kp G v v36 := by rw [e37]; exact Kp.sv k32 (S_X2.f1 S0) b26 0 7 I0 I1 (by decide) (by decide +kernel)
        have f40 : Fr G [2, 107] v v36 := Fr.st f33 e37 (S_X2.f1 S0) rfl
        refine J_iinc E 2 1 (fun z => [(2, .int z), (0, .ref h0), (1, .ref h_0)]) dX2_copyFrom_32 rfl (by decide) (by decide) (fun _ => rfl) (fun x41 e42 => ?_)
        have b43 : Bd x41 1 7 := (Bd.add e42 b26 (Bd.lit 1 1 (by decide)) (by decide)).w _ _ (by decide)
        refine J_goto E 2 dX2_copyFrom_35 (by decide) ?_
        exact J.sub [1, 2, 0] rfl (ih2 v36 (o38) (k39) f40 x41 (b43.w 0 7 (by decide)) (Mu.step hmu2 e42 b26 (Bd.lit 1 1 (by decide)) (by decide)) ((kx_X2_copyFrom_2 (e28) (e30) (e35) (e37) (e42) (c7)).symm.trans hK))
  have hK : K_X2_copyFrom_e G w v h0 h_0 = F_X2_copyFrom G w v h0 h_0 := rfl
  refine J_iconst E 0 dX2_copyFrom_0 (by decide) ?_
  refine J_istore_n E [(2, .int 0), (0, .ref h0), (1, .ref h_0)] dX2_copyFrom_1 rfl (by decide) rfl ?_
  exact J.sub [1, 2, 0] rfl (J2 8 v (hOk) (Kp.rf) Fr.rf 0 ((Bd.lit 0 0 (by decide)).w 0 7 (by decide)) (Mu.start _ (Bd.lit 0 0 (by decide)) (by decide)) ((kx_X2_copyFrom_3).symm.trans hK))

def K_J6_bitCount_0f7a4_e (G : Gm) (w : Mw) (v : Mv) (x_0 : Int32) : Int32 :=
  ((((((((x_0 - (((Int32.toUInt32 x_0 >>> (Int32.toUInt32 (1 : Int32) &&& Int32.toUInt32 31)).toInt32) &&& (1431655765 : Int32))) &&& (858993459 : Int32)) + (((Int32.toUInt32 (x_0 - (((Int32.toUInt32 x_0 >>> (Int32.toUInt32 (1 : Int32) &&& Int32.toUInt32 31)).toInt32) &&& (1431655765 : Int32))) >>> (Int32.toUInt32 (2 : Int32) &&& Int32.toUInt32 31)).toInt32) &&& (858993459 : Int32))) + ((Int32.toUInt32 (((x_0 - (((Int32.toUInt32 x_0 >>> (Int32.toUInt32 (1 : Int32) &&& Int32.toUInt32 31)).toInt32) &&& (1431655765 : Int32))) &&& (858993459 : Int32)) + (((Int32.toUInt32 (x_0 - (((Int32.toUInt32 x_0 >>> (Int32.toUInt32 (1 : Int32) &&& Int32.toUInt32 31)).toInt32) &&& (1431655765 : Int32))) >>> (Int32.toUInt32 (2 : Int32) &&& Int32.toUInt32 31)).toInt32) &&& (858993459 : Int32))) >>> (Int32.toUInt32 (4 : Int32) &&& Int32.toUInt32 31)).toInt32)) &&& (252645135 : Int32)) + ((Int32.toUInt32 (((((x_0 - (((Int32.toUInt32 x_0 >>> (Int32.toUInt32 (1 : Int32) &&& Int32.toUInt32 31)).toInt32) &&& (1431655765 : Int32))) &&& (858993459 : Int32)) + (((Int32.toUInt32 (x_0 - (((Int32.toUInt32 x_0 >>> (Int32.toUInt32 (1 : Int32) &&& Int32.toUInt32 31)).toInt32) &&& (1431655765 : Int32))) >>> (Int32.toUInt32 (2 : Int32) &&& Int32.toUInt32 31)).toInt32) &&& (858993459 : Int32))) + ((Int32.toUInt32 (((x_0 - (((Int32.toUInt32 x_0 >>> (Int32.toUInt32 (1 : Int32) &&& Int32.toUInt32 31)).toInt32) &&& (1431655765 : Int32))) &&& (858993459 : Int32)) + (((Int32.toUInt32 (x_0 - (((Int32.toUInt32 x_0 >>> (Int32.toUInt32 (1 : Int32) &&& Int32.toUInt32 31)).toInt32) &&& (1431655765 : Int32))) >>> (Int32.toUInt32 (2 : Int32) &&& Int32.toUInt32 31)).toInt32) &&& (858993459 : Int32))) >>> (Int32.toUInt32 (4 : Int32) &&& Int32.toUInt32 31)).toInt32)) &&& (252645135 : Int32)) >>> (Int32.toUInt32 (8 : Int32) &&& Int32.toUInt32 31)).toInt32)) + ((Int32.toUInt32 ((((((x_0 - (((Int32.toUInt32 x_0 >>> (Int32.toUInt32 (1 : Int32) &&& Int32.toUInt32 31)).toInt32) &&& (1431655765 : Int32))) &&& (858993459 : Int32)) + (((Int32.toUInt32 (x_0 - (((Int32.toUInt32 x_0 >>> (Int32.toUInt32 (1 : Int32) &&& Int32.toUInt32 31)).toInt32) &&& (1431655765 : Int32))) >>> (Int32.toUInt32 (2 : Int32) &&& Int32.toUInt32 31)).toInt32) &&& (858993459 : Int32))) + ((Int32.toUInt32 (((x_0 - (((Int32.toUInt32 x_0 >>> (Int32.toUInt32 (1 : Int32) &&& Int32.toUInt32 31)).toInt32) &&& (1431655765 : Int32))) &&& (858993459 : Int32)) + (((Int32.toUInt32 (x_0 - (((Int32.toUInt32 x_0 >>> (Int32.toUInt32 (1 : Int32) &&& Int32.toUInt32 31)).toInt32) &&& (1431655765 : Int32))) >>> (Int32.toUInt32 (2 : Int32) &&& Int32.toUInt32 31)).toInt32) &&& (858993459 : Int32))) >>> (Int32.toUInt32 (4 : Int32) &&& Int32.toUInt32 31)).toInt32)) &&& (252645135 : Int32)) + ((Int32.toUInt32 (((((x_0 - (((Int32.toUInt32 x_0 >>> (Int32.toUInt32 (1 : Int32) &&& Int32.toUInt32 31)).toInt32) &&& (1431655765 : Int32))) &&& (858993459 : Int32)) + (((Int32.toUInt32 (x_0 - (((Int32.toUInt32 x_0 >>> (Int32.toUInt32 (1 : Int32) &&& Int32.toUInt32 31)).toInt32) &&& (1431655765 : Int32))) >>> (Int32.toUInt32 (2 : Int32) &&& Int32.toUInt32 31)).toInt32) &&& (858993459 : Int32))) + ((Int32.toUInt32 (((x_0 - (((Int32.toUInt32 x_0 >>> (Int32.toUInt32 (1 : Int32) &&& Int32.toUInt32 31)).toInt32) &&& (1431655765 : Int32))) &&& (858993459 : Int32)) + (((Int32.toUInt32 (x_0 - (((Int32.toUInt32 x_0 >>> (Int32.toUInt32 (1 : Int32) &&& Int32.toUInt32 31)).toInt32) &&& (1431655765 : Int32))) >>> (Int32.toUInt32 (2 : Int32) &&& Int32.toUInt32 31)).toInt32) &&& (858993459 : Int32))) >>> (Int32.toUInt32 (4 : Int32) &&& Int32.toUInt32 31)).toInt32)) &&& (252645135 : Int32)) >>> (Int32.toUInt32 (8 : Int32) &&& Int32.toUInt32 31)).toInt32)) >>> (Int32.toUInt32 (16 : Int32) &&& Int32.toUInt32 31)).toInt32)) &&& (63 : Int32))
def F_J6_bitCount_0f7a4 (G : Gm) (w : Mw) (v : Mv) (x_0 : Int32) : Int32 := K_J6_bitCount_0f7a4_e G w v x_0
set_option maxRecDepth 100000 in
theorem kx_J6_bitCount_0f7a4_1 {G : Gm} {w : Mw} {v : Mv} {x_0 : Int32} {x34 : Int32} {x1 : Int32} {x3 : Int32} {x6 : Int32} {x11 : Int32} {x8 : Int32} {x13 : Int32} {x16 : Int32} {x19 : Int32} {x21 : Int32} {x23 : Int32} {x26 : Int32} {x28 : Int32} {x30 : Int32} {x32 : Int32} (a0 : x1 = (Int32.toUInt32 x_0 >>> (Int32.toUInt32 (1 : Int32) &&& Int32.toUInt32 31)).toInt32) (a1 : x3 = x1 &&& (1431655765 : Int32)) (a2 : x6 = x_0 - x3) (a3 : x8 = x6 &&& (858993459 : Int32)) (a4 : x11 = (Int32.toUInt32 x6 >>> (Int32.toUInt32 (2 : Int32) &&& Int32.toUInt32 31)).toInt32) (a5 : x13 = x11 &&& (858993459 : Int32)) (a6 : x16 = x8 + x13) (a7 : x19 = (Int32.toUInt32 x16 >>> (Int32.toUInt32 (4 : Int32) &&& Int32.toUInt32 31)).toInt32) (a8 : x21 = x16 + x19) (a9 : x23 = x21 &&& (252645135 : Int32)) (a10 : x26 = (Int32.toUInt32 x23 >>> (Int32.toUInt32 (8 : Int32) &&& Int32.toUInt32 31)).toInt32) (a11 : x28 = x23 + x26) (a12 : x30 = (Int32.toUInt32 x28 >>> (Int32.toUInt32 (16 : Int32) &&& Int32.toUInt32 31)).toInt32) (a13 : x32 = x28 + x30) (a14 : x34 = x32 &&& (63 : Int32))  : K_J6_bitCount_0f7a4_e G w v x_0 = x34 := by
  subst a14; subst a13; subst a12; subst a11; subst a10; subst a9; subst a8; subst a7; subst a6; subst a5; subst a4; subst a3; subst a2; subst a1; subst a0; first | rw [K_J6_bitCount_0f7a4_e] | simp only [K_J6_bitCount_0f7a4_e]
abbrev rm_J6_bitCount_0f7a4 : Room := { frames := 0, cells := 0, slots := 0, locals := 0 }
set_option maxHeartbeats 4000000 in
set_option maxRecDepth 100000 in
theorem ct_J6_bitCount_0f7a4 (l : Launch) (D : va_G) (dA : Nat → ClassId) (G : Gm) (v : Mv) (w : Mw) (hOk : Ok G v w) (x_0 : Int32) : CtI l yJ6_bitCount_0f7a4 cJ6_bitCount_0f7a4 1 (some .int) rm_J6_bitCount_0f7a4 D dA G [.int x_0] v w (fun r v1 w1 => v1 = v ∧ w1 = w ∧ Bd r 0 63 ∧ r = F_J6_bitCount_0f7a4 G w v x_0) := by
  refine CtI.ofF RJ6 [(0, .int x_0)] (Nat.le_of_ble_eq_true rfl) rfl (by decide +kernel) rfl ?_
  intro p e s m args below meth c E hr
  have hK : K_J6_bitCount_0f7a4_e G w v x_0 = F_J6_bitCount_0f7a4 G w v x_0 := rfl
  refine J_iload_n E dJ6_bitCount_0f7a4_0 0 rfl ?_
  refine J_iload_n E dJ6_bitCount_0f7a4_1 0 rfl ?_
  refine J_iconst E 1 dJ6_bitCount_0f7a4_2 (by decide) ?_
  refine J_iushr E dJ6_bitCount_0f7a4_3 (fun x1 e2 => ?_)
  refine J_ldcw E wd628 dJ6_bitCount_0f7a4_4 ?_
  refine J_iand E dJ6_bitCount_0f7a4_7 (fun x3 e4 => ?_)
  have b5 : Bd x3 0 1431655765 := Bd.and_r e4 (Bd.lit 1431655765 1431655765 (by decide)) (by decide)
  refine J_isub E dJ6_bitCount_0f7a4_8 (fun x6 e7 => ?_)
  refine J_istore_n E [(0, .int x6)] dJ6_bitCount_0f7a4_9 rfl (by decide) rfl ?_
  refine J_iload_n E dJ6_bitCount_0f7a4_10 0 rfl ?_
  refine J_ldcw E wd629 dJ6_bitCount_0f7a4_11 ?_
  refine J_iand E dJ6_bitCount_0f7a4_14 (fun x8 e9 => ?_)
  have b10 : Bd x8 0 858993459 := Bd.and_r e9 (Bd.lit 858993459 858993459 (by decide)) (by decide)
  refine J_iload_n E dJ6_bitCount_0f7a4_15 0 rfl ?_
  refine J_iconst E 2 dJ6_bitCount_0f7a4_16 (by decide) ?_
  refine J_iushr E dJ6_bitCount_0f7a4_17 (fun x11 e12 => ?_)
  refine J_ldcw E wd629 dJ6_bitCount_0f7a4_18 ?_
  refine J_iand E dJ6_bitCount_0f7a4_21 (fun x13 e14 => ?_)
  have b15 : Bd x13 0 858993459 := Bd.and_r e14 (Bd.lit 858993459 858993459 (by decide)) (by decide)
  refine J_iadd E dJ6_bitCount_0f7a4_22 (fun x16 e17 => ?_)
  have b18 : Bd x16 0 1717986918 := (Bd.add e17 b10 b15 (by decide)).w _ _ (by decide)
  refine J_istore_n E [(0, .int x16)] dJ6_bitCount_0f7a4_23 rfl (by decide) rfl ?_
  refine J_iload_n E dJ6_bitCount_0f7a4_24 0 rfl ?_
  refine J_iload_n E dJ6_bitCount_0f7a4_25 0 rfl ?_
  refine J_iconst E 4 dJ6_bitCount_0f7a4_26 (by decide) ?_
  refine J_iushr E dJ6_bitCount_0f7a4_27 (fun x19 e20 => ?_)
  refine J_iadd E dJ6_bitCount_0f7a4_28 (fun x21 e22 => ?_)
  refine J_ldcw E wd630 dJ6_bitCount_0f7a4_29 ?_
  refine J_iand E dJ6_bitCount_0f7a4_32 (fun x23 e24 => ?_)
  have b25 : Bd x23 0 252645135 := Bd.and_r e24 (Bd.lit 252645135 252645135 (by decide)) (by decide)
  refine J_istore_n E [(0, .int x23)] dJ6_bitCount_0f7a4_33 rfl (by decide) rfl ?_
  refine J_iload_n E dJ6_bitCount_0f7a4_34 0 rfl ?_
  refine J_iload_n E dJ6_bitCount_0f7a4_35 0 rfl ?_
  refine J_bipush E 8 dJ6_bitCount_0f7a4_36 (by decide) ?_
  refine J_iushr E dJ6_bitCount_0f7a4_38 (fun x26 e27 => ?_)
  refine J_iadd E dJ6_bitCount_0f7a4_39 (fun x28 e29 => ?_)
  refine J_istore_n E [(0, .int x28)] dJ6_bitCount_0f7a4_40 rfl (by decide) rfl ?_
  refine J_iload_n E dJ6_bitCount_0f7a4_41 0 rfl ?_
  refine J_iload_n E dJ6_bitCount_0f7a4_42 0 rfl ?_
  refine J_bipush E 16 dJ6_bitCount_0f7a4_43 (by decide) ?_
  refine J_iushr E dJ6_bitCount_0f7a4_45 (fun x30 e31 => ?_)
  refine J_iadd E dJ6_bitCount_0f7a4_46 (fun x32 e33 => ?_)
  refine J_istore_n E [(0, .int x32)] dJ6_bitCount_0f7a4_47 rfl (by decide) rfl ?_
  refine J_iload_n E dJ6_bitCount_0f7a4_48 0 rfl ?_
  refine J_bipush E 63 dJ6_bitCount_0f7a4_49 (by decide) ?_
  refine J_iand E dJ6_bitCount_0f7a4_51 (fun x34 e35 => ?_)
  have b36 : Bd x34 0 63 := Bd.and_r e35 (Bd.lit 63 63 (by decide)) (by decide)
  exact J_iret E hr dJ6_bitCount_0f7a4_52 ⟨rfl, rfl, b36, ((kx_J6_bitCount_0f7a4_1 (e2) (e4) (e7) (e9) (e12) (e14) (e17) (e20) (e22) (e24) (e27) (e29) (e31) (e33) (e35)).symm.trans hK)⟩

abbrev rm_X2_countHere : Room := { frames := 1, cells := 0, slots := 0, locals := 20 }
set_option maxHeartbeats 4000000 in
set_option maxRecDepth 100000 in
theorem ct_X2_countHere (l : Launch) (D : va_G) (dA : Nat → ClassId) (G : Gm) (v : Mv) (w : Mw) (hOk : Ok G v w) (h0 : Nat) (S0 : S_X2 G h0) : CtI l yX2_countHere cX2_countHere 1 (some .int) rm_X2_countHere D dA G [.ref h0] v w (fun r v1 w1 => v1 = v ∧ w1 = w ∧ True ∧ True) := by
  refine CtI.of RX2 [(0, .ref h0)] (Nat.le_of_ble_eq_true rfl) rfl (by decide) rfl ?_
  intro p e s m args below meth c E hr
  refine J_aload_n E dX2_countHere_0 0 rfl ?_
  refine J_getI E in_X2 rfl (S_X2.h S0) 2 (by decide) wd157 rfl dX2_countHere_1 (fun x1 e2 => ?_)
  refine J_callSI E cal_J6_bitCount_0f7a4 wd625 [.int x1] [] (ct_J6_bitCount_0f7a4 l D dA G v w (hOk) x1) rfl rfl (Nat.le_of_ble_eq_true rfl) ⟨rfl, rfl⟩ ⟨Nat.le_of_ble_eq_true rfl, Nat.le_of_ble_eq_true rfl⟩ dX2_countHere_4 (fun x6 v3 w4 p5 => ?_)
  rw [p5.1, p5.2.1]
  have b7 : Bd x6 0 63 := p5.2.2.1
  exact J_iret E hr dX2_countHere_7 ⟨rfl, rfl, trivial, trivial⟩

def K_X2_lose_e (G : Gm) (w : Mw) (v : Mv) (h0 : Nat) (x_0 : Int32) : Mv :=
  (stv (stv v h0 2 ((v h0 2) &&& (((1 : Int32) <<< (x_0 &&& 31)) ^^^ (-1 : Int32)))) (rf G h0 1) (Int32.toNatClampNeg x_0) (-1 : Int32))
def F_X2_lose (G : Gm) (w : Mw) (v : Mv) (h0 : Nat) (x_0 : Int32) : Mv := K_X2_lose_e G w v h0 x_0
set_option maxRecDepth 100000 in
theorem kx_X2_lose_1 {G : Gm} {w : Mw} {v : Mv} {h0 : Nat} {x_0 : Int32} {v16 : Mv} {x3 : Int32} {x1 : Int32} {x6 : Int32} {x8 : Int32} {v10 : Mv} (a0 : x1 = v h0 2) (a1 : x3 = (1 : Int32) <<< (x_0 &&& 31)) (a2 : x6 = x3 ^^^ (-1 : Int32)) (a3 : x8 = x1 &&& x6) (a4 : v10 = stv v h0 2 x8) (a5 : v16 = stv v10 (rf G h0 1) (Int32.toNatClampNeg x_0) (-1 : Int32))  : K_X2_lose_e G w v h0 x_0 = v16 := by
  subst a5; subst a4; subst a3; subst a2; subst a1; subst a0; first | rw [K_X2_lose_e] | simp only [K_X2_lose_e]
abbrev rm_X2_lose : Room := { frames := 0, cells := 0, slots := 0, locals := 0 }
set_option maxHeartbeats 4000000 in
set_option maxRecDepth 100000 in
theorem ct_X2_lose (l : Launch) (D : va_G) (dA : Nat → ClassId) (G : Gm) (v : Mv) (w : Mw) (hOk : Ok G v w) (h0 : Nat) (S0 : S_X2 G h0) (x_0 : Int32) (bx_0 : Bd x_0 0 6) : CtV l yX2_lose cX2_lose 2 none rm_X2_lose D dA G [.ref h0, .int x_0] v w (fun v1 w1 => Ok G v1 w1 ∧ Kp G v v1 ∧ (w1 = w ∧ v1 = F_X2_lose G w v h0 x_0) ∧ Fr G [2, 107] v v1) := by
  refine CtV.of RX2 [(0, .ref h0), (1, .int x_0)] (Nat.le_of_ble_eq_true rfl) rfl (by decide) rfl ?_
  intro p e s m args below meth c E hr
  have hK : K_X2_lose_e G w v h0 x_0 = F_X2_lose G w v h0 x_0 := rfl
  refine J_aload_n E dX2_lose_0 0 rfl ?_
  refine J_dup E dX2_lose_1 rfl ?_
  refine J_getI E in_X2 rfl (S_X2.h S0) 2 (by decide) wd157 rfl dX2_lose_2 (fun x1 e2 => ?_)
  refine J_iconst E 1 dX2_lose_5 (by decide) ?_
  refine J_iload_n E dX2_lose_6 1 rfl ?_
  refine J_ishl E dX2_lose_7 (fun x3 e4 => ?_)
  have b5 : Bd x3 1 64 := Bd.shl1 e4 bx_0 6 (by decide)
  refine J_iconst E (-1) dX2_lose_8 (by decide) ?_
  refine J_ixor E dX2_lose_9 (fun x6 e7 => ?_)
  refine J_iand E dX2_lose_10 (fun x8 e9 => ?_)
  refine J_pI E in_X2 rfl (S_X2.h S0) 2 (by decide) wd157 tyX2 tyX2_ok nmX2 rfl rfl .int (by decide +kernel) rfl rfl dX2_lose_11 (fun v10 e11 => ?_)
  have o12 : Ok G v10 w := Ok.pf hOk e11 (S_X2.h S0) rfl (Bd.any x8)
  have k13 : Kp G v v10 := Kp.pf Kp.rf e11 (S_X2.h S0) rfl
  have f14 : Fr G [2, 107] v v10 := Fr.st Fr.rf e11 (S_X2.h S0) rfl
  have e15 : x8 = v10 h0 2 := by rw [e11, stv_s]
  refine J_aload_n E dX2_lose_14 0 rfl ?_
  refine J_getR E in_X2 rfl (S_X2.h S0) 1 (by decide) wd152 rfl dX2_lose_15 ?_
  refine J_iload_n E dX2_lose_18 1 rfl ?_
  refine J_iconst E (-1) dX2_lose_19 (by decide) ?_
  refine J_iast1 E (S_X2.f1 S0) (Bd.in bx_0 (by decide)) dX2_lose_20 (fun v16 e17 => ?_)
  have o18 : Ok G v16 w := by rw [e17]; exact Ok.sv o12 (S_X2.f1 S0) bx_0 (Bd.lit (-1) (-1) (by decide)) 0 7 (by decide) (by decide +kernel)
  have k19 : Kp G v v16 := by rw [e17]; exact Kp.sv k13 (S_X2.f1 S0) bx_0 0 7 (-1) (-1) (by decide) (by decide +kernel)
  have f20 : Fr G [2, 107] v v16 := Fr.st f14 e17 (S_X2.f1 S0) rfl
  have e21 : x8 = v16 h0 2 := by rw [e17, stv_a (tg_ne (S_X2.h S0) ((S_X2.f1 S0)) rfl)]; exact e15
  exact J_vret E hr dX2_lose_21 ⟨o18, k19, ⟨⟨rfl, ((kx_X2_lose_1 (e2) (e4) (e7) (e9) (e11) (e17)).symm.trans hK)⟩, f20⟩⟩

def K_X2_growOlder_e (G : Gm) (w : Mw) (v : Mv) (h0 : Nat) (x_0 : Int32) : Mv :=
  (stv v (rf G h0 0) (Int32.toNatClampNeg x_0) (F_J9_min_7cf53 G w v (99 : Int32) ((v (rf G h0 0) (Int32.toNatClampNeg x_0)) + (1 : Int32))))
def F_X2_growOlder (G : Gm) (w : Mw) (v : Mv) (h0 : Nat) (x_0 : Int32) : Mv := K_X2_growOlder_e G w v h0 x_0
set_option maxRecDepth 100000 in
theorem kx_X2_growOlder_1 {G : Gm} {w : Mw} {v : Mv} {h0 : Nat} {x_0 : Int32} {v10 : Mv} {x1 : Int32} {x3 : Int32} {x8 : Int32} (a0 : x1 = v (rf G h0 0) (Int32.toNatClampNeg x_0)) (a1 : x3 = x1 + (1 : Int32)) (a2 : x8 = F_J9_min_7cf53 G w v (99 : Int32) x3) (a3 : v10 = stv v (rf G h0 0) (Int32.toNatClampNeg x_0) x8)  : K_X2_growOlder_e G w v h0 x_0 = v10 := by
  subst a3; subst a2; subst a1; subst a0; first | rw [K_X2_growOlder_e] | simp only [K_X2_growOlder_e]
abbrev rm_X2_growOlder : Room := { frames := 1, cells := 0, slots := 0, locals := 21 }
set_option maxHeartbeats 4000000 in
set_option maxRecDepth 100000 in
theorem ct_X2_growOlder (l : Launch) (D : va_G) (dA : Nat → ClassId) (G : Gm) (v : Mv) (w : Mw) (hOk : Ok G v w) (h0 : Nat) (S0 : S_X2 G h0) (x_0 : Int32) (bx_0 : Bd x_0 0 6) : CtV l yX2_growOlder cX2_growOlder 2 none rm_X2_growOlder D dA G [.ref h0, .int x_0] v w (fun v1 w1 => Ok G v1 w1 ∧ Kp G v v1 ∧ (w1 = w ∧ v1 = F_X2_growOlder G w v h0 x_0) ∧ Fr G [107] v v1) := by
  refine CtV.of RX2 [(0, .ref h0), (1, .int x_0)] (Nat.le_of_ble_eq_true rfl) rfl (by decide) rfl ?_
  intro p e s m args below meth c E hr
  have hK : K_X2_growOlder_e G w v h0 x_0 = F_X2_growOlder G w v h0 x_0 := rfl
  refine J_aload_n E dX2_growOlder_0 0 rfl ?_
  refine J_getR E in_X2 rfl (S_X2.h S0) 0 (by decide) wd150 rfl dX2_growOlder_1 ?_
  refine J_iload_n E dX2_growOlder_4 1 rfl ?_
  refine J_bipush E 99 dX2_growOlder_5 (by decide) ?_
  refine J_aload_n E dX2_growOlder_7 0 rfl ?_
  refine J_getR E in_X2 rfl (S_X2.h S0) 0 (by decide) wd150 rfl dX2_growOlder_8 ?_
  refine J_iload_n E dX2_growOlder_11 1 rfl ?_
  refine J_iald1 E (S_X2.f0 S0) (Bd.in bx_0 (by decide)) dX2_growOlder_12 (fun x1 e2 => ?_)
  refine J_iconst E 1 dX2_growOlder_13 (by decide) ?_
  refine J_iadd E dX2_growOlder_14 (fun x3 e4 => ?_)
  refine J_callSI E cal_J9_min_7cf53 wd558 [.int 99, .int x3] [.int x_0, .ref (rf G h0 0)] (ct_J9_min_7cf53 l D dA G v w (hOk) 99 x3) rfl rfl (Nat.le_of_ble_eq_true rfl) ⟨rfl, rfl⟩ ⟨Nat.le_of_ble_eq_true rfl, Nat.le_of_ble_eq_true rfl⟩ dX2_growOlder_15 (fun x8 v5 w6 p7 => ?_)
  rw [p7.1, p7.2.1]
  have e9 : x8 = F_J9_min_7cf53 G w v (99 : Int32) x3 := (p7.2.2.2)
  refine J_iast1 E (S_X2.f0 S0) (Bd.in bx_0 (by decide)) dX2_growOlder_18 (fun v10 e11 => ?_)
  have o12 : Ok G v10 w := by rw [e11]; exact Ok.sv hOk (S_X2.f0 S0) bx_0 (Bd.any x8) 0 7 (by decide) (by decide +kernel)
  have k13 : Kp G v v10 := by rw [e11]; exact Kp.sv Kp.rf (S_X2.f0 S0) bx_0 0 7 I0 I1 (by decide) (by decide +kernel)
  have f14 : Fr G [107] v v10 := Fr.st Fr.rf e11 (S_X2.f0 S0) rfl
  exact J_vret E hr dX2_growOlder_19 ⟨o12, k13, ⟨⟨rfl, ((kx_X2_growOlder_1 (e2) (e4) (e9) (e11)).symm.trans hK)⟩, f14⟩⟩

def K_X3_append_e (G : Gm) (w : Mw) (v : Mv) (h0 : Nat) (x_0 : Int32) : Int32 × Mv :=
  (((v h0 1) + (1 : Int32)), (stv (stv v (rf G h0 0) (Int32.toNatClampNeg (v h0 1)) x_0) h0 1 ((v h0 1) + (1 : Int32))))
def F_X3_append (G : Gm) (w : Mw) (v : Mv) (h0 : Nat) (x_0 : Int32) : Int32 × Mv := K_X3_append_e G w v h0 x_0
set_option maxRecDepth 100000 in
theorem kx_X3_append_1 {G : Gm} {w : Mw} {v : Mv} {h0 : Nat} {x_0 : Int32} {x11 : Int32} {v14 : Mv} {z_0 : Int32} {v3 : Mv} (a0 : z_0 = v h0 1) (a1 : v3 = stv v (rf G h0 0) (Int32.toNatClampNeg z_0) x_0) (a2 : x11 = z_0 + (1 : Int32)) (a3 : v14 = stv v3 h0 1 x11)  : K_X3_append_e G w v h0 x_0 = (x11, v14) := by
  subst a3; subst a2; subst a1; subst a0; first | rw [K_X3_append_e] | simp only [K_X3_append_e]
abbrev rm_X3_append : Room := { frames := 0, cells := 0, slots := 0, locals := 0 }
set_option maxHeartbeats 4000000 in
set_option maxRecDepth 100000 in
theorem ct_X3_append (l : Launch) (D : va_G) (dA : Nat → ClassId) (G : Gm) (v : Mv) (w : Mw) (hOk : Ok G v w) (h0 : Nat) (S0 : S_X3 G h0) (x_0 : Int32) (bx_0 : Bd x_0 0 127) (z_0 : Int32) (ez_0 : z_0 = v h0 1) (pre0 : Bd z_0 0 149) : CtI l yX3_append cX3_append 2 (some .int) rm_X3_append D dA G [.ref h0, .int x_0] v w (fun r v1 w1 => Ok G v1 w1 ∧ True ∧ Bd r 1 150 ∧ (w1 = w ∧ (r, v1) = F_X3_append G w v h0 x_0) ∧ Fr G [3, 250] v v1) := by
  refine CtI.of RX3 [(0, .ref h0), (1, .int x_0)] (Nat.le_of_ble_eq_true rfl) rfl (by decide) rfl ?_
  intro p e s m args below meth c E hr
  have hK : K_X3_append_e G w v h0 x_0 = F_X3_append G w v h0 x_0 := rfl
  refine J_aload_n E dX3_append_0 0 rfl ?_
  refine J_getR E in_X3 rfl (S_X3.h S0) 0 (by decide) wd252 rfl dX3_append_1 ?_
  refine J_aload_n E dX3_append_4 0 rfl ?_
  refine J_getI E in_X3 rfl (S_X3.h S0) 1 (by decide) wd253 rfl dX3_append_5 (fun x1 e2 => ?_)
  rw [show x1 = z_0 from e2.trans (ez_0).symm]
  refine J_iload_n E dX3_append_8 1 rfl ?_
  refine J_iast1 E (S_X3.f0 S0) (Bd.in pre0 (by decide)) dX3_append_9 (fun v3 e4 => ?_)
  have o5 : Ok G v3 w := by rw [e4]; exact Ok.sw hOk (S_X3.f0 S0) pre0 bx_0 0 150 (by decide) (by decide +kernel)
  have k6 : True := trivial
  have f7 : Fr G [3, 250] v v3 := Fr.st Fr.rf e4 (S_X3.f0 S0) rfl
  have e8 : z_0 = v3 h0 1 := by rw [e4, stv_a (tg_ne (S_X3.h S0) ((S_X3.f0 S0)) rfl)]; exact ez_0
  refine J_aload_n E dX3_append_10 0 rfl ?_
  refine J_dup E dX3_append_11 rfl ?_
  refine J_getI E in_X3 rfl (S_X3.h S0) 1 (by decide) wd253 rfl dX3_append_12 (fun x9 e10 => ?_)
  rw [show x9 = z_0 from e10.trans (e8).symm]
  refine J_iconst E 1 dX3_append_15 (by decide) ?_
  refine J_iadd E dX3_append_16 (fun x11 e12 => ?_)
  have b13 : Bd x11 1 150 := (Bd.add e12 pre0 (Bd.lit 1 1 (by decide)) (by decide)).w _ _ (by decide)
  refine J_pI E in_X3 rfl (S_X3.h S0) 1 (by decide) wd253 tyX3 tyX3_ok nmX3 rfl rfl .int (by decide +kernel) rfl rfl dX3_append_17 (fun v14 e15 => ?_)
  have o16 : Ok G v14 w := Ok.pf o5 e15 (S_X3.h S0) rfl (b13.w 0 150 (by decide))
  have f18 : Fr G [3, 250] v v14 := Fr.st f7 e15 (S_X3.h S0) rfl
  have e19 : x11 = v14 h0 1 := by rw [e15, stv_s]
  refine J_aload_n E dX3_append_20 0 rfl ?_
  refine J_getI E in_X3 rfl (S_X3.h S0) 1 (by decide) wd253 rfl dX3_append_21 (fun x20 e21 => ?_)
  rw [show x20 = x11 from e21.trans (e19).symm]
  exact J_iret E hr dX3_append_24 ⟨o16, trivial, b13, ⟨⟨rfl, ((kx_X3_append_1 (ez_0) (e4) (e12) (e15)).symm.trans hK)⟩, f18⟩⟩
