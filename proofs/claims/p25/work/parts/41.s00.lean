def K_X3_isWord_28 (G : Gm) (w : Mw) (v : Mv) (h0 i : Nat) : Nat → Int32 → Int32
  | 0, _ => 0
  | n + 1, k => if nI (sLen.getD i 0) ≤ k then 1 else if v (rf G h0 0) (Int32.toNatClampNeg (v h0 4 + k)) = sCh i k then K_X3_isWord_28 G w v h0 i n (k + 1) else 0
def F_X3_isWord (G : Gm) (w : Mw) (v : Mv) (h0 i : Nat) : Int32 := if v h0 3 = 1 then (if v h0 2 - v h0 4 = nI (sLen.getD i 0) then K_X3_isWord_28 G w v h0 i 7 0 else 0) else 0
abbrev rm_X3_isWord : Room := { frames := 4, cells := 0, slots := 0, locals := 85 }
set_option maxHeartbeats 4000000 in
set_option maxRecDepth 100000 in
theorem ct_X3_isWord (l : Launch) (D : va_G) (dA : Nat → ClassId) (G : Gm) (v : Mv) (w : Mw) (hOk : Ok G v w) (adK adV : Nat → Nat) (h0 : Nat) (S0 : S_X3 G h0) (i : Nat) (hi : i < 6) : CtIS l yX3_isWord cX3_isWord 3 (some .boolean) rm_X3_isWord D dA G [.ref h0, .ref (adK i)] v w adK adV (fun r v1 w1 => v1 = v ∧ w1 = w ∧ Bd r 0 1 ∧ r = F_X3_isWord G w v h0 i) := by
  refine CtIS.of RX3 [(0, .ref h0), (1, .ref (adK i))] (Nat.le_of_ble_eq_true rfl) rfl (by decide) rfl ?_
  intro p e s m args below meth c E hr hX hR
  obtain ⟨xs, es⟩ : ∃ z : Int32, z = v h0 4 := ⟨_, rfl⟩
  obtain ⟨xp, ep⟩ : ∃ z : Int32, z = v h0 2 := ⟨_, rfl⟩
  have bs : Bd xs 0 150 := Ok.fd hOk es (S_X3.h S0) rfl
  have bp : Bd xp 0 150 := Ok.fd hOk ep (S_X3.h S0) rfl
  obtain ⟨-, tL, t3, t6⟩ := sLen_tab i hi
  have J28 : (xs.toInt + (sLen.getD i 0 : Int) ≤ 150) → ∀ n : Nat, ∀ k : Int32, Bd k 0 6 → Mu k 6 n → K_X3_isWord_28 G w v h0 i n k = F_X3_isWord G w v h0 i → J p l e rm_X3_isWord s m args below meth c 0 0 (MQ below (QcI D dA G (fun r v1 w1 => v1 = v ∧ w1 = w ∧ Bd r 0 1 ∧ r = F_X3_isWord G w v h0 i)) args s 0 0 (dm G)) D dA G (dm G) s.heap 3 v w [(0, .ref h0), (1, .ref (adK i)), (2, .int k)] 28 [] := by
    intro hrel n
    induction n with
    | zero => intro k bk hm hK; exact hm.zero bk (by decide)
    | succ n ih28 =>
      intro k bk hmu hK
      refine J_iload_n E dX3_isWord_28 2 rfl ?_
      refine J_aload_n E dX3_isWord_29 1 rfl ?_
      refine J_csVI E hX hR cal_J0_length_8abf5 wd423 (rc_str hX hi) [] [.int k] (cs_length l D dA G v w adK adV hi) rfl rfl (Nat.le_of_ble_eq_true rfl) ⟨rfl, rfl⟩ ⟨Nat.le_of_ble_eq_true rfl, Nat.le_of_ble_eq_true rfl⟩ dX3_isWord_30 (fun r v1 w1 hp => ?_)
      rw [hp.1, hp.2.1, hp.2.2]
      refine J_icmp_ge E 63 dX3_isWord_33 (by decide) (fun c1 => ?_) (fun c1 => ?_)
      · refine J_iconst E 1 dX3_isWord_63 (by decide) ?_
        exact J_zret E hr (Bd.z (Bd.lit 1 1 (by decide)) (by decide)) dX3_isWord_64 ⟨rfl, rfl, (Bd.lit 1 1 (by decide)).w 0 1 (by decide), (by rw [← hK, K_X3_isWord_28, if_pos c1])⟩
      · have hk : k < nI (sLen.getD i 0) := nle c1
        have hk2 : k.toInt < (sLen.getD i 0 : Int) := by rw [← tL]; exact Int32.lt_iff_toInt_lt.mp hk
        have bk5 : Bd k 0 5 := ⟨bk.1, by omega⟩
        refine J_aload_n E dX3_isWord_36 0 rfl ?_
        refine J_getR E in_X3 rfl (S_X3.h S0) 0 (by decide) wd252 rfl dX3_isWord_37 ?_
        refine J_aload_n E dX3_isWord_40 0 rfl ?_
        refine J_getI E in_X3 rfl (S_X3.h S0) 4 (by decide) wd257 rfl dX3_isWord_41 (fun x1 e1 => ?_)
        rw [show x1 = xs from e1.trans es.symm]
        refine J_iload_n E dX3_isWord_44 2 rfl ?_
        refine J_iadd E dX3_isWord_45 (fun x2 e2 => ?_)
        have b2 : Bd x2 0 149 := by
          obtain ⟨q1, q2⟩ := bs
          obtain ⟨q3, q4⟩ := bk
          have q5 : x2.toInt = xs.toInt + k.toInt := by rw [e2, fb_addI (by omega) (by omega)]
          unfold Bd
          omega
        refine J_iald1 E (S_X3.f0 S0) (Bd.in b2 (by decide)) dX3_isWord_46 (fun x3 e3 => ?_)
        refine J_aload_n E dX3_isWord_47 1 rfl ?_
        refine J_iload_n E dX3_isWord_48 2 rfl ?_
        refine J_csVI E hX hR cal_J0_charAt_5068e wd433 (rc_str hX hi) [.int k] [.int x3] (cs_charAt l D dA G v w adK adV hi k (by rw [Int32.le_iff_toInt_le]; exact bk.1) hk) rfl rfl (Nat.le_of_ble_eq_true rfl) ⟨rfl, rfl⟩ ⟨Nat.le_of_ble_eq_true rfl, Nat.le_of_ble_eq_true rfl⟩ dX3_isWord_49 (fun r2 v2 w2 hp2 => ?_)
        rw [hp2.1, hp2.2.1, hp2.2.2]
        refine J_icmp_eq E 57 dX3_isWord_52 (by decide) (fun c4 => ?_) (fun c4 => ?_)
        · refine J_iinc E 2 1 (fun z => [(2, .int z), (0, .ref h0), (1, .ref (adK i))]) dX3_isWord_57 rfl (by decide) (by decide) (fun _ => rfl) (fun x5 e5 => ?_)
          have b5 : Bd x5 1 6 := (Bd.add e5 bk5 (Bd.lit 1 1 (by decide)) (by decide)).w _ _ (by decide)
          refine J_goto E 28 dX3_isWord_60 (by decide) ?_
          exact J.sub [1, 2, 0] rfl (ih28 x5 (b5.w 0 6 (by decide)) (Mu.step hmu e5 bk5 (Bd.lit 1 1 (by decide)) (by decide)) (by rw [← hK, K_X3_isWord_28, if_neg c1, if_pos (by rw [← es, ← e2, ← e3]; exact c4), e5]))
        · refine J_iconst E 0 dX3_isWord_55 (by decide) ?_
          exact J_zret E hr (Bd.z (Bd.lit 0 0 (by decide)) (by decide)) dX3_isWord_56 ⟨rfl, rfl, (Bd.lit 0 0 (by decide)).w 0 1 (by decide), (by rw [← hK, K_X3_isWord_28, if_neg c1, if_neg (by rw [← es, ← e2, ← e3]; exact c4)])⟩
  refine J_aload_n E dX3_isWord_0 0 rfl ?_
  refine J_getI E in_X3 rfl (S_X3.h S0) 3 (by decide) wd256 rfl dX3_isWord_1 (fun x6 e6 => ?_)
  refine J_iconst E 1 dX3_isWord_4 (by decide) ?_
  refine J_icmp_ne E 24 dX3_isWord_5 (by decide) (fun c7 => ?_) (fun c7 => ?_)
  · refine J_iconst E 0 dX3_isWord_24 (by decide) ?_
    exact J_zret E hr (Bd.z (Bd.lit 0 0 (by decide)) (by decide)) dX3_isWord_25 ⟨rfl, rfl, (Bd.lit 0 0 (by decide)).w 0 1 (by decide), (by unfold F_X3_isWord; rw [if_neg (by rw [← e6]; exact c7)])⟩
  · refine J_aload_n E dX3_isWord_8 0 rfl ?_
    refine J_getI E in_X3 rfl (S_X3.h S0) 2 (by decide) wd255 rfl dX3_isWord_9 (fun x8 e8 => ?_)
    rw [show x8 = xp from e8.trans ep.symm]
    refine J_aload_n E dX3_isWord_12 0 rfl ?_
    refine J_getI E in_X3 rfl (S_X3.h S0) 4 (by decide) wd257 rfl dX3_isWord_13 (fun x9 e9 => ?_)
    rw [show x9 = xs from e9.trans es.symm]
    refine J_isub E dX3_isWord_16 (fun x10 e10 => ?_)
    refine J_aload_n E dX3_isWord_17 1 rfl ?_
    refine J_csVI E hX hR cal_J0_length_8abf5 wd423 (rc_str hX hi) [] [.int x10] (cs_length l D dA G v w adK adV hi) rfl rfl (Nat.le_of_ble_eq_true rfl) ⟨rfl, rfl⟩ ⟨Nat.le_of_ble_eq_true rfl, Nat.le_of_ble_eq_true rfl⟩ dX3_isWord_18 (fun r v1 w1 hp => ?_)
    rw [hp.1, hp.2.1, hp.2.2]
    refine J_icmp_eq E 26 dX3_isWord_21 (by decide) (fun c11 => ?_) (fun c11 => ?_)
    · have hrel : xs.toInt + (sLen.getD i 0 : Int) ≤ 150 := by
        obtain ⟨q1, q2⟩ := bs
        obtain ⟨q3, q4⟩ := bp
        have q5 : x10.toInt = xp.toInt - xs.toInt := by rw [e10, fb_subI (by omega) (by omega)]
        rw [c11, tL] at q5
        omega
      refine J_iconst E 0 dX3_isWord_26 (by decide) ?_
      refine J_istore_n E [(2, .int 0), (0, .ref h0), (1, .ref (adK i))] dX3_isWord_27 rfl (by decide) rfl ?_
      exact J.sub [1, 2, 0] rfl (J28 hrel 7 0 ((Bd.lit 0 0 (by decide)).w 0 6 (by decide)) (Mu.start _ (Bd.lit 0 0 (by decide)) (by decide)) (by unfold F_X3_isWord; rw [if_pos (by rw [← e6]; exact c7), if_pos (by rw [← ep, ← es, ← e10]; exact c11)]))
    · refine J_iconst E 0 dX3_isWord_24 (by decide) ?_
      exact J_zret E hr (Bd.z (Bd.lit 0 0 (by decide)) (by decide)) dX3_isWord_25 ⟨rfl, rfl, (Bd.lit 0 0 (by decide)).w 0 1 (by decide), (by unfold F_X3_isWord; rw [if_pos (by rw [← e6]; exact c7), if_neg (by rw [← ep, ← es, ← e10]; exact c11)])⟩

def K_X3_takeItem_c1 (G : Gm) (w : Mw) (h0 : Nat) (v44 : Mv) (x47 : Int32) : Int32 × Mv :=
  if x47 = (0 : Int32) then (((0 : Int32), v44)) else (((1 : Int32), v44))
def K_X3_takeItem_c2 (G : Gm) (w : Mw) (h0 : Nat) (v58 : Mv) (x61 : Int32) : Int32 × Mv :=
  (x61, v58)
def K_X3_takeItem_c3 (G : Gm) (w : Mw) (h0 : Nat) (v69 : Mv) (x72 : Int32) : Int32 × Mv :=
  (x72, v69)
def K_X3_takeItem_c4 (G : Gm) (w : Mw) (h0 : Nat) (v80 : Mv) (x83 : Int32) : Int32 × Mv :=
  (x83, v80)
def K_X3_takeItem_c5 (G : Gm) (w : Mw) (h0 : Nat) (v91 : Mv) (x94 : Int32) : Int32 × Mv :=
  (x94, v91)
def K_X3_takeItem_e (G : Gm) (w : Mw) (v : Mv) (h0 : Nat) (x_0 : Int32) : Int32 × Mv :=
  if x_0 = (0 : Int32) then (if (F_X3_isWord G w v h0 1) = (0 : Int32) then (if (F_X3_isWord G w v h0 2) = (0 : Int32) then (if (F_X3_isWord G w v h0 3) = (0 : Int32) then (if (F_X3_isWord G w v h0 4) = (0 : Int32) then (if (F_X3_isWord G w v h0 5) = (0 : Int32) then (((0 : Int32), v)) else (K_X3_takeItem_c1 G w h0 ((F_X3_takeYears G w v h0).2) ((F_X3_takeYears G w v h0).1))) else (K_X3_takeItem_c2 G w h0 ((F_X3_takeLeave G w v h0).2) ((F_X3_takeLeave G w v h0).1))) else (K_X3_takeItem_c3 G w h0 ((F_X3_takeOwn G w v h0).2) ((F_X3_takeOwn G w v h0).1))) else (K_X3_takeItem_c4 G w h0 ((F_X3_takeOne G w v h0).2) ((F_X3_takeOne G w v h0).1))) else (K_X3_takeItem_c5 G w h0 ((F_X3_takeThing G w v h0).2) ((F_X3_takeThing G w v h0).1))) else (((F_X3_isWord G w v h0 0), v))
def F_X3_takeItem (G : Gm) (w : Mw) (v : Mv) (h0 : Nat) (x_0 : Int32) : Int32 × Mv := K_X3_takeItem_e G w v h0 x_0
set_option maxRecDepth 100000 in
theorem kx_X3_takeItem_1 {G : Gm} {w : Mw} {v : Mv} {h0 : Nat} {x_0 : Int32} {x6 : Int32} {x14 : Int32} {x22 : Int32} {x30 : Int32} {x38 : Int32} (a0 : x6 = F_X3_isWord G w v h0 1) (a1 : x14 = F_X3_isWord G w v h0 2) (a2 : x22 = F_X3_isWord G w v h0 3) (a3 : x30 = F_X3_isWord G w v h0 4) (a4 : x38 = F_X3_isWord G w v h0 5) (k0 : x_0 = (0 : Int32)) (k1 : x6 = (0 : Int32)) (k2 : x14 = (0 : Int32)) (k3 : x22 = (0 : Int32)) (k4 : x30 = (0 : Int32)) (k5 : x38 = (0 : Int32)) : K_X3_takeItem_e G w v h0 x_0 = ((0 : Int32), v) := by
  subst a4; subst a3; subst a2; subst a1; subst a0; first | rw [K_X3_takeItem_e, if_pos k0, if_pos k1, if_pos k2, if_pos k3, if_pos k4, if_pos k5] | simp only [K_X3_takeItem_e, if_pos k0, if_pos k1, if_pos k2, if_pos k3, if_pos k4, if_pos k5]
set_option maxRecDepth 100000 in
theorem kx_X3_takeItem_2 {G : Gm} {w : Mw} {v : Mv} {h0 : Nat} {x_0 : Int32} {v44 : Mv} {x47 : Int32} {x6 : Int32} {x14 : Int32} {x22 : Int32} {x30 : Int32} {x38 : Int32} (a0 : x6 = F_X3_isWord G w v h0 1) (a1 : x14 = F_X3_isWord G w v h0 2) (a2 : x22 = F_X3_isWord G w v h0 3) (a3 : x30 = F_X3_isWord G w v h0 4) (a4 : x38 = F_X3_isWord G w v h0 5) (a5 : x47 = (F_X3_takeYears G w v h0).1) (a6 : v44 = (F_X3_takeYears G w v h0).2) (k0 : x_0 = (0 : Int32)) (k1 : x6 = (0 : Int32)) (k2 : x14 = (0 : Int32)) (k3 : x22 = (0 : Int32)) (k4 : x30 = (0 : Int32)) (k5 : ¬ (x38 = (0 : Int32))) : K_X3_takeItem_e G w v h0 x_0 = K_X3_takeItem_c1 G w h0 v44 x47 := by
  subst a6; subst a5; subst a4; subst a3; subst a2; subst a1; subst a0; first | rw [K_X3_takeItem_e, if_pos k0, if_pos k1, if_pos k2, if_pos k3, if_pos k4, if_neg k5] | simp only [K_X3_takeItem_e, if_pos k0, if_pos k1, if_pos k2, if_pos k3, if_pos k4, if_neg k5]
set_option maxRecDepth 100000 in
theorem kx_X3_takeItem_3 {G : Gm} {w : Mw} {h0 : Nat} {v44 : Mv} {x47 : Int32}  (k0 : x47 = (0 : Int32)) : K_X3_takeItem_c1 G w h0 v44 x47 = ((0 : Int32), v44) := by
  first | rw [K_X3_takeItem_c1, if_pos k0] | simp only [K_X3_takeItem_c1, if_pos k0]
set_option maxRecDepth 100000 in
theorem kx_X3_takeItem_4 {G : Gm} {w : Mw} {h0 : Nat} {v44 : Mv} {x47 : Int32}  (k0 : ¬ (x47 = (0 : Int32))) : K_X3_takeItem_c1 G w h0 v44 x47 = ((1 : Int32), v44) := by
  first | rw [K_X3_takeItem_c1, if_neg k0] | simp only [K_X3_takeItem_c1, if_neg k0]
set_option maxRecDepth 100000 in
theorem kx_X3_takeItem_5 {G : Gm} {w : Mw} {v : Mv} {h0 : Nat} {x_0 : Int32} {v58 : Mv} {x61 : Int32} {x6 : Int32} {x14 : Int32} {x22 : Int32} {x30 : Int32} (a0 : x6 = F_X3_isWord G w v h0 1) (a1 : x14 = F_X3_isWord G w v h0 2) (a2 : x22 = F_X3_isWord G w v h0 3) (a3 : x30 = F_X3_isWord G w v h0 4) (a4 : x61 = (F_X3_takeLeave G w v h0).1) (a5 : v58 = (F_X3_takeLeave G w v h0).2) (k0 : x_0 = (0 : Int32)) (k1 : x6 = (0 : Int32)) (k2 : x14 = (0 : Int32)) (k3 : x22 = (0 : Int32)) (k4 : ¬ (x30 = (0 : Int32))) : K_X3_takeItem_e G w v h0 x_0 = K_X3_takeItem_c2 G w h0 v58 x61 := by
  subst a5; subst a4; subst a3; subst a2; subst a1; subst a0; first | rw [K_X3_takeItem_e, if_pos k0, if_pos k1, if_pos k2, if_pos k3, if_neg k4] | simp only [K_X3_takeItem_e, if_pos k0, if_pos k1, if_pos k2, if_pos k3, if_neg k4]
set_option maxRecDepth 100000 in
theorem kx_X3_takeItem_6 {G : Gm} {w : Mw} {h0 : Nat} {v58 : Mv} {x61 : Int32}   : K_X3_takeItem_c2 G w h0 v58 x61 = (x61, v58) := by
  first | rw [K_X3_takeItem_c2] | simp only [K_X3_takeItem_c2]
set_option maxRecDepth 100000 in
theorem kx_X3_takeItem_7 {G : Gm} {w : Mw} {v : Mv} {h0 : Nat} {x_0 : Int32} {v69 : Mv} {x72 : Int32} {x6 : Int32} {x14 : Int32} {x22 : Int32} (a0 : x6 = F_X3_isWord G w v h0 1) (a1 : x14 = F_X3_isWord G w v h0 2) (a2 : x22 = F_X3_isWord G w v h0 3) (a3 : x72 = (F_X3_takeOwn G w v h0).1) (a4 : v69 = (F_X3_takeOwn G w v h0).2) (k0 : x_0 = (0 : Int32)) (k1 : x6 = (0 : Int32)) (k2 : x14 = (0 : Int32)) (k3 : ¬ (x22 = (0 : Int32))) : K_X3_takeItem_e G w v h0 x_0 = K_X3_takeItem_c3 G w h0 v69 x72 := by
  subst a4; subst a3; subst a2; subst a1; subst a0; first | rw [K_X3_takeItem_e, if_pos k0, if_pos k1, if_pos k2, if_neg k3] | simp only [K_X3_takeItem_e, if_pos k0, if_pos k1, if_pos k2, if_neg k3]
set_option maxRecDepth 100000 in
theorem kx_X3_takeItem_8 {G : Gm} {w : Mw} {h0 : Nat} {v69 : Mv} {x72 : Int32}   : K_X3_takeItem_c3 G w h0 v69 x72 = (x72, v69) := by
  first | rw [K_X3_takeItem_c3] | simp only [K_X3_takeItem_c3]
set_option maxRecDepth 100000 in
theorem kx_X3_takeItem_9 {G : Gm} {w : Mw} {v : Mv} {h0 : Nat} {x_0 : Int32} {v80 : Mv} {x83 : Int32} {x6 : Int32} {x14 : Int32} (a0 : x6 = F_X3_isWord G w v h0 1) (a1 : x14 = F_X3_isWord G w v h0 2) (a2 : x83 = (F_X3_takeOne G w v h0).1) (a3 : v80 = (F_X3_takeOne G w v h0).2) (k0 : x_0 = (0 : Int32)) (k1 : x6 = (0 : Int32)) (k2 : ¬ (x14 = (0 : Int32))) : K_X3_takeItem_e G w v h0 x_0 = K_X3_takeItem_c4 G w h0 v80 x83 := by
  subst a3; subst a2; subst a1; subst a0; first | rw [K_X3_takeItem_e, if_pos k0, if_pos k1, if_neg k2] | simp only [K_X3_takeItem_e, if_pos k0, if_pos k1, if_neg k2]
set_option maxRecDepth 100000 in
theorem kx_X3_takeItem_10 {G : Gm} {w : Mw} {h0 : Nat} {v80 : Mv} {x83 : Int32}   : K_X3_takeItem_c4 G w h0 v80 x83 = (x83, v80) := by
  first | rw [K_X3_takeItem_c4] | simp only [K_X3_takeItem_c4]
set_option maxRecDepth 100000 in
theorem kx_X3_takeItem_11 {G : Gm} {w : Mw} {v : Mv} {h0 : Nat} {x_0 : Int32} {v91 : Mv} {x94 : Int32} {x6 : Int32} (a0 : x6 = F_X3_isWord G w v h0 1) (a1 : x94 = (F_X3_takeThing G w v h0).1) (a2 : v91 = (F_X3_takeThing G w v h0).2) (k0 : x_0 = (0 : Int32)) (k1 : ¬ (x6 = (0 : Int32))) : K_X3_takeItem_e G w v h0 x_0 = K_X3_takeItem_c5 G w h0 v91 x94 := by
  subst a2; subst a1; subst a0; first | rw [K_X3_takeItem_e, if_pos k0, if_neg k1] | simp only [K_X3_takeItem_e, if_pos k0, if_neg k1]
set_option maxRecDepth 100000 in
theorem kx_X3_takeItem_12 {G : Gm} {w : Mw} {h0 : Nat} {v91 : Mv} {x94 : Int32}   : K_X3_takeItem_c5 G w h0 v91 x94 = (x94, v91) := by
  first | rw [K_X3_takeItem_c5] | simp only [K_X3_takeItem_c5]
set_option maxRecDepth 100000 in
theorem kx_X3_takeItem_13 {G : Gm} {w : Mw} {v : Mv} {h0 : Nat} {x_0 : Int32} {x105 : Int32} (a0 : x105 = F_X3_isWord G w v h0 0) (k0 : ¬ (x_0 = (0 : Int32))) : K_X3_takeItem_e G w v h0 x_0 = (x105, v) := by
  subst a0; first | rw [K_X3_takeItem_e, if_neg k0] | simp only [K_X3_takeItem_e, if_neg k0]
abbrev rm_X3_takeItem : Room := { frames := 5, cells := 0, slots := 0, locals := 112 }
set_option maxHeartbeats 4000000 in
set_option maxRecDepth 100000 in
theorem ct_X3_takeItem (l : Launch) (D : va_G) (dA : Nat → ClassId) (G : Gm) (v : Mv) (w : Mw) (hOk : Ok G v w) (adK adV : Nat → Nat) (h0 : Nat) (S0 : S_X3 G h0) (x_0 : Int32) (bx_0 : Bd x_0 0 1) : CtIS l yX3_takeItem cX3_takeItem 2 (some .boolean) rm_X3_takeItem D dA G [.ref h0, .int x_0] v w adK adV (fun r v1 w1 => Ok G v1 w1 ∧ True ∧ Bd r 0 1 ∧ (w1 = w ∧ (r, v1) = F_X3_takeItem G w v h0 x_0) ∧ Fr G [2, 3, 6, 107] v v1) := by
  refine CtIS.of RX3 [(0, .ref h0), (1, .int x_0)] (Nat.le_of_ble_eq_true rfl) rfl (by decide) rfl ?_
  intro p e s m args below meth c E hr hX hR
  have hK : K_X3_takeItem_e G w v h0 x_0 = F_X3_takeItem G w v h0 x_0 := rfl
  refine J_iload_n E dX3_takeItem_0 1 rfl ?_
  refine J_if_eq E 11 dX3_takeItem_1 (by decide) (fun c1 => ?_) (fun c1 => ?_)
  · have b2 : Bd x_0 0 0 := Bd.eq_l c1 bx_0 (Bd.lit 0 0 (by decide)) 0 0 (by decide)
    refine J_aload_n E dX3_takeItem_11 0 rfl ?_
    refine J_ldcS E hR.2.1 dX3_takeItem_12 ?_
    refine J_csVI E hX hR cal_X3_isWord wd419 (rc_obj E.2.2.2.2.2.1 rfl (S_X3.h S0)) [.ref (adK 1)] [] (ct_X3_isWord l D dA G v w (hOk) adK adV h0 S0 1 (by decide)) rfl rfl (Nat.le_of_ble_eq_true rfl) ⟨rfl, rfl⟩ ⟨Nat.le_of_ble_eq_true rfl, Nat.le_of_ble_eq_true rfl⟩ dX3_takeItem_14 (fun x6 v3 w4 p5 => ?_)
    rw [p5.1, p5.2.1]
    have b7 : Bd x6 0 1 := p5.2.2.1
    have e8 : x6 = F_X3_isWord G w v h0 1 := (p5.2.2.2)
    refine J_if_eq E 25 dX3_takeItem_17 (by decide) (fun c9 => ?_) (fun c9 => ?_)
    · have b10 : Bd x6 0 0 := Bd.eq_l c9 b7 (Bd.lit 0 0 (by decide)) 0 0 (by decide)
      refine J_aload_n E dX3_takeItem_25 0 rfl ?_
      refine J_ldcS E hR.2.2.1 dX3_takeItem_26 ?_
      refine J_csVI E hX hR cal_X3_isWord wd419 (rc_obj E.2.2.2.2.2.1 rfl (S_X3.h S0)) [.ref (adK 2)] [] (ct_X3_isWord l D dA G v w (hOk) adK adV h0 S0 2 (by decide)) rfl rfl (Nat.le_of_ble_eq_true rfl) ⟨rfl, rfl⟩ ⟨Nat.le_of_ble_eq_true rfl, Nat.le_of_ble_eq_true rfl⟩ dX3_takeItem_28 (fun x14 v11 w12 p13 => ?_)
      rw [p13.1, p13.2.1]
      have b15 : Bd x14 0 1 := p13.2.2.1
      have e16 : x14 = F_X3_isWord G w v h0 2 := (p13.2.2.2)
      refine J_if_eq E 39 dX3_takeItem_31 (by decide) (fun c17 => ?_) (fun c17 => ?_)
      · have b18 : Bd x14 0 0 := Bd.eq_l c17 b15 (Bd.lit 0 0 (by decide)) 0 0 (by decide)
        refine J_aload_n E dX3_takeItem_39 0 rfl ?_
        refine J_ldcS E hR.2.2.2.1 dX3_takeItem_40 ?_
        refine J_csVI E hX hR cal_X3_isWord wd419 (rc_obj E.2.2.2.2.2.1 rfl (S_X3.h S0)) [.ref (adK 3)] [] (ct_X3_isWord l D dA G v w (hOk) adK adV h0 S0 3 (by decide)) rfl rfl (Nat.le_of_ble_eq_true rfl) ⟨rfl, rfl⟩ ⟨Nat.le_of_ble_eq_true rfl, Nat.le_of_ble_eq_true rfl⟩ dX3_takeItem_42 (fun x22 v19 w20 p21 => ?_)
        rw [p21.1, p21.2.1]
        have b23 : Bd x22 0 1 := p21.2.2.1
        have e24 : x22 = F_X3_isWord G w v h0 3 := (p21.2.2.2)
        refine J_if_eq E 53 dX3_takeItem_45 (by decide) (fun c25 => ?_) (fun c25 => ?_)
        · have b26 : Bd x22 0 0 := Bd.eq_l c25 b23 (Bd.lit 0 0 (by decide)) 0 0 (by decide)
          refine J_aload_n E dX3_takeItem_53 0 rfl ?_
          refine J_ldcS E hR.2.2.2.2.1 dX3_takeItem_54 ?_
          refine J_csVI E hX hR cal_X3_isWord wd419 (rc_obj E.2.2.2.2.2.1 rfl (S_X3.h S0)) [.ref (adK 4)] [] (ct_X3_isWord l D dA G v w (hOk) adK adV h0 S0 4 (by decide)) rfl rfl (Nat.le_of_ble_eq_true rfl) ⟨rfl, rfl⟩ ⟨Nat.le_of_ble_eq_true rfl, Nat.le_of_ble_eq_true rfl⟩ dX3_takeItem_56 (fun x30 v27 w28 p29 => ?_)
          rw [p29.1, p29.2.1]
          have b31 : Bd x30 0 1 := p29.2.2.1
          have e32 : x30 = F_X3_isWord G w v h0 4 := (p29.2.2.2)
          refine J_if_eq E 67 dX3_takeItem_59 (by decide) (fun c33 => ?_) (fun c33 => ?_)
          · have b34 : Bd x30 0 0 := Bd.eq_l c33 b31 (Bd.lit 0 0 (by decide)) 0 0 (by decide)
            refine J_aload_n E dX3_takeItem_67 0 rfl ?_
            refine J_ldcS E hR.2.2.2.2.2 dX3_takeItem_68 ?_
            refine J_csVI E hX hR cal_X3_isWord wd419 (rc_obj E.2.2.2.2.2.1 rfl (S_X3.h S0)) [.ref (adK 5)] [] (ct_X3_isWord l D dA G v w (hOk) adK adV h0 S0 5 (by decide)) rfl rfl (Nat.le_of_ble_eq_true rfl) ⟨rfl, rfl⟩ ⟨Nat.le_of_ble_eq_true rfl, Nat.le_of_ble_eq_true rfl⟩ dX3_takeItem_70 (fun x38 v35 w36 p37 => ?_)
            rw [p37.1, p37.2.1]
            have b39 : Bd x38 0 1 := p37.2.2.1
            have e40 : x38 = F_X3_isWord G w v h0 5 := (p37.2.2.2)
            refine J_if_eq E 87 dX3_takeItem_73 (by decide) (fun c41 => ?_) (fun c41 => ?_)
            · have b42 : Bd x38 0 0 := Bd.eq_l c41 b39 (Bd.lit 0 0 (by decide)) 0 0 (by decide)
              refine J_iconst E 0 dX3_takeItem_87 (by decide) ?_
              exact J_zret E hr (Bd.z (Bd.lit 0 0 (by decide)) (by decide)) dX3_takeItem_88 ⟨hOk, trivial, ((Bd.lit 0 0 (by decide)).w 0 1 (by decide)), ⟨⟨rfl, ((kx_X3_takeItem_1 (e8) (e16) (e24) (e32) (e40) (c1) (c9) (c17) (c25) (c33) (c41)).symm.trans hK)⟩, Fr.rf⟩⟩
            · have b43 : Bd x38 1 1 := (Bd.ne_lo c41 b39 (Bd.lit 0 0 (by decide))).w _ _ (by decide)
              refine J_aload_n E dX3_takeItem_76 0 rfl ?_
              refine J_callVI E cal_X3_takeYears wd514 rfl (S_X3.h S0) [] [] (ct_X3_takeYears l D dA G v w (hOk) h0 S0) rfl rfl (Nat.le_of_ble_eq_true rfl) ⟨rfl, rfl⟩ ⟨Nat.le_of_ble_eq_true rfl, Nat.le_of_ble_eq_true rfl⟩ dX3_takeItem_77 (fun x47 v44 w45 p46 => ?_)
              have ew9 : w = w45 := p46.2.2.2.1.1.symm
              subst ew9
              have o48 := p46.1
              have k49 : True := trivial
              have f50 : Fr G [2, 3, 6, 107] v v44 := Fr.tr Fr.rf (p46.2.2.2.2) (by decide)
              have b51 : Bd x47 0 1 := p46.2.2.1
              have e52 : x47 = (F_X3_takeYears G w v h0).1 := congrArg Prod.fst (p46.2.2.2.1).2
              have e53 : v44 = (F_X3_takeYears G w v h0).2 := congrArg Prod.snd (p46.2.2.2.1).2
              have hK : K_X3_takeItem_c1 G w h0 v44 x47 = F_X3_takeItem G w v h0 x_0 := ((kx_X3_takeItem_2 (e8) (e16) (e24) (e32) (e40) (e52) (e53) (c1) (c9) (c17) (c25) (c33) (c41)).symm.trans hK)
              refine J_if_eq E 87 dX3_takeItem_80 (by decide) (fun c54 => ?_) (fun c54 => ?_)
              · have b55 : Bd x47 0 0 := Bd.eq_l c54 b51 (Bd.lit 0 0 (by decide)) 0 0 (by decide)
                refine J_iconst E 0 dX3_takeItem_87 (by decide) ?_
                exact J_zret E hr (Bd.z (Bd.lit 0 0 (by decide)) (by decide)) dX3_takeItem_88 ⟨o48, k49, ((Bd.lit 0 0 (by decide)).w 0 1 (by decide)), ⟨⟨rfl, ((kx_X3_takeItem_3 (c54)).symm.trans hK)⟩, f50⟩⟩
              · have b56 : Bd x47 1 1 := (Bd.ne_lo c54 b51 (Bd.lit 0 0 (by decide))).w _ _ (by decide)
                refine J_iconst E 1 dX3_takeItem_83 (by decide) ?_
                refine J_goto E 88 dX3_takeItem_84 (by decide) ?_
                exact J_zret E hr (Bd.z (Bd.lit 1 1 (by decide)) (by decide)) dX3_takeItem_88 ⟨o48, k49, ((Bd.lit 1 1 (by decide)).w 0 1 (by decide)), ⟨⟨rfl, ((kx_X3_takeItem_4 (c54)).symm.trans hK)⟩, f50⟩⟩
          · have b57 : Bd x30 1 1 := (Bd.ne_lo c33 b31 (Bd.lit 0 0 (by decide))).w _ _ (by decide)
            refine J_aload_n E dX3_takeItem_62 0 rfl ?_
            refine J_callVI E cal_X3_takeLeave wd509 rfl (S_X3.h S0) [] [] (ct_X3_takeLeave l D dA G v w (hOk) h0 S0) rfl rfl (Nat.le_of_ble_eq_true rfl) ⟨rfl, rfl⟩ ⟨Nat.le_of_ble_eq_true rfl, Nat.le_of_ble_eq_true rfl⟩ dX3_takeItem_63 (fun x61 v58 w59 p60 => ?_)
            have ew9 : w = w59 := p60.2.2.2.1.1.symm
            subst ew9
            have o62 := p60.1
            have k63 : True := trivial
            have f64 : Fr G [2, 3, 6, 107] v v58 := Fr.tr Fr.rf (p60.2.2.2.2) (by decide)
            have b65 : Bd x61 0 1 := p60.2.2.1
            have e66 : x61 = (F_X3_takeLeave G w v h0).1 := congrArg Prod.fst (p60.2.2.2.1).2
            have e67 : v58 = (F_X3_takeLeave G w v h0).2 := congrArg Prod.snd (p60.2.2.2.1).2
            have hK : K_X3_takeItem_c2 G w h0 v58 x61 = F_X3_takeItem G w v h0 x_0 := ((kx_X3_takeItem_5 (e8) (e16) (e24) (e32) (e66) (e67) (c1) (c9) (c17) (c25) (c33)).symm.trans hK)
            exact J_zret E hr (Bd.z b65 (by decide)) dX3_takeItem_66 ⟨o62, k63, b65, ⟨⟨rfl, ((kx_X3_takeItem_6).symm.trans hK)⟩, f64⟩⟩
        · have b68 : Bd x22 1 1 := (Bd.ne_lo c25 b23 (Bd.lit 0 0 (by decide))).w _ _ (by decide)
          refine J_aload_n E dX3_takeItem_48 0 rfl ?_
          refine J_callVI E cal_X3_takeOwn wd488 rfl (S_X3.h S0) [] [] (ct_X3_takeOwn l D dA G v w (hOk) h0 S0) rfl rfl (Nat.le_of_ble_eq_true rfl) ⟨rfl, rfl⟩ ⟨Nat.le_of_ble_eq_true rfl, Nat.le_of_ble_eq_true rfl⟩ dX3_takeItem_49 (fun x72 v69 w70 p71 => ?_)
          have ew9 : w = w70 := p71.2.2.2.1.1.symm
          subst ew9
          have o73 := p71.1
          have k74 : True := trivial
          have f75 : Fr G [2, 3, 6, 107] v v69 := Fr.tr Fr.rf (p71.2.2.2.2) (by decide)
          have b76 : Bd x72 0 1 := p71.2.2.1
          have e77 : x72 = (F_X3_takeOwn G w v h0).1 := congrArg Prod.fst (p71.2.2.2.1).2
          have e78 : v69 = (F_X3_takeOwn G w v h0).2 := congrArg Prod.snd (p71.2.2.2.1).2
          have hK : K_X3_takeItem_c3 G w h0 v69 x72 = F_X3_takeItem G w v h0 x_0 := ((kx_X3_takeItem_7 (e8) (e16) (e24) (e77) (e78) (c1) (c9) (c17) (c25)).symm.trans hK)
          exact J_zret E hr (Bd.z b76 (by decide)) dX3_takeItem_52 ⟨o73, k74, b76, ⟨⟨rfl, ((kx_X3_takeItem_8).symm.trans hK)⟩, f75⟩⟩
      · have b79 : Bd x14 1 1 := (Bd.ne_lo c17 b15 (Bd.lit 0 0 (by decide))).w _ _ (by decide)
        refine J_aload_n E dX3_takeItem_34 0 rfl ?_
        refine J_callVI E cal_X3_takeOne wd482 rfl (S_X3.h S0) [] [] (ct_X3_takeOne l D dA G v w (hOk) h0 S0) rfl rfl (Nat.le_of_ble_eq_true rfl) ⟨rfl, rfl⟩ ⟨Nat.le_of_ble_eq_true rfl, Nat.le_of_ble_eq_true rfl⟩ dX3_takeItem_35 (fun x83 v80 w81 p82 => ?_)
        have ew9 : w = w81 := p82.2.2.2.1.1.symm
        subst ew9
        have o84 := p82.1
        have k85 : True := trivial
        have f86 : Fr G [2, 3, 6, 107] v v80 := Fr.tr Fr.rf (p82.2.2.2.2) (by decide)
        have b87 : Bd x83 0 1 := p82.2.2.1
        have e88 : x83 = (F_X3_takeOne G w v h0).1 := congrArg Prod.fst (p82.2.2.2.1).2
        have e89 : v80 = (F_X3_takeOne G w v h0).2 := congrArg Prod.snd (p82.2.2.2.1).2
        have hK : K_X3_takeItem_c4 G w h0 v80 x83 = F_X3_takeItem G w v h0 x_0 := ((kx_X3_takeItem_9 (e8) (e16) (e88) (e89) (c1) (c9) (c17)).symm.trans hK)
        exact J_zret E hr (Bd.z b87 (by decide)) dX3_takeItem_38 ⟨o84, k85, b87, ⟨⟨rfl, ((kx_X3_takeItem_10).symm.trans hK)⟩, f86⟩⟩
    · have b90 : Bd x6 1 1 := (Bd.ne_lo c9 b7 (Bd.lit 0 0 (by decide))).w _ _ (by decide)
      refine J_aload_n E dX3_takeItem_20 0 rfl ?_
      refine J_callVI E cal_X3_takeThing wd472 rfl (S_X3.h S0) [] [] (ct_X3_takeThing l D dA G v w (hOk) h0 S0) rfl rfl (Nat.le_of_ble_eq_true rfl) ⟨rfl, rfl⟩ ⟨Nat.le_of_ble_eq_true rfl, Nat.le_of_ble_eq_true rfl⟩ dX3_takeItem_21 (fun x94 v91 w92 p93 => ?_)
      have ew9 : w = w92 := p93.2.2.2.1.1.symm
      subst ew9
      have o95 := p93.1
      have k96 : True := trivial
      have f97 : Fr G [2, 3, 6, 107] v v91 := Fr.tr Fr.rf (p93.2.2.2.2) (by decide)
      have b98 : Bd x94 0 1 := p93.2.2.1
      have e99 : x94 = (F_X3_takeThing G w v h0).1 := congrArg Prod.fst (p93.2.2.2.1).2
      have e100 : v91 = (F_X3_takeThing G w v h0).2 := congrArg Prod.snd (p93.2.2.2.1).2
      have hK : K_X3_takeItem_c5 G w h0 v91 x94 = F_X3_takeItem G w v h0 x_0 := ((kx_X3_takeItem_11 (e8) (e99) (e100) (c1) (c9)).symm.trans hK)
      exact J_zret E hr (Bd.z b98 (by decide)) dX3_takeItem_24 ⟨o95, k96, b98, ⟨⟨rfl, ((kx_X3_takeItem_12).symm.trans hK)⟩, f97⟩⟩
  · have b101 : Bd x_0 1 1 := (Bd.ne_lo c1 bx_0 (Bd.lit 0 0 (by decide))).w _ _ (by decide)
    refine J_aload_n E dX3_takeItem_4 0 rfl ?_
    refine J_ldcS E hR.1 dX3_takeItem_5 ?_
    refine J_csVI E hX hR cal_X3_isWord wd419 (rc_obj E.2.2.2.2.2.1 rfl (S_X3.h S0)) [.ref (adK 0)] [] (ct_X3_isWord l D dA G v w (hOk) adK adV h0 S0 0 (by decide)) rfl rfl (Nat.le_of_ble_eq_true rfl) ⟨rfl, rfl⟩ ⟨Nat.le_of_ble_eq_true rfl, Nat.le_of_ble_eq_true rfl⟩ dX3_takeItem_7 (fun x105 v102 w103 p104 => ?_)
    rw [p104.1, p104.2.1]
    have b106 : Bd x105 0 1 := p104.2.2.1
    have e107 : x105 = F_X3_isWord G w v h0 0 := (p104.2.2.2)
    exact J_zret E hr (Bd.z b106 (by decide)) dX3_takeItem_10 ⟨hOk, trivial, b106, ⟨⟨rfl, ((kx_X3_takeItem_13 (e107) (c1)).symm.trans hK)⟩, Fr.rf⟩⟩

def K_X3_readItems_70 (G : Gm) (w : Mw) (h0 : Nat) (v1 : Mv) : Int32 × Mv :=
  (((-10 : Int32) - (v1 h0 4)), v1)
def K_X3_readItems_c2 (G : Gm) (w : Mw) (h0 : Nat) (rec14 : Mv → Int32 → Int32 × Mv) (v37 : Mv) (x15 : Int32) (x40 : Int32) : Int32 × Mv :=
  if x40 = (0 : Int32) then (K_X3_readItems_70 G w h0 v37) else (rec14 v37 (x15 + (1 : Int32)))
def K_X3_readItems_c1 (G : Gm) (w : Mw) (h0 : Nat) (rec14 : Mv → Int32 → Int32 × Mv) (v24 : Mv) (x15 : Int32) (x27 : Int32) : Int32 × Mv :=
  if x27 = (0 : Int32) then (K_X3_readItems_70 G w h0 v24) else (K_X3_readItems_c2 G w h0 rec14 ((F_X3_takeStop G w v24 h0).2) x15 ((F_X3_takeStop G w v24 h0).1))
def K_X3_readItems_48 (G : Gm) (w : Mw) (h0 : Nat) (rec14 : Mv → Int32 → Int32 × Mv) (v17 : Mv) (x15 : Int32) (x22 : Int32) : Int32 × Mv :=
  K_X3_readItems_c1 G w h0 rec14 ((F_X3_takeItem G w v17 h0 x22).2) x15 ((F_X3_takeItem G w v17 h0 x22).1)
def K_X3_readItems_38 (G : Gm) (w : Mw) (h0 : Nat) (rec14 : Mv → Int32 → Int32 × Mv) (v53 : Mv) (x15 : Int32) : Int32 × Mv :=
  if x15 = (0 : Int32) then (K_X3_readItems_48 G w h0 rec14 v53 x15 (1 : Int32)) else (K_X3_readItems_48 G w h0 rec14 v53 x15 (0 : Int32))
def K_X3_readItems_c3 (G : Gm) (w : Mw) (h0 : Nat) (rec14 : Mv → Int32 → Int32 × Mv) (v64 : Mv) (x15 : Int32) : Int32 × Mv :=
  if (v64 h0 3) = (0 : Int32) then (if x15 ≤ (0 : Int32) then (K_X3_readItems_38 G w h0 rec14 v64 x15) else ((x15, v64))) else (K_X3_readItems_38 G w h0 rec14 v64 x15)
def K_X3_readItems_14 (G : Gm) (w : Mw) (h0 : Nat) : Nat → Mv → Int32 → Int32 × Mv
  | 0, _, _ => ((0 : Int32), (fun _ _ => 0 : Mv))
  | n14 + 1, v11, x15 =>
    if (150 : Int32) < x15 then (K_X3_readItems_70 G w h0 v11) else (K_X3_readItems_c3 G w h0 (K_X3_readItems_14 G w h0 n14) (F_X3_nextToken G w v11 h0) x15)
def K_X3_readItems_c4 (G : Gm) (w : Mw) (h0 : Nat) (v85 : Mv) : Int32 × Mv :=
  K_X3_readItems_14 G w h0 247 v85 (0 : Int32)
def K_X3_readItems_e (G : Gm) (w : Mw) (v : Mv) (h0 : Nat) : Int32 × Mv :=
  K_X3_readItems_c4 G w h0 (F_X6_startAnew G w (stv v h0 2 (0 : Int32)) (rf G h0 6))
def F_X3_readItems (G : Gm) (w : Mw) (v : Mv) (h0 : Nat) : Int32 × Mv := K_X3_readItems_e G w v h0
set_option maxRecDepth 100000 in
theorem kx_X3_readItems_1 {G : Gm} {w : Mw} {h0 : Nat} {v1 : Mv} {x8 : Int32} {x5 : Int32} (a0 : x5 = v1 h0 4) (a1 : x8 = (-10 : Int32) - x5)  : K_X3_readItems_70 G w h0 v1 = (x8, v1) := by
  subst a1; subst a0; first | rw [K_X3_readItems_70] | simp only [K_X3_readItems_70]
set_option maxRecDepth 100000 in
theorem kx_X3_readItems_2 {G : Gm} {w : Mw} {h0 : Nat} {rec14 : Mv → Int32 → Int32 × Mv} {v17 : Mv} {x15 : Int32} {x22 : Int32} {v24 : Mv} {x27 : Int32} (a0 : x27 = (F_X3_takeItem G w v17 h0 x22).1) (a1 : v24 = (F_X3_takeItem G w v17 h0 x22).2)  : K_X3_readItems_48 G w h0 rec14 v17 x15 x22 = K_X3_readItems_c1 G w h0 rec14 v24 x15 x27 := by
  subst a1; subst a0; first | rw [K_X3_readItems_48] | simp only [K_X3_readItems_48]
set_option maxRecDepth 100000 in
theorem kx_X3_readItems_3 {G : Gm} {w : Mw} {h0 : Nat} {rec14 : Mv → Int32 → Int32 × Mv} {v24 : Mv} {x15 : Int32} {x27 : Int32}  (k0 : x27 = (0 : Int32)) : K_X3_readItems_c1 G w h0 rec14 v24 x15 x27 = K_X3_readItems_70 G w h0 v24 := by
  first | rw [K_X3_readItems_c1, if_pos k0] | simp only [K_X3_readItems_c1, if_pos k0]
set_option maxRecDepth 100000 in
theorem kx_X3_readItems_4 {G : Gm} {w : Mw} {h0 : Nat} {rec14 : Mv → Int32 → Int32 × Mv} {v24 : Mv} {x15 : Int32} {x27 : Int32} {v37 : Mv} {x40 : Int32} (a0 : x40 = (F_X3_takeStop G w v24 h0).1) (a1 : v37 = (F_X3_takeStop G w v24 h0).2) (k0 : ¬ (x27 = (0 : Int32))) : K_X3_readItems_c1 G w h0 rec14 v24 x15 x27 = K_X3_readItems_c2 G w h0 rec14 v37 x15 x40 := by
  subst a1; subst a0; first | rw [K_X3_readItems_c1, if_neg k0] | simp only [K_X3_readItems_c1, if_neg k0]
set_option maxRecDepth 100000 in
theorem kx_X3_readItems_5 {G : Gm} {w : Mw} {h0 : Nat} {rec14 : Mv → Int32 → Int32 × Mv} {v37 : Mv} {x15 : Int32} {x40 : Int32} {x49 : Int32} (a0 : x49 = x15 + (1 : Int32)) (k0 : ¬ (x40 = (0 : Int32))) : K_X3_readItems_c2 G w h0 rec14 v37 x15 x40 = rec14 v37 x49 := by
  subst a0; first | rw [K_X3_readItems_c2, if_neg k0] | simp only [K_X3_readItems_c2, if_neg k0]
set_option maxRecDepth 100000 in
theorem kx_X3_readItems_6 {G : Gm} {w : Mw} {h0 : Nat} {rec14 : Mv → Int32 → Int32 × Mv} {v37 : Mv} {x15 : Int32} {x40 : Int32}  (k0 : x40 = (0 : Int32)) : K_X3_readItems_c2 G w h0 rec14 v37 x15 x40 = K_X3_readItems_70 G w h0 v37 := by
  first | rw [K_X3_readItems_c2, if_pos k0] | simp only [K_X3_readItems_c2, if_pos k0]
set_option maxRecDepth 100000 in
theorem kx_X3_readItems_7 {G : Gm} {w : Mw} {h0 : Nat} {rec14 : Mv → Int32 → Int32 × Mv} {v53 : Mv} {x15 : Int32}  (k0 : ¬ (x15 = (0 : Int32))) : K_X3_readItems_38 G w h0 rec14 v53 x15 = K_X3_readItems_48 G w h0 rec14 v53 x15 (0 : Int32) := by
  first | rw [K_X3_readItems_38, if_neg k0] | simp only [K_X3_readItems_38, if_neg k0]
set_option maxRecDepth 100000 in
theorem kx_X3_readItems_8 {G : Gm} {w : Mw} {h0 : Nat} {rec14 : Mv → Int32 → Int32 × Mv} {v53 : Mv} {x15 : Int32}  (k0 : x15 = (0 : Int32)) : K_X3_readItems_38 G w h0 rec14 v53 x15 = K_X3_readItems_48 G w h0 rec14 v53 x15 (1 : Int32) := by
  first | rw [K_X3_readItems_38, if_pos k0] | simp only [K_X3_readItems_38, if_pos k0]
set_option maxRecDepth 100000 in
theorem kx_X3_readItems_9 {G : Gm} {w : Mw} {h0 : Nat} {n14 : Nat} {v11 : Mv} {x15 : Int32}  (k0 : (150 : Int32) < x15) : K_X3_readItems_14 G w h0 (n14 + 1) v11 x15 = K_X3_readItems_70 G w h0 v11 := by
  first | rw [K_X3_readItems_14, if_pos k0] | simp only [K_X3_readItems_14, if_pos k0]
set_option maxRecDepth 100000 in
theorem kx_X3_readItems_10 {G : Gm} {w : Mw} {h0 : Nat} {n14 : Nat} {v11 : Mv} {x15 : Int32} {v64 : Mv} (a0 : v64 = F_X3_nextToken G w v11 h0) (k0 : ¬ ((150 : Int32) < x15)) : K_X3_readItems_14 G w h0 (n14 + 1) v11 x15 = K_X3_readItems_c3 G w h0 (K_X3_readItems_14 G w h0 n14) v64 x15 := by
  subst a0; first | rw [K_X3_readItems_14, if_neg k0] | simp only [K_X3_readItems_14, if_neg k0]
set_option maxRecDepth 100000 in
theorem kx_X3_readItems_11 {G : Gm} {w : Mw} {h0 : Nat} {rec14 : Mv → Int32 → Int32 × Mv} {v64 : Mv} {x15 : Int32} {x72 : Int32} (a0 : x72 = v64 h0 3) (k0 : ¬ (x72 = (0 : Int32))) : K_X3_readItems_c3 G w h0 rec14 v64 x15 = K_X3_readItems_38 G w h0 rec14 v64 x15 := by
  subst a0; first | rw [K_X3_readItems_c3, if_neg k0] | simp only [K_X3_readItems_c3, if_neg k0]
set_option maxRecDepth 100000 in
theorem kx_X3_readItems_12 {G : Gm} {w : Mw} {h0 : Nat} {rec14 : Mv → Int32 → Int32 × Mv} {v64 : Mv} {x15 : Int32} {x72 : Int32} (a0 : x72 = v64 h0 3) (k0 : x72 = (0 : Int32)) (k1 : x15 ≤ (0 : Int32)) : K_X3_readItems_c3 G w h0 rec14 v64 x15 = K_X3_readItems_38 G w h0 rec14 v64 x15 := by
  subst a0; first | rw [K_X3_readItems_c3, if_pos k0, if_pos k1] | simp only [K_X3_readItems_c3, if_pos k0, if_pos k1]
set_option maxRecDepth 100000 in
theorem kx_X3_readItems_13 {G : Gm} {w : Mw} {h0 : Nat} {rec14 : Mv → Int32 → Int32 × Mv} {v64 : Mv} {x15 : Int32} {x72 : Int32} (a0 : x72 = v64 h0 3) (k0 : x72 = (0 : Int32)) (k1 : ¬ (x15 ≤ (0 : Int32))) : K_X3_readItems_c3 G w h0 rec14 v64 x15 = (x15, v64) := by
  subst a0; first | rw [K_X3_readItems_c3, if_pos k0, if_neg k1] | simp only [K_X3_readItems_c3, if_pos k0, if_neg k1]
set_option maxRecDepth 100000 in
theorem kx_X3_readItems_14 {G : Gm} {w : Mw} {v : Mv} {h0 : Nat} {v85 : Mv} {v79 : Mv} (a0 : v79 = stv v h0 2 (0 : Int32)) (a1 : v85 = F_X6_startAnew G w v79 (rf G h0 6))  : K_X3_readItems_e G w v h0 = K_X3_readItems_c4 G w h0 v85 := by
  subst a1; subst a0; first | rw [K_X3_readItems_e] | simp only [K_X3_readItems_e]
set_option maxRecDepth 100000 in
theorem kx_X3_readItems_15 {G : Gm} {w : Mw} {h0 : Nat} {v85 : Mv}   : K_X3_readItems_c4 G w h0 v85 = K_X3_readItems_14 G w h0 247 v85 (0 : Int32) := by
  first | rw [K_X3_readItems_c4] | simp only [K_X3_readItems_c4]
abbrev rm_X3_readItems : Room := { frames := 6, cells := 0, slots := 0, locals := 133 }
set_option maxHeartbeats 4000000 in
set_option maxRecDepth 100000 in
theorem ct_X3_readItems (l : Launch) (D : va_G) (dA : Nat → ClassId) (G : Gm) (v : Mv) (w : Mw) (hOk : Ok G v w) (adK adV : Nat → Nat) (h0 : Nat) (S0 : S_X3 G h0) : CtIS l yX3_readItems cX3_readItems 2 (some .int) rm_X3_readItems D dA G [.ref h0] v w adK adV (fun r v1 w1 => Ok G v1 w1 ∧ True ∧ Bd r (-160) 150 ∧ (w1 = w ∧ (r, v1) = F_X3_readItems G w v h0) ∧ Fr G [2, 3, 4, 6, 107] v v1) := by
  refine CtIS.of RX3 [(0, .ref h0)] (Nat.le_of_ble_eq_true rfl) rfl (by decide) rfl ?_
  intro p e s m args below meth c E hr hX hR
  have J70 : ∀ (v1 : Mv), Ok G v1 w → True → Fr G [2, 3, 4, 6, 107] v v1 → K_X3_readItems_70 G w h0 v1 = F_X3_readItems G w v h0 → J p l e rm_X3_readItems s m args below meth c 0 0 (MQ below (QcI D dA G (fun r v1 w1 => Ok G v1 w1 ∧ True ∧ Bd r (-160) 150 ∧ (w1 = w ∧ (r, v1) = F_X3_readItems G w v h0) ∧ Fr G [2, 3, 4, 6, 107] v v1)) args s 0 0 (dm G)) D dA G (dm G) s.heap 2 v1 w [(0, .ref h0)] 70 [] := by
    intro v1 o2 k3 f4 hK
    refine J_bipush E (-10) dX3_readItems_70 (by decide) ?_
    refine J_aload_n E dX3_readItems_72 0 rfl ?_
    refine J_getI E in_X3 rfl (S_X3.h S0) 4 (by decide) wd257 rfl dX3_readItems_73 (fun x5 e6 => ?_)
    have b7 : Bd x5 0 150 := Ok.fd o2 e6 (S_X3.h S0) rfl
    refine J_isub E dX3_readItems_76 (fun x8 e9 => ?_)
    have b10 : Bd x8 (-160) (-10) := (Bd.sub e9 (Bd.lit (-10) (-10) (by decide)) b7 (by decide)).w _ _ (by decide)
    exact J_iret E hr dX3_readItems_77 ⟨o2, k3, (b10.w (-160) 150 (by decide)), ⟨⟨rfl, ((kx_X3_readItems_1 (e6) (e9)).symm.trans hK)⟩, f4⟩⟩
  have J14 : ∀ n14 : Nat, ∀ (v11 : Mv), Ok G v11 w → True → Fr G [2, 3, 4, 6, 107] v v11 → ∀ x15 : Int32, Bd x15 0 246 → Mu x15 246 n14 → K_X3_readItems_14 G w h0 n14 v11 x15 = F_X3_readItems G w v h0 → J p l e rm_X3_readItems s m args below meth c 0 0 (MQ below (QcI D dA G (fun r v1 w1 => Ok G v1 w1 ∧ True ∧ Bd r (-160) 150 ∧ (w1 = w ∧ (r, v1) = F_X3_readItems G w v h0) ∧ Fr G [2, 3, 4, 6, 107] v v1)) args s 0 0 (dm G)) D dA G (dm G) s.heap 2 v11 w [(0, .ref h0), (1, .int x15)] 14 [] := by
    intro n14
    induction n14 with
    | zero => intro v11 o12 k13 f14 x15 b16 hm hK; exact hm.zero b16 (by decide)
    | succ n14 ih14 =>
      intro v11 o12 k13 f14 x15 b16 hmu14 hK
      have J48 : ∀ (v17 : Mv), Ok G v17 w → True → Fr G [2, 3, 4, 6, 107] v v17 → Bd x15 0 150 → ∀ x22 : Int32, Bd x22 0 1 → K_X3_readItems_48 G w h0 (K_X3_readItems_14 G w h0 n14) v17 x15 x22 = F_X3_readItems G w v h0 → J p l e rm_X3_readItems s m args below meth c 0 0 (MQ below (QcI D dA G (fun r v1 w1 => Ok G v1 w1 ∧ True ∧ Bd r (-160) 150 ∧ (w1 = w ∧ (r, v1) = F_X3_readItems G w v h0) ∧ Fr G [2, 3, 4, 6, 107] v v1)) args s 0 0 (dm G)) D dA G (dm G) s.heap 2 v17 w [(0, .ref h0), (1, .int x15)] 48 [.int x22, .ref h0] := by
        intro v17 o18 k19 f20 b21 x22 b23 hK
        refine J_csVI E hX hR cal_X3_takeItem wd414 (rc_obj E.2.2.2.2.2.1 rfl (S_X3.h S0)) [.int x22] [] (ct_X3_takeItem l D dA G v17 w (o18) adK adV h0 S0 x22 b23) rfl rfl (Nat.le_of_ble_eq_true rfl) ⟨rfl, rfl⟩ ⟨Nat.le_of_ble_eq_true rfl, Nat.le_of_ble_eq_true rfl⟩ dX3_readItems_48 (fun x27 v24 w25 p26 => ?_)
        have ew9 : w = w25 := p26.2.2.2.1.1.symm
        subst ew9
        have o28 := p26.1
        have k29 : True := trivial
        have f30 : Fr G [2, 3, 4, 6, 107] v v24 := Fr.tr f20 (p26.2.2.2.2) (by decide)
        have b31 : Bd x27 0 1 := p26.2.2.1
        have e32 : x27 = (F_X3_takeItem G w v17 h0 x22).1 := congrArg Prod.fst (p26.2.2.2.1).2
        have e33 : v24 = (F_X3_takeItem G w v17 h0 x22).2 := congrArg Prod.snd (p26.2.2.2.1).2
        have hK : K_X3_readItems_c1 G w h0 (K_X3_readItems_14 G w h0 n14) v24 x15 x27 = F_X3_readItems G w v h0 := ((kx_X3_readItems_2 (e32) (e33)).symm.trans hK)
        refine J_if_eq E 70 dX3_readItems_51 (by decide) (fun c34 => ?_) (fun c34 => ?_)
        · have b35 : Bd x27 0 0 := Bd.eq_l c34 b31 (Bd.lit 0 0 (by decide)) 0 0 (by decide)
          exact J.sub [0] rfl (J70 v24 (o28) (k29) f30 ((kx_X3_readItems_3 (c34)).symm.trans hK))
        · have b36 : Bd x27 1 1 := (Bd.ne_lo c34 b31 (Bd.lit 0 0 (by decide))).w _ _ (by decide)
          refine J_aload_n E dX3_readItems_54 0 rfl ?_
          refine J_callVI E cal_X3_takeStop wd563 rfl (S_X3.h S0) [] [] (ct_X3_takeStop l D dA G v24 w (o28) h0 S0) rfl rfl (Nat.le_of_ble_eq_true rfl) ⟨rfl, rfl⟩ ⟨Nat.le_of_ble_eq_true rfl, Nat.le_of_ble_eq_true rfl⟩ dX3_readItems_55 (fun x40 v37 w38 p39 => ?_)
          have ew9 : w = w38 := p39.2.2.2.1.1.symm
          subst ew9
          have o41 := p39.1
          have k42 : True := trivial
          have f43 : Fr G [2, 3, 4, 6, 107] v v37 := Fr.tr f30 (p39.2.2.2.2) (by decide)
          have b44 : Bd x40 0 1 := p39.2.2.1
          have e45 : x40 = (F_X3_takeStop G w v24 h0).1 := congrArg Prod.fst (p39.2.2.2.1).2
          have e46 : v37 = (F_X3_takeStop G w v24 h0).2 := congrArg Prod.snd (p39.2.2.2.1).2
          have hK : K_X3_readItems_c2 G w h0 (K_X3_readItems_14 G w h0 n14) v37 x15 x40 = F_X3_readItems G w v h0 := ((kx_X3_readItems_4 (e45) (e46) (c34)).symm.trans hK)
          refine J_if_ne E 64 dX3_readItems_58 (by decide) (fun c47 => ?_) (fun c47 => ?_)
          · have b48 : Bd x40 1 1 := (Bd.ne_lo c47 b44 (Bd.lit 0 0 (by decide))).w _ _ (by decide)
            refine J_iinc E 1 1 (fun z => [(1, .int z), (0, .ref h0)]) dX3_readItems_64 rfl (by decide) (by decide) (fun _ => rfl) (fun x49 e50 => ?_)
            have b51 : Bd x49 1 151 := (Bd.add e50 b21 (Bd.lit 1 1 (by decide)) (by decide)).w _ _ (by decide)
            refine J_goto E 14 dX3_readItems_67 (by decide) ?_
            exact J.sub [1, 0] rfl (ih14 v37 (o41) (k42) f43 x49 (b51.w 0 246 (by decide)) (Mu.step hmu14 e50 b21 (Bd.lit 1 1 (by decide)) (by decide)) ((kx_X3_readItems_5 (e50) (c47)).symm.trans hK))
          · have b52 : Bd x40 0 0 := Bd.eq_l c47 b44 (Bd.lit 0 0 (by decide)) 0 0 (by decide)
            refine J_goto E 70 dX3_readItems_61 (by decide) ?_
            exact J.sub [0] rfl (J70 v37 (o41) (k42) f43 ((kx_X3_readItems_6 (c47)).symm.trans hK))
      have J38 : ∀ (v53 : Mv), Ok G v53 w → True → Fr G [2, 3, 4, 6, 107] v v53 → Bd x15 0 150 → K_X3_readItems_38 G w h0 (K_X3_readItems_14 G w h0 n14) v53 x15 = F_X3_readItems G w v h0 → J p l e rm_X3_readItems s m args below meth c 0 0 (MQ below (QcI D dA G (fun r v1 w1 => Ok G v1 w1 ∧ True ∧ Bd r (-160) 150 ∧ (w1 = w ∧ (r, v1) = F_X3_readItems G w v h0) ∧ Fr G [2, 3, 4, 6, 107] v v1)) args s 0 0 (dm G)) D dA G (dm G) s.heap 2 v53 w [(0, .ref h0), (1, .int x15)] 38 [] := by
        intro v53 o54 k55 f56 b57 hK
        refine J_aload_n E dX3_readItems_38 0 rfl ?_
        refine J_iload_n E dX3_readItems_39 1 rfl ?_
        refine J_if_ne E 47 dX3_readItems_40 (by decide) (fun c58 => ?_) (fun c58 => ?_)
        · have b59 : Bd x15 1 150 := (Bd.ne_lo c58 b57 (Bd.lit 0 0 (by decide))).w _ _ (by decide)
          refine J_iconst E 0 dX3_readItems_47 (by decide) ?_
          exact J.sub [0, 1] rfl (J48 v53 (o54) (k55) f56 (b59.w 0 150 (by decide)) 0 ((Bd.lit 0 0 (by decide)).w 0 1 (by decide)) ((kx_X3_readItems_7 (c58)).symm.trans hK))
        · have b60 : Bd x15 0 0 := Bd.eq_l c58 b57 (Bd.lit 0 0 (by decide)) 0 0 (by decide)
          refine J_iconst E 1 dX3_readItems_43 (by decide) ?_
          refine J_goto E 48 dX3_readItems_44 (by decide) ?_
          exact J.sub [0, 1] rfl (J48 v53 (o54) (k55) f56 (b60.w 0 150 (by decide)) 1 ((Bd.lit 1 1 (by decide)).w 0 1 (by decide)) ((kx_X3_readItems_8 (c58)).symm.trans hK))
      refine J_iload_n E dX3_readItems_14 1 rfl ?_
      refine J_sipush E 150 dX3_readItems_15 (by decide) ?_
      refine J_icmp_gt E 70 dX3_readItems_18 (by decide) (fun c61 => ?_) (fun c61 => ?_)
      · have b62 : Bd x15 151 246 := Bd.lt_r c61 (Bd.lit 150 150 (by decide)) b16 151 (by decide)
        exact J.sub [0] rfl (J70 v11 (o12) (k13) f14 ((kx_X3_readItems_9 (c61)).symm.trans hK))
      · have b63 : Bd x15 0 150 := Bd.le_l (nlt c61) b16 (Bd.lit 150 150 (by decide)) 150 (by decide)
        refine J_aload_n E dX3_readItems_21 0 rfl ?_
        refine J_callVV E cal_X3_nextToken wd405 rfl (S_X3.h S0) [] [] (ct_X3_nextToken l D dA G v11 w (o12) h0 S0) rfl rfl (Nat.le_of_ble_eq_true rfl) ⟨rfl, rfl⟩ ⟨Nat.le_of_ble_eq_true rfl, Nat.le_of_ble_eq_true rfl⟩ dX3_readItems_22 (fun v64 w65 p66 => ?_)
        have ew9 : w = w65 := p66.2.2.1.1.symm
        subst ew9
        have o68 := p66.1
        have k69 : True := trivial
        have f70 : Fr G [2, 3, 4, 6, 107] v v64 := Fr.tr f14 (p66.2.2.2) (by decide)
        have e71 : v64 = F_X3_nextToken G w v11 h0 := (p66.2.2.1).2
        have hK : K_X3_readItems_c3 G w h0 (K_X3_readItems_14 G w h0 n14) v64 x15 = F_X3_readItems G w v h0 := ((kx_X3_readItems_10 (e71) (c61)).symm.trans hK)
        refine J_aload_n E dX3_readItems_25 0 rfl ?_
        refine J_getI E in_X3 rfl (S_X3.h S0) 3 (by decide) wd256 rfl dX3_readItems_26 (fun x72 e73 => ?_)
        refine J_if_ne E 38 dX3_readItems_29 (by decide) (fun c74 => ?_) (fun c74 => ?_)
        · exact J.sub [0, 1] rfl (J38 v64 (o68) (k69) f70 b63 ((kx_X3_readItems_11 (e73) (c74)).symm.trans hK))
        · have b75 : Bd x72 0 0 := Bd.eq_l c74 (Bd.any x72) (Bd.lit 0 0 (by decide)) 0 0 (by decide)
          refine J_iload_n E dX3_readItems_32 1 rfl ?_
          refine J_if_le E 38 dX3_readItems_33 (by decide) (fun c76 => ?_) (fun c76 => ?_)
          · have b77 : Bd x15 0 0 := Bd.le_l c76 b63 (Bd.lit 0 0 (by decide)) 0 (by decide)
            exact J.sub [0, 1] rfl (J38 v64 (o68) (k69) f70 (b77.w 0 150 (by decide)) ((kx_X3_readItems_12 (e73) (c74) (c76)).symm.trans hK))
          · have b78 : Bd x15 1 150 := Bd.lt_r (nle c76) (Bd.lit 0 0 (by decide)) b63 1 (by decide)
            refine J_iload_n E dX3_readItems_36 1 rfl ?_
            exact J_iret E hr dX3_readItems_37 ⟨o68, k69, (b78.w (-160) 150 (by decide)), ⟨⟨rfl, ((kx_X3_readItems_13 (e73) (c74) (c76)).symm.trans hK)⟩, f70⟩⟩
  have hK : K_X3_readItems_e G w v h0 = F_X3_readItems G w v h0 := rfl
  refine J_aload_n E dX3_readItems_0 0 rfl ?_
  refine J_iconst E 0 dX3_readItems_1 (by decide) ?_
  refine J_pI E in_X3 rfl (S_X3.h S0) 2 (by decide) wd255 tyX3 tyX3_ok nmX3 rfl rfl .int (by decide +kernel) rfl rfl dX3_readItems_2 (fun v79 e80 => ?_)
  have o81 : Ok G v79 w := Ok.pf hOk e80 (S_X3.h S0) rfl ((Bd.lit 0 0 (by decide)).w 0 150 (by decide))
  have f83 : Fr G [2, 3, 4, 6, 107] v v79 := Fr.st Fr.rf e80 (S_X3.h S0) rfl
  have e84 : (0 : Int32) = v79 h0 2 := by rw [e80, stv_s]
  refine J_aload_n E dX3_readItems_5 0 rfl ?_
  refine J_getR E in_X3 rfl (S_X3.h S0) 6 (by decide) wd259 rfl dX3_readItems_6 ?_
  refine J_callVNV E cal_X6_startAnew wd404 rfl (S_X6.h (S_X3.f6 S0)) [] [] (ct_X6_startAnew l D dA G v79 w (o81) (rf G h0 6) (S_X3.f6 S0)) rfl rfl (Nat.le_of_ble_eq_true rfl) ⟨rfl, rfl⟩ ⟨Nat.le_of_ble_eq_true rfl, Nat.le_of_ble_eq_true rfl⟩ dX3_readItems_9 (fun v85 w86 p87 => ?_)
  have ew9 : w = w86 := p87.2.2.1.1.symm
  subst ew9
  have o89 := p87.1
  have k90 : True := trivial
  have f91 : Fr G [2, 3, 4, 6, 107] v v85 := Fr.tr f83 (p87.2.2.2) (by decide)
  have e92 : v85 = F_X6_startAnew G w v79 (rf G h0 6) := (p87.2.2.1).2
  have hK : K_X3_readItems_c4 G w h0 v85 = F_X3_readItems G w v h0 := ((kx_X3_readItems_14 (e80) (e92)).symm.trans hK)
  refine J_iconst E 0 dX3_readItems_12 (by decide) ?_
  refine J_istore_n E [(1, .int 0), (0, .ref h0)] dX3_readItems_13 rfl (by decide) rfl ?_
  exact J.sub [1, 0] rfl (J14 247 v85 (o89) (k90) f91 0 ((Bd.lit 0 0 (by decide)).w 0 246 (by decide)) (Mu.start _ (Bd.lit 0 0 (by decide)) (by decide)) ((kx_X3_readItems_15).symm.trans hK))

def K_X7_read_c2 (G : Gm) (w : Mw) (h0 : Nat) (v14 : Mv) (x4 : Int32) : Int32 × Mv :=
  (x4, v14)
def K_X7_read_c1 (G : Gm) (w : Mw) (h0 : Nat) (v1 : Mv) (x4 : Int32) : Int32 × Mv :=
  if x4 < (0 : Int32) then ((x4, v1)) else (K_X7_read_c2 G w h0 (F_X6_copyFrom G w v1 (rf G h0 0) (rf G (rf G h0 1) 6)) x4)
def K_X7_read_e (G : Gm) (w : Mw) (v : Mv) (h0 : Nat) : Int32 × Mv :=
  K_X7_read_c1 G w h0 ((F_X3_readItems G w v (rf G h0 1)).2) ((F_X3_readItems G w v (rf G h0 1)).1)
def F_X7_read (G : Gm) (w : Mw) (v : Mv) (h0 : Nat) : Int32 × Mv := K_X7_read_e G w v h0
set_option maxRecDepth 100000 in
theorem kx_X7_read_1 {G : Gm} {w : Mw} {v : Mv} {h0 : Nat} {v1 : Mv} {x4 : Int32} (a0 : x4 = (F_X3_readItems G w v (rf G h0 1)).1) (a1 : v1 = (F_X3_readItems G w v (rf G h0 1)).2)  : K_X7_read_e G w v h0 = K_X7_read_c1 G w h0 v1 x4 := by
  subst a1; subst a0; first | rw [K_X7_read_e] | simp only [K_X7_read_e]
set_option maxRecDepth 100000 in
theorem kx_X7_read_2 {G : Gm} {w : Mw} {h0 : Nat} {v1 : Mv} {x4 : Int32}  (k0 : x4 < (0 : Int32)) : K_X7_read_c1 G w h0 v1 x4 = (x4, v1) := by
  first | rw [K_X7_read_c1, if_pos k0] | simp only [K_X7_read_c1, if_pos k0]
set_option maxRecDepth 100000 in
theorem kx_X7_read_3 {G : Gm} {w : Mw} {h0 : Nat} {v1 : Mv} {x4 : Int32} {v14 : Mv} (a0 : v14 = F_X6_copyFrom G w v1 (rf G h0 0) (rf G (rf G h0 1) 6)) (k0 : ¬ (x4 < (0 : Int32))) : K_X7_read_c1 G w h0 v1 x4 = K_X7_read_c2 G w h0 v14 x4 := by
  subst a0; first | rw [K_X7_read_c1, if_neg k0] | simp only [K_X7_read_c1, if_neg k0]
set_option maxRecDepth 100000 in
theorem kx_X7_read_4 {G : Gm} {w : Mw} {h0 : Nat} {v14 : Mv} {x4 : Int32}   : K_X7_read_c2 G w h0 v14 x4 = (x4, v14) := by
  first | rw [K_X7_read_c2] | simp only [K_X7_read_c2]
abbrev rm_X7_read : Room := { frames := 7, cells := 0, slots := 0, locals := 154 }
set_option maxHeartbeats 4000000 in
set_option maxRecDepth 100000 in
theorem ct_X7_read (l : Launch) (D : va_G) (dA : Nat → ClassId) (G : Gm) (v : Mv) (w : Mw) (hOk : Ok G v w) (adK adV : Nat → Nat) (h0 : Nat) (S0 : S_X7 G h0) : CtIS l yX7_read cX7_read 2 (some .int) rm_X7_read D dA G [.ref h0] v w adK adV (fun r v1 w1 => Ok G v1 w1 ∧ True ∧ True ∧ (w1 = w ∧ (r, v1) = F_X7_read G w v h0) ∧ Fr G [2, 3, 4, 6, 107, 120, 124] v v1) := by
  refine CtIS.of RX7 [(0, .ref h0)] (Nat.le_of_ble_eq_true rfl) rfl (by decide) rfl ?_
  intro p e s m args below meth c E hr hX hR
  have hK : K_X7_read_e G w v h0 = F_X7_read G w v h0 := rfl
  refine J_aload_n E dX7_read_0 0 rfl ?_
  refine J_getR E in_X7 rfl (S_X7.h S0) 1 (by decide) wd309 rfl dX7_read_1 ?_
  refine J_csVNI E hX hR cal_X3_readItems wd400 (rc_obj E.2.2.2.2.2.1 rfl (S_X3.h (S_X7.f1 S0))) [] [] (ct_X3_readItems l D dA G v w (hOk) adK adV (rf G h0 1) (S_X7.f1 S0)) rfl rfl (Nat.le_of_ble_eq_true rfl) ⟨rfl, rfl⟩ ⟨Nat.le_of_ble_eq_true rfl, Nat.le_of_ble_eq_true rfl⟩ dX7_read_4 (fun x4 v1 w2 p3 => ?_)
  have ew9 : w = w2 := p3.2.2.2.1.1.symm
  subst ew9
  have o5 := p3.1
  have k6 : True := trivial
  have f7 : Fr G [2, 3, 4, 6, 107, 120, 124] v v1 := Fr.tr Fr.rf (p3.2.2.2.2) (by decide)
  have b8 : Bd x4 (-160) 150 := p3.2.2.1
  have e9 : x4 = (F_X3_readItems G w v (rf G h0 1)).1 := congrArg Prod.fst (p3.2.2.2.1).2
  have e10 : v1 = (F_X3_readItems G w v (rf G h0 1)).2 := congrArg Prod.snd (p3.2.2.2.1).2
  have hK : K_X7_read_c1 G w h0 v1 x4 = F_X7_read G w v h0 := ((kx_X7_read_1 (e9) (e10)).symm.trans hK)
  refine J_istore_n E [(1, .int x4), (0, .ref h0)] dX7_read_7 rfl (by decide) rfl ?_
  refine J_iload_n E dX7_read_8 0 rfl ?_
  refine J_if_lt E 26 dX7_read_9 (by decide) (fun c11 => ?_) (fun c11 => ?_)
  · have b12 : Bd x4 (-160) (-1) := Bd.lt_l c11 b8 (Bd.lit 0 0 (by decide)) (-1) (by decide)
    refine J_iload_n E dX7_read_26 0 rfl ?_
    exact J_iret E hr dX7_read_27 ⟨o5, k6, trivial, ⟨⟨rfl, ((kx_X7_read_2 (c11)).symm.trans hK)⟩, f7⟩⟩
  · have b13 : Bd x4 0 150 := Bd.le_r (nlt c11) (Bd.lit 0 0 (by decide)) b8 0 (by decide)
    refine J_aload_n E dX7_read_12 1 rfl ?_
    refine J_getR E in_X7 rfl (S_X7.h S0) 0 (by decide) wd308 rfl dX7_read_13 ?_
    refine J_aload_n E dX7_read_16 1 rfl ?_
    refine J_getR E in_X7 rfl (S_X7.h S0) 1 (by decide) wd309 rfl dX7_read_17 ?_
    refine J_getRN E in_X3 rfl (S_X3.h (S_X7.f1 S0)) 6 (by decide) wd260 rfl dX7_read_20 ?_
    refine J_callVNV E cal_X6_copyFrom wd567 rfl (S_X6.h (S_X7.f0 S0)) [.ref (rf G (rf G h0 1) 6)] [] (ct_X6_copyFrom l D dA G v1 w (o5) (rf G h0 0) (S_X7.f0 S0) (rf G (rf G h0 1) 6) (S_X3.f6 (S_X7.f1 S0))) rfl rfl (Nat.le_of_ble_eq_true rfl) ⟨rfl, rfl⟩ ⟨Nat.le_of_ble_eq_true rfl, Nat.le_of_ble_eq_true rfl⟩ dX7_read_23 (fun v14 w15 p16 => ?_)
    have ew9 : w = w15 := p16.2.2.1.1.symm
    subst ew9
    have o18 := p16.1
    have k19 : True := trivial
    have f20 : Fr G [2, 3, 4, 6, 107, 120, 124] v v14 := Fr.tr f7 (p16.2.2.2) (by decide)
    have e21 : v14 = F_X6_copyFrom G w v1 (rf G h0 0) (rf G (rf G h0 1) 6) := (p16.2.2.1).2
    have hK : K_X7_read_c2 G w h0 v14 x4 = F_X7_read G w v h0 := ((kx_X7_read_3 (e21) (c11)).symm.trans hK)
    refine J_iload_n E dX7_read_26 0 rfl ?_
    exact J_iret E hr dX7_read_27 ⟨o18, k19, trivial, ⟨⟨rfl, ((kx_X7_read_4).symm.trans hK)⟩, f20⟩⟩
