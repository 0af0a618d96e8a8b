abbrev rm_X7_digest : Room := { frames := 3, cells := 0, slots := 0, locals := 69 }
set_option maxHeartbeats 4000000 in
set_option maxRecDepth 100000 in
theorem ct_X7_digest (l : Launch) (D : va_G) (dA : Nat → ClassId) (G : Gm) (v : Mv) (w : Mw) (hOk : Ok G v w) (h0 : Nat) (S0 : S_X7 G h0) : CtL l yX7_digest cX7_digest 4 (some .long) rm_X7_digest D dA G [.ref h0] v w (fun _ v1 w1 => v1 = v ∧ w1 = w ∧ True) := by
  refine CtL.of RX7 [(0, .ref h0)] (Nat.le_of_ble_eq_true rfl) rfl (by decide) rfl ?_
  intro p e s m args below meth c E hr
  have J6 : ∀ n : Nat, ∀ y1 : Int64, ∀ x2 : Int32, Bd x2 0 10 → Mu x2 10 n → J p l e rm_X7_digest s m args below meth c 0 0 (MQ below (QcL D dA G (fun _ v1 w1 => v1 = v ∧ w1 = w ∧ True)) args s 0 0 (dm G)) D dA G (dm G) s.heap 4 v w [(0, .ref h0), (1, .long y1), (3, .int x2)] 6 [] := by
    intro n
    induction n with
    | zero => intro y1 x2 b3 hm; exact hm.zero b3 (by decide)
    | succ n ih6 =>
      intro y1 x2 b3 hmu6
      refine J_iload_n E dX7_digest_6 2 rfl ?_
      refine J_bipush E 10 dX7_digest_7 (by decide) ?_
      refine J_icmp_ge E 31 dX7_digest_9 (by decide) (fun c4 => ?_) (fun c4 => ?_)
      · have b5 : Bd x2 10 10 := Bd.le_r c4 (Bd.lit 10 10 (by decide)) b3 10 (by decide)
        refine J_aload_n E dX7_digest_31 0 rfl ?_
        refine J_getR E in_X7 rfl (S_X7.h S0) 0 (by decide) wd308 rfl dX7_digest_32 ?_
        refine J_lload_n E dX7_digest_35 1 rfl ?_
        refine J_callVNL E cal_X6_mixInto wd914 rfl (S_X6.h (S_X7.f0 S0)) [.long y1] [] (ct_X6_mixInto l D dA G v w (hOk) (rf G h0 0) (S_X7.f0 S0) y1) rfl rfl (Nat.le_of_ble_eq_true rfl) ⟨rfl, rfl⟩ ⟨Nat.le_of_ble_eq_true rfl, Nat.le_of_ble_eq_true rfl⟩ dX7_digest_36 (fun y9 v6 w7 p8 => ?_)
        rw [p8.1, p8.2.1]
        refine J_lstore_n E [(1, .long y9), (0, .ref h0), (3, .int x2)] dX7_digest_39 rfl (by decide) rfl ?_
        refine J_ldc2 E wd913 dX7_digest_40 ?_
        refine J_lload_n E dX7_digest_43 0 rfl ?_
        refine J_lmul E dX7_digest_44 (fun y10 e11 => ?_)
        refine J_aload_n E dX7_digest_45 1 rfl ?_
        refine J_getL E in_X7 rfl (S_X7.h S0) 7 (by decide) wd315 rfl dX7_digest_46 (fun y12 e13 => ?_)
        refine J_ladd E dX7_digest_49 (fun y14 e15 => ?_)
        refine J_lstore_n E [(1, .long y14), (0, .ref h0), (3, .int x2)] dX7_digest_50 rfl (by decide) rfl ?_
        refine J_ldc2 E wd913 dX7_digest_51 ?_
        refine J_lload_n E dX7_digest_54 0 rfl ?_
        refine J_lmul E dX7_digest_55 (fun y16 e17 => ?_)
        refine J_aload_n E dX7_digest_56 1 rfl ?_
        refine J_getL E in_X7 rfl (S_X7.h S0) 8 (by decide) wd316 rfl dX7_digest_57 (fun y18 e19 => ?_)
        refine J_ladd E dX7_digest_60 (fun y20 e21 => ?_)
        exact J_lret E hr dX7_digest_61 ⟨rfl, rfl, trivial⟩
      · have b22 : Bd x2 0 9 := Bd.lt_l (nle c4) b3 (Bd.lit 10 10 (by decide)) 9 (by decide)
        refine J_ldc2 E wd913 dX7_digest_12 ?_
        refine J_lload_n E dX7_digest_15 1 rfl ?_
        refine J_lmul E dX7_digest_16 (fun y23 e24 => ?_)
        refine J_aload_n E dX7_digest_17 0 rfl ?_
        refine J_iload_n E dX7_digest_18 2 rfl ?_
        refine J_callVI E cal_X7_howMany wd900 rfl (S_X7.h S0) [.int x2] [.long y23] (ct_X7_howMany l D dA G v w (hOk) h0 S0 x2 b22) rfl rfl (Nat.le_of_ble_eq_true rfl) ⟨rfl, rfl⟩ ⟨Nat.le_of_ble_eq_true rfl, Nat.le_of_ble_eq_true rfl⟩ dX7_digest_19 (fun x28 v25 w26 p27 => ?_)
        rw [p27.1, p27.2.1]
        refine J_i2l E dX7_digest_22 (fun y29 e30 => ?_)
        refine J_ladd E dX7_digest_23 (fun y31 e32 => ?_)
        refine J_lstore_n E [(1, .long y31), (0, .ref h0), (3, .int x2)] dX7_digest_24 rfl (by decide) rfl ?_
        refine J_iinc E 2 1 (fun z => [(3, .int z), (1, .long y31), (0, .ref h0)]) dX7_digest_25 rfl (by decide) (by decide) (fun _ => rfl) (fun x33 e34 => ?_)
        have b35 : Bd x33 1 10 := (Bd.add e34 b22 (Bd.lit 1 1 (by decide)) (by decide)).w _ _ (by decide)
        refine J_goto E 6 dX7_digest_28 (by decide) ?_
        exact J.sub [2, 1, 0] rfl (ih6 y31 x33 (b35.w 0 10 (by decide)) (Mu.step hmu6 e34 b22 (Bd.lit 1 1 (by decide)) (by decide)))
  refine J_ldc2 E wd912 dX7_digest_0 ?_
  refine J_lstore_n E [(1, .long 1759), (0, .ref h0)] dX7_digest_3 rfl (by decide) rfl ?_
  refine J_iconst E 0 dX7_digest_4 (by decide) ?_
  refine J_istore_n E [(3, .int 0), (1, .long 1759), (0, .ref h0)] dX7_digest_5 rfl (by decide) rfl ?_
  exact J.sub [2, 1, 0] rfl (J6 11 1759 0 ((Bd.lit 0 0 (by decide)).w 0 10 (by decide)) (Mu.start _ (Bd.lit 0 0 (by decide)) (by decide)))
