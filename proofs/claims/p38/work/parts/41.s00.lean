abbrev rm_X3_isWord : Room := { frames := 4, cells := 0, slots := 0, locals := 85 }
set_option maxHeartbeats 4000000 in
set_option maxRecDepth 100000 in
theorem ct_X3_isWord (l : Launch) (D : va_G) (dA : Nat → ClassId) (G : Gm) (v : Mv) (w : Mw) (hOk : Ok G v w) (adK adV : Nat → Nat) (h0 : Nat) (S0 : S_X3 G h0) (i : Nat) (hi : i < 6) : CtIS l yX3_isWord cX3_isWord 3 (some .boolean) rm_X3_isWord D dA G [.ref h0, .ref (adK i)] v w adK adV (fun r v1 w1 => v1 = v ∧ w1 = w ∧ Bd r 0 1 ∧ True) := by
  refine CtIS.of RX3 [(0, .ref h0), (1, .ref (adK i))] (Nat.le_of_ble_eq_true rfl) rfl (by decide) rfl ?_
  intro p e s m args below meth c E hr hX hR
  obtain ⟨xs, es⟩ : ∃ z : Int32, z = v h0 4 := ⟨_, rfl⟩
  obtain ⟨xp, ep⟩ : ∃ z : Int32, z = v h0 2 := ⟨_, rfl⟩
  have bs : Bd xs 0 150 := Ok.fd hOk es (S_X3.h S0) rfl
  have bp : Bd xp 0 150 := Ok.fd hOk ep (S_X3.h S0) rfl
  obtain ⟨-, tL, t3, t6⟩ := sLen_tab i hi
  have J28 : (xs.toInt + (sLen.getD i 0 : Int) ≤ 150) → ∀ n : Nat, ∀ k : Int32, Bd k 0 6 → Mu k 6 n → J p l e rm_X3_isWord s m args below meth c 0 0 (MQ below (QcI D dA G (fun r v1 w1 => v1 = v ∧ w1 = w ∧ Bd r 0 1 ∧ True)) args s 0 0 (dm G)) D dA G (dm G) s.heap 3 v w [(0, .ref h0), (1, .ref (adK i)), (2, .int k)] 28 [] := by
    intro hrel n
    induction n with
    | zero => intro k bk hm; exact hm.zero bk (by decide)
    | succ n ih28 =>
      intro k bk hmu
      refine J_iload_n E dX3_isWord_28 2 rfl ?_
      refine J_aload_n E dX3_isWord_29 1 rfl ?_
      refine J_csVI E hX hR cal_J0_length_8abf5 wd423 (rc_str hX hi) [] [.int k] (cs_length l D dA G v w adK adV hi) rfl rfl (Nat.le_of_ble_eq_true rfl) ⟨rfl, rfl⟩ ⟨Nat.le_of_ble_eq_true rfl, Nat.le_of_ble_eq_true rfl⟩ dX3_isWord_30 (fun r v1 w1 hp => ?_)
      rw [hp.1, hp.2.1, hp.2.2]
      refine J_icmp_ge E 63 dX3_isWord_33 (by decide) (fun c1 => ?_) (fun c1 => ?_)
      · refine J_iconst E 1 dX3_isWord_63 (by decide) ?_
        exact J_zret E hr (Bd.z (Bd.lit 1 1 (by decide)) (by decide)) dX3_isWord_64 ⟨rfl, rfl, (Bd.lit 1 1 (by decide)).w 0 1 (by decide), trivial⟩
      · have hk : k < nI (sLen.getD i 0) := nle c1
        have hk2 : k.toInt < (sLen.getD i 0 : Int) := by rw [← tL]; exact Int32.lt_iff_toInt_lt.mp hk
        have bk5 : Bd k 0 5 := ⟨bk.1, by omega⟩
        refine J_aload_n E dX3_isWord_36 0 rfl ?_
        refine J_getR E in_X3 rfl (S_X3.h S0) 0 (by decide) wd252 rfl dX3_isWord_37 ?_
        refine J_aload_n E dX3_isWord_40 0 rfl ?_
        refine J_getI E in_X3 rfl (S_X3.h S0) 4 (by decide) wd257 rfl dX3_isWord_41 (fun x1 e1 => ?_)
        rw [show x1 = xs from e1.trans es.symm]
        refine J_iload_n E dX3_isWord_44 2 rfl ?_
        refine J_iadd E dX3_isWord_45 (fun x2 e2 => ?_)
        have b2 : Bd x2 0 149 := by
          obtain ⟨q1, q2⟩ := bs
          obtain ⟨q3, q4⟩ := bk
          have q5 : x2.toInt = xs.toInt + k.toInt := by rw [e2, fb_addI (by omega) (by omega)]
          unfold Bd
          omega
        refine J_iald1 E (S_X3.f0 S0) (Bd.in b2 (by decide)) dX3_isWord_46 (fun x3 e3 => ?_)
        refine J_aload_n E dX3_isWord_47 1 rfl ?_
        refine J_iload_n E dX3_isWord_48 2 rfl ?_
        refine J_csVI E hX hR cal_J0_charAt_5068e wd433 (rc_str hX hi) [.int k] [.int x3] (cs_charAt l D dA G v w adK adV hi k (by rw [Int32.le_iff_toInt_le]; exact bk.1) hk) rfl rfl (Nat.le_of_ble_eq_true rfl) ⟨rfl, rfl⟩ ⟨Nat.le_of_ble_eq_true rfl, Nat.le_of_ble_eq_true rfl⟩ dX3_isWord_49 (fun r2 v2 w2 hp2 => ?_)
        rw [hp2.1, hp2.2]
        refine J_icmp_eq E 57 dX3_isWord_52 (by decide) (fun c4 => ?_) (fun c4 => ?_)
        · refine J_iinc E 2 1 (fun z => [(2, .int z), (0, .ref h0), (1, .ref (adK i))]) dX3_isWord_57 rfl (by decide) (by decide) (fun _ => rfl) (fun x5 e5 => ?_)
          have b5 : Bd x5 1 6 := (Bd.add e5 bk5 (Bd.lit 1 1 (by decide)) (by decide)).w _ _ (by decide)
          refine J_goto E 28 dX3_isWord_60 (by decide) ?_
          exact J.sub [1, 2, 0] rfl (ih28 x5 (b5.w 0 6 (by decide)) (Mu.step hmu e5 bk5 (Bd.lit 1 1 (by decide)) (by decide)))
        · refine J_iconst E 0 dX3_isWord_55 (by decide) ?_
          exact J_zret E hr (Bd.z (Bd.lit 0 0 (by decide)) (by decide)) dX3_isWord_56 ⟨rfl, rfl, (Bd.lit 0 0 (by decide)).w 0 1 (by decide), trivial⟩
  refine J_aload_n E dX3_isWord_0 0 rfl ?_
  refine J_getI E in_X3 rfl (S_X3.h S0) 3 (by decide) wd256 rfl dX3_isWord_1 (fun x6 e6 => ?_)
  refine J_iconst E 1 dX3_isWord_4 (by decide) ?_
  refine J_icmp_ne E 24 dX3_isWord_5 (by decide) (fun c7 => ?_) (fun c7 => ?_)
  · refine J_iconst E 0 dX3_isWord_24 (by decide) ?_
    exact J_zret E hr (Bd.z (Bd.lit 0 0 (by decide)) (by decide)) dX3_isWord_25 ⟨rfl, rfl, (Bd.lit 0 0 (by decide)).w 0 1 (by decide), trivial⟩
  · refine J_aload_n E dX3_isWord_8 0 rfl ?_
    refine J_getI E in_X3 rfl (S_X3.h S0) 2 (by decide) wd255 rfl dX3_isWord_9 (fun x8 e8 => ?_)
    rw [show x8 = xp from e8.trans ep.symm]
    refine J_aload_n E dX3_isWord_12 0 rfl ?_
    refine J_getI E in_X3 rfl (S_X3.h S0) 4 (by decide) wd257 rfl dX3_isWord_13 (fun x9 e9 => ?_)
    rw [show x9 = xs from e9.trans es.symm]
    refine J_isub E dX3_isWord_16 (fun x10 e10 => ?_)
    refine J_aload_n E dX3_isWord_17 1 rfl ?_
    refine J_csVI E hX hR cal_J0_length_8abf5 wd423 (rc_str hX hi) [] [.int x10] (cs_length l D dA G v w adK adV hi) rfl rfl (Nat.le_of_ble_eq_true rfl) ⟨rfl, rfl⟩ ⟨Nat.le_of_ble_eq_true rfl, Nat.le_of_ble_eq_true rfl⟩ dX3_isWord_18 (fun r v1 w1 hp => ?_)
    rw [hp.1, hp.2.1, hp.2.2]
    refine J_icmp_eq E 26 dX3_isWord_21 (by decide) (fun c11 => ?_) (fun c11 => ?_)
    · have hrel : xs.toInt + (sLen.getD i 0 : Int) ≤ 150 := by
        obtain ⟨q1, q2⟩ := bs
        obtain ⟨q3, q4⟩ := bp
        have q5 : x10.toInt = xp.toInt - xs.toInt := by rw [e10, fb_subI (by omega) (by omega)]
        rw [c11, tL] at q5
        omega
      refine J_iconst E 0 dX3_isWord_26 (by decide) ?_
      refine J_istore_n E [(2, .int 0), (0, .ref h0), (1, .ref (adK i))] dX3_isWord_27 rfl (by decide) rfl ?_
      exact J.sub [1, 2, 0] rfl (J28 hrel 7 0 ((Bd.lit 0 0 (by decide)).w 0 6 (by decide)) (Mu.start _ (Bd.lit 0 0 (by decide)) (by decide)))
    · refine J_iconst E 0 dX3_isWord_24 (by decide) ?_
      exact J_zret E hr (Bd.z (Bd.lit 0 0 (by decide)) (by decide)) dX3_isWord_25 ⟨rfl, rfl, (Bd.lit 0 0 (by decide)).w 0 1 (by decide), trivial⟩

abbrev rm_X3_takeItem : Room := { frames := 5, cells := 0, slots := 0, locals := 112 }
set_option maxHeartbeats 4000000 in
set_option maxRecDepth 100000 in
theorem ct_X3_takeItem (l : Launch) (D : va_G) (dA : Nat → ClassId) (G : Gm) (v : Mv) (w : Mw) (hOk : Ok G v w) (adK adV : Nat → Nat) (h0 : Nat) (S0 : S_X3 G h0) (x_0 : Int32) (bx_0 : Bd x_0 0 1) : CtIS l yX3_takeItem cX3_takeItem 2 (some .boolean) rm_X3_takeItem D dA G [.ref h0, .int x_0] v w adK adV (fun r v1 w1 => Ok G v1 w1 ∧ Kp G v v1 ∧ Bd r 0 1 ∧ Fr G [2, 3, 6, 107] v v1) := by
  refine CtIS.of RX3 [(0, .ref h0), (1, .int x_0)] (Nat.le_of_ble_eq_true rfl) rfl (by decide) rfl ?_
  intro p e s m args below meth c E hr hX hR
  refine J_iload_n E dX3_takeItem_0 1 rfl ?_
  refine J_if_eq E 11 dX3_takeItem_1 (by decide) (fun c1 => ?_) (fun c1 => ?_)
  · have b2 : Bd x_0 0 0 := Bd.eq_l c1 bx_0 (Bd.lit 0 0 (by decide)) 0 0 (by decide)
    refine J_aload_n E dX3_takeItem_11 0 rfl ?_
    refine J_ldcS E hR.2.1 dX3_takeItem_12 ?_
    refine J_csVI E hX hR cal_X3_isWord wd419 (rc_obj E.2.2.2.2.2.1 rfl (S_X3.h S0)) [.ref (adK 1)] [] (ct_X3_isWord l D dA G v w (hOk) adK adV h0 S0 1 (by decide)) rfl rfl (Nat.le_of_ble_eq_true rfl) ⟨rfl, rfl⟩ ⟨Nat.le_of_ble_eq_true rfl, Nat.le_of_ble_eq_true rfl⟩ dX3_takeItem_14 (fun x6 v3 w4 p5 => ?_)
    rw [p5.1, p5.2.1]
    have b7 : Bd x6 0 1 := p5.2.2.1
    refine J_if_eq E 25 dX3_takeItem_17 (by decide) (fun c8 => ?_) (fun c8 => ?_)
    · have b9 : Bd x6 0 0 := Bd.eq_l c8 b7 (Bd.lit 0 0 (by decide)) 0 0 (by decide)
      refine J_aload_n E dX3_takeItem_25 0 rfl ?_
      refine J_ldcS E hR.2.2.1 dX3_takeItem_26 ?_
      refine J_csVI E hX hR cal_X3_isWord wd419 (rc_obj E.2.2.2.2.2.1 rfl (S_X3.h S0)) [.ref (adK 2)] [] (ct_X3_isWord l D dA G v w (hOk) adK adV h0 S0 2 (by decide)) rfl rfl (Nat.le_of_ble_eq_true rfl) ⟨rfl, rfl⟩ ⟨Nat.le_of_ble_eq_true rfl, Nat.le_of_ble_eq_true rfl⟩ dX3_takeItem_28 (fun x13 v10 w11 p12 => ?_)
      rw [p12.1, p12.2.1]
      have b14 : Bd x13 0 1 := p12.2.2.1
      refine J_if_eq E 39 dX3_takeItem_31 (by decide) (fun c15 => ?_) (fun c15 => ?_)
      · have b16 : Bd x13 0 0 := Bd.eq_l c15 b14 (Bd.lit 0 0 (by decide)) 0 0 (by decide)
        refine J_aload_n E dX3_takeItem_39 0 rfl ?_
        refine J_ldcS E hR.2.2.2.1 dX3_takeItem_40 ?_
        refine J_csVI E hX hR cal_X3_isWord wd419 (rc_obj E.2.2.2.2.2.1 rfl (S_X3.h S0)) [.ref (adK 3)] [] (ct_X3_isWord l D dA G v w (hOk) adK adV h0 S0 3 (by decide)) rfl rfl (Nat.le_of_ble_eq_true rfl) ⟨rfl, rfl⟩ ⟨Nat.le_of_ble_eq_true rfl, Nat.le_of_ble_eq_true rfl⟩ dX3_takeItem_42 (fun x20 v17 w18 p19 => ?_)
        rw [p19.1, p19.2.1]
        have b21 : Bd x20 0 1 := p19.2.2.1
        refine J_if_eq E 53 dX3_takeItem_45 (by decide) (fun c22 => ?_) (fun c22 => ?_)
        · have b23 : Bd x20 0 0 := Bd.eq_l c22 b21 (Bd.lit 0 0 (by decide)) 0 0 (by decide)
          refine J_aload_n E dX3_takeItem_53 0 rfl ?_
          refine J_ldcS E hR.2.2.2.2.1 dX3_takeItem_54 ?_
          refine J_csVI E hX hR cal_X3_isWord wd419 (rc_obj E.2.2.2.2.2.1 rfl (S_X3.h S0)) [.ref (adK 4)] [] (ct_X3_isWord l D dA G v w (hOk) adK adV h0 S0 4 (by decide)) rfl rfl (Nat.le_of_ble_eq_true rfl) ⟨rfl, rfl⟩ ⟨Nat.le_of_ble_eq_true rfl, Nat.le_of_ble_eq_true rfl⟩ dX3_takeItem_56 (fun x27 v24 w25 p26 => ?_)
          rw [p26.1, p26.2.1]
          have b28 : Bd x27 0 1 := p26.2.2.1
          refine J_if_eq E 67 dX3_takeItem_59 (by decide) (fun c29 => ?_) (fun c29 => ?_)
          · have b30 : Bd x27 0 0 := Bd.eq_l c29 b28 (Bd.lit 0 0 (by decide)) 0 0 (by decide)
            refine J_aload_n E dX3_takeItem_67 0 rfl ?_
            refine J_ldcS E hR.2.2.2.2.2 dX3_takeItem_68 ?_
            refine J_csVI E hX hR cal_X3_isWord wd419 (rc_obj E.2.2.2.2.2.1 rfl (S_X3.h S0)) [.ref (adK 5)] [] (ct_X3_isWord l D dA G v w (hOk) adK adV h0 S0 5 (by decide)) rfl rfl (Nat.le_of_ble_eq_true rfl) ⟨rfl, rfl⟩ ⟨Nat.le_of_ble_eq_true rfl, Nat.le_of_ble_eq_true rfl⟩ dX3_takeItem_70 (fun x34 v31 w32 p33 => ?_)
            rw [p33.1, p33.2.1]
            have b35 : Bd x34 0 1 := p33.2.2.1
            refine J_if_eq E 87 dX3_takeItem_73 (by decide) (fun c36 => ?_) (fun c36 => ?_)
            · have b37 : Bd x34 0 0 := Bd.eq_l c36 b35 (Bd.lit 0 0 (by decide)) 0 0 (by decide)
              refine J_iconst E 0 dX3_takeItem_87 (by decide) ?_
              exact J_zret E hr (Bd.z (Bd.lit 0 0 (by decide)) (by decide)) dX3_takeItem_88 ⟨hOk, Kp.rf, ((Bd.lit 0 0 (by decide)).w 0 1 (by decide)), Fr.rf⟩
            · have b38 : Bd x34 1 1 := (Bd.ne_lo c36 b35 (Bd.lit 0 0 (by decide))).w _ _ (by decide)
              refine J_aload_n E dX3_takeItem_76 0 rfl ?_
              refine J_callVI E cal_X3_takeYears wd514 rfl (S_X3.h S0) [] [] (ct_X3_takeYears l D dA G v w (hOk) h0 S0) rfl rfl (Nat.le_of_ble_eq_true rfl) ⟨rfl, rfl⟩ ⟨Nat.le_of_ble_eq_true rfl, Nat.le_of_ble_eq_true rfl⟩ dX3_takeItem_77 (fun x42 v39 w40 p41 => ?_)
              have o43 := p41.1
              have k44 : Kp G v v39 := (Kp.rf).tr p41.2.1
              have f45 : Fr G [2, 3, 6, 107] v v39 := Fr.tr Fr.rf (p41.2.2.2) (by decide)
              have b46 : Bd x42 0 1 := p41.2.2.1
              refine J_if_eq E 87 dX3_takeItem_80 (by decide) (fun c47 => ?_) (fun c47 => ?_)
              · have b48 : Bd x42 0 0 := Bd.eq_l c47 b46 (Bd.lit 0 0 (by decide)) 0 0 (by decide)
                refine J_iconst E 0 dX3_takeItem_87 (by decide) ?_
                exact J_zret E hr (Bd.z (Bd.lit 0 0 (by decide)) (by decide)) dX3_takeItem_88 ⟨o43, k44, ((Bd.lit 0 0 (by decide)).w 0 1 (by decide)), f45⟩
              · have b49 : Bd x42 1 1 := (Bd.ne_lo c47 b46 (Bd.lit 0 0 (by decide))).w _ _ (by decide)
                refine J_iconst E 1 dX3_takeItem_83 (by decide) ?_
                refine J_goto E 88 dX3_takeItem_84 (by decide) ?_
                exact J_zret E hr (Bd.z (Bd.lit 1 1 (by decide)) (by decide)) dX3_takeItem_88 ⟨o43, k44, ((Bd.lit 1 1 (by decide)).w 0 1 (by decide)), f45⟩
          · have b50 : Bd x27 1 1 := (Bd.ne_lo c29 b28 (Bd.lit 0 0 (by decide))).w _ _ (by decide)
            refine J_aload_n E dX3_takeItem_62 0 rfl ?_
            refine J_callVI E cal_X3_takeLeave wd509 rfl (S_X3.h S0) [] [] (ct_X3_takeLeave l D dA G v w (hOk) h0 S0) rfl rfl (Nat.le_of_ble_eq_true rfl) ⟨rfl, rfl⟩ ⟨Nat.le_of_ble_eq_true rfl, Nat.le_of_ble_eq_true rfl⟩ dX3_takeItem_63 (fun x54 v51 w52 p53 => ?_)
            have o55 := p53.1
            have k56 : Kp G v v51 := (Kp.rf).tr p53.2.1
            have f57 : Fr G [2, 3, 6, 107] v v51 := Fr.tr Fr.rf (p53.2.2.2) (by decide)
            have b58 : Bd x54 0 1 := p53.2.2.1
            exact J_zret E hr (Bd.z b58 (by decide)) dX3_takeItem_66 ⟨o55, k56, b58, f57⟩
        · have b59 : Bd x20 1 1 := (Bd.ne_lo c22 b21 (Bd.lit 0 0 (by decide))).w _ _ (by decide)
          refine J_aload_n E dX3_takeItem_48 0 rfl ?_
          refine J_callVI E cal_X3_takeOwn wd488 rfl (S_X3.h S0) [] [] (ct_X3_takeOwn l D dA G v w (hOk) h0 S0) rfl rfl (Nat.le_of_ble_eq_true rfl) ⟨rfl, rfl⟩ ⟨Nat.le_of_ble_eq_true rfl, Nat.le_of_ble_eq_true rfl⟩ dX3_takeItem_49 (fun x63 v60 w61 p62 => ?_)
          have o64 := p62.1
          have k65 : Kp G v v60 := (Kp.rf).tr p62.2.1
          have f66 : Fr G [2, 3, 6, 107] v v60 := Fr.tr Fr.rf (p62.2.2.2) (by decide)
          have b67 : Bd x63 0 1 := p62.2.2.1
          exact J_zret E hr (Bd.z b67 (by decide)) dX3_takeItem_52 ⟨o64, k65, b67, f66⟩
      · have b68 : Bd x13 1 1 := (Bd.ne_lo c15 b14 (Bd.lit 0 0 (by decide))).w _ _ (by decide)
        refine J_aload_n E dX3_takeItem_34 0 rfl ?_
        refine J_callVI E cal_X3_takeOne wd482 rfl (S_X3.h S0) [] [] (ct_X3_takeOne l D dA G v w (hOk) h0 S0) rfl rfl (Nat.le_of_ble_eq_true rfl) ⟨rfl, rfl⟩ ⟨Nat.le_of_ble_eq_true rfl, Nat.le_of_ble_eq_true rfl⟩ dX3_takeItem_35 (fun x72 v69 w70 p71 => ?_)
        have o73 := p71.1
        have k74 : Kp G v v69 := (Kp.rf).tr p71.2.1
        have f75 : Fr G [2, 3, 6, 107] v v69 := Fr.tr Fr.rf (p71.2.2.2) (by decide)
        have b76 : Bd x72 0 1 := p71.2.2.1
        exact J_zret E hr (Bd.z b76 (by decide)) dX3_takeItem_38 ⟨o73, k74, b76, f75⟩
    · have b77 : Bd x6 1 1 := (Bd.ne_lo c8 b7 (Bd.lit 0 0 (by decide))).w _ _ (by decide)
      refine J_aload_n E dX3_takeItem_20 0 rfl ?_
      refine J_callVI E cal_X3_takeThing wd472 rfl (S_X3.h S0) [] [] (ct_X3_takeThing l D dA G v w (hOk) h0 S0) rfl rfl (Nat.le_of_ble_eq_true rfl) ⟨rfl, rfl⟩ ⟨Nat.le_of_ble_eq_true rfl, Nat.le_of_ble_eq_true rfl⟩ dX3_takeItem_21 (fun x81 v78 w79 p80 => ?_)
      have o82 := p80.1
      have k83 : Kp G v v78 := (Kp.rf).tr p80.2.1
      have f84 : Fr G [2, 3, 6, 107] v v78 := Fr.tr Fr.rf (p80.2.2.2) (by decide)
      have b85 : Bd x81 0 1 := p80.2.2.1
      exact J_zret E hr (Bd.z b85 (by decide)) dX3_takeItem_24 ⟨o82, k83, b85, f84⟩
  · have b86 : Bd x_0 1 1 := (Bd.ne_lo c1 bx_0 (Bd.lit 0 0 (by decide))).w _ _ (by decide)
    refine J_aload_n E dX3_takeItem_4 0 rfl ?_
    refine J_ldcS E hR.1 dX3_takeItem_5 ?_
    refine J_csVI E hX hR cal_X3_isWord wd419 (rc_obj E.2.2.2.2.2.1 rfl (S_X3.h S0)) [.ref (adK 0)] [] (ct_X3_isWord l D dA G v w (hOk) adK adV h0 S0 0 (by decide)) rfl rfl (Nat.le_of_ble_eq_true rfl) ⟨rfl, rfl⟩ ⟨Nat.le_of_ble_eq_true rfl, Nat.le_of_ble_eq_true rfl⟩ dX3_takeItem_7 (fun x90 v87 w88 p89 => ?_)
    rw [p89.1, p89.2.1]
    have b91 : Bd x90 0 1 := p89.2.2.1
    exact J_zret E hr (Bd.z b91 (by decide)) dX3_takeItem_10 ⟨hOk, Kp.rf, b91, Fr.rf⟩

abbrev rm_X3_readItems : Room := { frames := 6, cells := 0, slots := 0, locals := 133 }
set_option maxHeartbeats 4000000 in
set_option maxRecDepth 100000 in
theorem ct_X3_readItems (l : Launch) (D : va_G) (dA : Nat → ClassId) (G : Gm) (v : Mv) (w : Mw) (hOk : Ok G v w) (adK adV : Nat → Nat) (h0 : Nat) (S0 : S_X3 G h0) : CtIS l yX3_readItems cX3_readItems 2 (some .int) rm_X3_readItems D dA G [.ref h0] v w adK adV (fun r v1 w1 => Ok G v1 w1 ∧ Kp G v v1 ∧ Bd r (-160) 150 ∧ Fr G [2, 3, 4, 6, 107] v v1) := by
  refine CtIS.of RX3 [(0, .ref h0)] (Nat.le_of_ble_eq_true rfl) rfl (by decide) rfl ?_
  intro p e s m args below meth c E hr hX hR
  have J70 : ∀ (v1 : Mv) (w2 : Mw), Ok G v1 w2 → Kp G v v1 → Fr G [2, 3, 4, 6, 107] v v1 → J p l e rm_X3_readItems s m args below meth c 0 0 (MQ below (QcI D dA G (fun r v1 w1 => Ok G v1 w1 ∧ Kp G v v1 ∧ Bd r (-160) 150 ∧ Fr G [2, 3, 4, 6, 107] v v1)) args s 0 0 (dm G)) D dA G (dm G) s.heap 2 v1 w2 [(0, .ref h0)] 70 [] := by
    intro v1 w2 o3 k4 f5
    refine J_bipush E (-10) dX3_readItems_70 (by decide) ?_
    refine J_aload_n E dX3_readItems_72 0 rfl ?_
    refine J_getI E in_X3 rfl (S_X3.h S0) 4 (by decide) wd257 rfl dX3_readItems_73 (fun x6 e7 => ?_)
    have b8 : Bd x6 0 150 := Ok.fd o3 e7 (S_X3.h S0) rfl
    refine J_isub E dX3_readItems_76 (fun x9 e10 => ?_)
    have b11 : Bd x9 (-160) (-10) := (Bd.sub e10 (Bd.lit (-10) (-10) (by decide)) b8 (by decide)).w _ _ (by decide)
    exact J_iret E hr dX3_readItems_77 ⟨o3, k4, (b11.w (-160) 150 (by decide)), f5⟩
  have J14 : ∀ n : Nat, ∀ (v12 : Mv) (w13 : Mw), Ok G v12 w13 → Kp G v v12 → Fr G [2, 3, 4, 6, 107] v v12 → ∀ x17 : Int32, Bd x17 0 246 → Mu x17 246 n → J p l e rm_X3_readItems s m args below meth c 0 0 (MQ below (QcI D dA G (fun r v1 w1 => Ok G v1 w1 ∧ Kp G v v1 ∧ Bd r (-160) 150 ∧ Fr G [2, 3, 4, 6, 107] v v1)) args s 0 0 (dm G)) D dA G (dm G) s.heap 2 v12 w13 [(0, .ref h0), (1, .int x17)] 14 [] := by
    intro n
    induction n with
    | zero => intro v12 w13 o14 k15 f16 x17 b18 hm; exact hm.zero b18 (by decide)
    | succ n ih14 =>
      intro v12 w13 o14 k15 f16 x17 b18 hmu14
      have J48 : ∀ (v19 : Mv) (w20 : Mw), Ok G v19 w20 → Kp G v v19 → Fr G [2, 3, 4, 6, 107] v v19 → Bd x17 0 150 → ∀ x25 : Int32, Bd x25 0 1 → J p l e rm_X3_readItems s m args below meth c 0 0 (MQ below (QcI D dA G (fun r v1 w1 => Ok G v1 w1 ∧ Kp G v v1 ∧ Bd r (-160) 150 ∧ Fr G [2, 3, 4, 6, 107] v v1)) args s 0 0 (dm G)) D dA G (dm G) s.heap 2 v19 w20 [(0, .ref h0), (1, .int x17)] 48 [.int x25, .ref h0] := by
        intro v19 w20 o21 k22 f23 b24 x25 b26
        refine J_csVI E hX hR cal_X3_takeItem wd414 (rc_obj E.2.2.2.2.2.1 rfl (S_X3.h S0)) [.int x25] [] (ct_X3_takeItem l D dA G v19 w20 (o21) adK adV h0 S0 x25 b26) rfl rfl (Nat.le_of_ble_eq_true rfl) ⟨rfl, rfl⟩ ⟨Nat.le_of_ble_eq_true rfl, Nat.le_of_ble_eq_true rfl⟩ dX3_readItems_48 (fun x30 v27 w28 p29 => ?_)
        have o31 := p29.1
        have k32 : Kp G v v27 := (k22).tr p29.2.1
        have f33 : Fr G [2, 3, 4, 6, 107] v v27 := Fr.tr f23 (p29.2.2.2) (by decide)
        have b34 : Bd x30 0 1 := p29.2.2.1
        refine J_if_eq E 70 dX3_readItems_51 (by decide) (fun c35 => ?_) (fun c35 => ?_)
        · have b36 : Bd x30 0 0 := Bd.eq_l c35 b34 (Bd.lit 0 0 (by decide)) 0 0 (by decide)
          exact J.sub [0] rfl (J70 v27 w28 (o31) (k32) f33)
        · have b37 : Bd x30 1 1 := (Bd.ne_lo c35 b34 (Bd.lit 0 0 (by decide))).w _ _ (by decide)
          refine J_aload_n E dX3_readItems_54 0 rfl ?_
          refine J_callVI E cal_X3_takeStop wd563 rfl (S_X3.h S0) [] [] (ct_X3_takeStop l D dA G v27 w28 (o31) h0 S0) rfl rfl (Nat.le_of_ble_eq_true rfl) ⟨rfl, rfl⟩ ⟨Nat.le_of_ble_eq_true rfl, Nat.le_of_ble_eq_true rfl⟩ dX3_readItems_55 (fun x41 v38 w39 p40 => ?_)
          have o42 := p40.1
          have k43 : Kp G v v38 := (k32).tr p40.2.1
          have f44 : Fr G [2, 3, 4, 6, 107] v v38 := Fr.tr f33 (p40.2.2.2) (by decide)
          have b45 : Bd x41 0 1 := p40.2.2.1
          refine J_if_ne E 64 dX3_readItems_58 (by decide) (fun c46 => ?_) (fun c46 => ?_)
          · have b47 : Bd x41 1 1 := (Bd.ne_lo c46 b45 (Bd.lit 0 0 (by decide))).w _ _ (by decide)
            refine J_iinc E 1 1 (fun z => [(1, .int z), (0, .ref h0)]) dX3_readItems_64 rfl (by decide) (by decide) (fun _ => rfl) (fun x48 e49 => ?_)
            have b50 : Bd x48 1 151 := (Bd.add e49 b24 (Bd.lit 1 1 (by decide)) (by decide)).w _ _ (by decide)
            refine J_goto E 14 dX3_readItems_67 (by decide) ?_
            exact J.sub [1, 0] rfl (ih14 v38 w39 (o42) (k43) f44 x48 (b50.w 0 246 (by decide)) (Mu.step hmu14 e49 b24 (Bd.lit 1 1 (by decide)) (by decide)))
          · have b51 : Bd x41 0 0 := Bd.eq_l c46 b45 (Bd.lit 0 0 (by decide)) 0 0 (by decide)
            refine J_goto E 70 dX3_readItems_61 (by decide) ?_
            exact J.sub [0] rfl (J70 v38 w39 (o42) (k43) f44)
      have J38 : ∀ (v52 : Mv) (w53 : Mw), Ok G v52 w53 → Kp G v v52 → Fr G [2, 3, 4, 6, 107] v v52 → Bd x17 0 150 → J p l e rm_X3_readItems s m args below meth c 0 0 (MQ below (QcI D dA G (fun r v1 w1 => Ok G v1 w1 ∧ Kp G v v1 ∧ Bd r (-160) 150 ∧ Fr G [2, 3, 4, 6, 107] v v1)) args s 0 0 (dm G)) D dA G (dm G) s.heap 2 v52 w53 [(0, .ref h0), (1, .int x17)] 38 [] := by
        intro v52 w53 o54 k55 f56 b57
        refine J_aload_n E dX3_readItems_38 0 rfl ?_
        refine J_iload_n E dX3_readItems_39 1 rfl ?_
        refine J_if_ne E 47 dX3_readItems_40 (by decide) (fun c58 => ?_) (fun c58 => ?_)
        · have b59 : Bd x17 1 150 := (Bd.ne_lo c58 b57 (Bd.lit 0 0 (by decide))).w _ _ (by decide)
          refine J_iconst E 0 dX3_readItems_47 (by decide) ?_
          exact J.sub [0, 1] rfl (J48 v52 w53 (o54) (k55) f56 (b59.w 0 150 (by decide)) 0 ((Bd.lit 0 0 (by decide)).w 0 1 (by decide)))
        · have b60 : Bd x17 0 0 := Bd.eq_l c58 b57 (Bd.lit 0 0 (by decide)) 0 0 (by decide)
          refine J_iconst E 1 dX3_readItems_43 (by decide) ?_
          refine J_goto E 48 dX3_readItems_44 (by decide) ?_
          exact J.sub [0, 1] rfl (J48 v52 w53 (o54) (k55) f56 (b60.w 0 150 (by decide)) 1 ((Bd.lit 1 1 (by decide)).w 0 1 (by decide)))
      refine J_iload_n E dX3_readItems_14 1 rfl ?_
      refine J_sipush E 150 dX3_readItems_15 (by decide) ?_
      refine J_icmp_gt E 70 dX3_readItems_18 (by decide) (fun c61 => ?_) (fun c61 => ?_)
      · have b62 : Bd x17 151 246 := Bd.lt_r c61 (Bd.lit 150 150 (by decide)) b18 151 (by decide)
        exact J.sub [0] rfl (J70 v12 w13 (o14) (k15) f16)
      · have b63 : Bd x17 0 150 := Bd.le_l (nlt c61) b18 (Bd.lit 150 150 (by decide)) 150 (by decide)
        refine J_aload_n E dX3_readItems_21 0 rfl ?_
        refine J_callVV E cal_X3_nextToken wd405 rfl (S_X3.h S0) [] [] (ct_X3_nextToken l D dA G v12 w13 (o14) h0 S0) rfl rfl (Nat.le_of_ble_eq_true rfl) ⟨rfl, rfl⟩ ⟨Nat.le_of_ble_eq_true rfl, Nat.le_of_ble_eq_true rfl⟩ dX3_readItems_22 (fun v64 w65 p66 => ?_)
        have o68 := p66.1
        have k69 : Kp G v v64 := (k15).tr p66.2.1
        have f70 : Fr G [2, 3, 4, 6, 107] v v64 := Fr.tr f16 (p66.2.2) (by decide)
        refine J_aload_n E dX3_readItems_25 0 rfl ?_
        refine J_getI E in_X3 rfl (S_X3.h S0) 3 (by decide) wd256 rfl dX3_readItems_26 (fun x71 e72 => ?_)
        refine J_if_ne E 38 dX3_readItems_29 (by decide) (fun c73 => ?_) (fun c73 => ?_)
        · exact J.sub [0, 1] rfl (J38 v64 w65 (o68) (k69) f70 b63)
        · have b74 : Bd x71 0 0 := Bd.eq_l c73 (Bd.any x71) (Bd.lit 0 0 (by decide)) 0 0 (by decide)
          refine J_iload_n E dX3_readItems_32 1 rfl ?_
          refine J_if_le E 38 dX3_readItems_33 (by decide) (fun c75 => ?_) (fun c75 => ?_)
          · have b76 : Bd x17 0 0 := Bd.le_l c75 b63 (Bd.lit 0 0 (by decide)) 0 (by decide)
            exact J.sub [0, 1] rfl (J38 v64 w65 (o68) (k69) f70 (b76.w 0 150 (by decide)))
          · have b77 : Bd x17 1 150 := Bd.lt_r (nle c75) (Bd.lit 0 0 (by decide)) b63 1 (by decide)
            refine J_iload_n E dX3_readItems_36 1 rfl ?_
            exact J_iret E hr dX3_readItems_37 ⟨o68, k69, (b77.w (-160) 150 (by decide)), f70⟩
  refine J_aload_n E dX3_readItems_0 0 rfl ?_
  refine J_iconst E 0 dX3_readItems_1 (by decide) ?_
  refine J_pI E in_X3 rfl (S_X3.h S0) 2 (by decide) wd255 tyX3 tyX3_ok nmX3 rfl rfl .int (by decide +kernel) rfl rfl dX3_readItems_2 (fun v78 e79 => ?_)
  have o80 : Ok G v78 w := Ok.pf hOk e79 (S_X3.h S0) rfl ((Bd.lit 0 0 (by decide)).w 0 150 (by decide))
  have k81 : Kp G v v78 := Kp.pf Kp.rf e79 (S_X3.h S0) rfl
  have f82 : Fr G [2, 3, 4, 6, 107] v v78 := Fr.st Fr.rf e79 (S_X3.h S0) rfl
  have e83 : (0 : Int32) = v78 h0 2 := by rw [e79, stv_s]
  refine J_aload_n E dX3_readItems_5 0 rfl ?_
  refine J_getR E in_X3 rfl (S_X3.h S0) 6 (by decide) wd259 rfl dX3_readItems_6 ?_
  refine J_callVNV E cal_X6_startAnew wd404 rfl (S_X6.h (S_X3.f6 S0)) [] [] (ct_X6_startAnew l D dA G v78 w (o80) (rf G h0 6) (S_X3.f6 S0)) rfl rfl (Nat.le_of_ble_eq_true rfl) ⟨rfl, rfl⟩ ⟨Nat.le_of_ble_eq_true rfl, Nat.le_of_ble_eq_true rfl⟩ dX3_readItems_9 (fun v84 w85 p86 => ?_)
  have o88 := p86.1
  have k89 : Kp G v v84 := (k81).tr p86.2.1
  have f90 : Fr G [2, 3, 4, 6, 107] v v84 := Fr.tr f82 (p86.2.2) (by decide)
  refine J_iconst E 0 dX3_readItems_12 (by decide) ?_
  refine J_istore_n E [(1, .int 0), (0, .ref h0)] dX3_readItems_13 rfl (by decide) rfl ?_
  exact J.sub [1, 0] rfl (J14 247 v84 w85 (o88) (k89) f90 0 ((Bd.lit 0 0 (by decide)).w 0 246 (by decide)) (Mu.start _ (Bd.lit 0 0 (by decide)) (by decide)))

abbrev rm_X7_read : Room := { frames := 7, cells := 0, slots := 0, locals := 154 }
set_option maxHeartbeats 4000000 in
set_option maxRecDepth 100000 in
theorem ct_X7_read (l : Launch) (D : va_G) (dA : Nat → ClassId) (G : Gm) (v : Mv) (w : Mw) (hOk : Ok G v w) (adK adV : Nat → Nat) (h0 : Nat) (S0 : S_X7 G h0) : CtIS l yX7_read cX7_read 2 (some .int) rm_X7_read D dA G [.ref h0] v w adK adV (fun r v1 w1 => Ok G v1 w1 ∧ Kp G v v1 ∧ True ∧ Fr G [2, 3, 4, 6, 107, 120, 124] v v1) := by
  refine CtIS.of RX7 [(0, .ref h0)] (Nat.le_of_ble_eq_true rfl) rfl (by decide) rfl ?_
  intro p e s m args below meth c E hr hX hR
  refine J_aload_n E dX7_read_0 0 rfl ?_
  refine J_getR E in_X7 rfl (S_X7.h S0) 1 (by decide) wd309 rfl dX7_read_1 ?_
  refine J_csVNI E hX hR cal_X3_readItems wd400 (rc_obj E.2.2.2.2.2.1 rfl (S_X3.h (S_X7.f1 S0))) [] [] (ct_X3_readItems l D dA G v w (hOk) adK adV (rf G h0 1) (S_X7.f1 S0)) rfl rfl (Nat.le_of_ble_eq_true rfl) ⟨rfl, rfl⟩ ⟨Nat.le_of_ble_eq_true rfl, Nat.le_of_ble_eq_true rfl⟩ dX7_read_4 (fun x4 v1 w2 p3 => ?_)
  have o5 := p3.1
  have k6 : Kp G v v1 := (Kp.rf).tr p3.2.1
  have f7 : Fr G [2, 3, 4, 6, 107, 120, 124] v v1 := Fr.tr Fr.rf (p3.2.2.2) (by decide)
  have b8 : Bd x4 (-160) 150 := p3.2.2.1
  refine J_istore_n E [(1, .int x4), (0, .ref h0)] dX7_read_7 rfl (by decide) rfl ?_
  refine J_iload_n E dX7_read_8 0 rfl ?_
  refine J_if_lt E 26 dX7_read_9 (by decide) (fun c9 => ?_) (fun c9 => ?_)
  · have b10 : Bd x4 (-160) (-1) := Bd.lt_l c9 b8 (Bd.lit 0 0 (by decide)) (-1) (by decide)
    refine J_iload_n E dX7_read_26 0 rfl ?_
    exact J_iret E hr dX7_read_27 ⟨o5, k6, trivial, f7⟩
  · have b11 : Bd x4 0 150 := Bd.le_r (nlt c9) (Bd.lit 0 0 (by decide)) b8 0 (by decide)
    refine J_aload_n E dX7_read_12 1 rfl ?_
    refine J_getR E in_X7 rfl (S_X7.h S0) 0 (by decide) wd308 rfl dX7_read_13 ?_
    refine J_aload_n E dX7_read_16 1 rfl ?_
    refine J_getR E in_X7 rfl (S_X7.h S0) 1 (by decide) wd309 rfl dX7_read_17 ?_
    refine J_getRN E in_X3 rfl (S_X3.h (S_X7.f1 S0)) 6 (by decide) wd260 rfl dX7_read_20 ?_
    refine J_callVNV E cal_X6_copyFrom wd567 rfl (S_X6.h (S_X7.f0 S0)) [.ref (rf G (rf G h0 1) 6)] [] (ct_X6_copyFrom l D dA G v1 w2 (o5) (rf G h0 0) (S_X7.f0 S0) (rf G (rf G h0 1) 6) (S_X3.f6 (S_X7.f1 S0))) rfl rfl (Nat.le_of_ble_eq_true rfl) ⟨rfl, rfl⟩ ⟨Nat.le_of_ble_eq_true rfl, Nat.le_of_ble_eq_true rfl⟩ dX7_read_23 (fun v12 w13 p14 => ?_)
    have o16 := p14.1
    have k17 : Kp G v v12 := (k6).tr p14.2.1
    have f18 : Fr G [2, 3, 4, 6, 107, 120, 124] v v12 := Fr.tr f7 (p14.2.2) (by decide)
    refine J_iload_n E dX7_read_26 0 rfl ?_
    exact J_iret E hr dX7_read_27 ⟨o16, k17, trivial, f18⟩
