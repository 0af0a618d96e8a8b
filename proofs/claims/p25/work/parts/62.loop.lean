section LL
variable {p : Program} {l : Launch} {e : Env} {s : State} {m : MethodId} {below : List Frame} {meth : Method} {c : Code} {cells slots : Nat} {D : va_G} {dA : Nat → ClassId} {G : Gm} {b L : Nat} {xs : Nat → Int32} {a7 a8 : Nat} {adK adV : Nat → Nat}
theorem J_end {lv : List (Nat × Value)} {v : Mv} {w : Mw} (E : Cx p room_1 s m meth c cells slots code 4 RL D dA G (Al s)) (hr : meth.sig.returnType = ret) (hcs : cells ≤ 600000 ∧ slots ≤ 7302250) : J p l e room_1 s m #[Value.ref b] below meth c cells slots (lw_Z below #[Value.ref b] s) D dA G (Al s) s.heap 4 v w lv 1334 [] := by
  refine J_iconst E 1 dL_law_1334 (by decide) ?_
  intro H locs ls hH hS hl
  refine va_forget (fun q hq => hS.2.2 q hq) ?_
  exact W.widen hcs.1 hcs.2 (lw_ret E.1 E.2.1 hr E.2.2.2.2.2.2.2.2 dL_law_1335)
set_option maxHeartbeats 4000000 in
set_option maxRecDepth 100000 in
theorem law_loop (hL : L ≤ 2560) (X : LwE p s m meth c cells slots D dA G b L xs a7 a8 adK adV) (hr : meth.sig.returnType = ret) (hcs : cells ≤ 600000 ∧ slots ≤ 7302250) : ∀ (n : Nat) (x : Int32) (v : Mv) (w : Mw), Ok G v w → Rl G a7 a8 v → Bd x 0 (L : Int) → Mu x (L : Int) n → J p l e room_1 s m #[Value.ref b] below meth c cells slots (lw_Z below #[Value.ref b] s) D dA G (Al s) s.heap 4 v w (LV b a7 a8 x) 18 [] := by
  obtain ⟨E, hX, hbl, T7, T8, hSX, hSR⟩ := id X
  have hbA : ¬ Al s b := Nat.not_le.mpr hbl
  intro n
  induction n with
  | zero =>
    intro x v w hOk hRel hb hm
    exact hm.zero hb (Int.le_refl _)
  | succ n ih =>
    intro x v w hOk hRel hb hm
    refine J_iload_n E dL_law_18 0 rfl ?_
    refine J_aload_n E dL_law_19 3 rfl ?_
    refine J_slen E hX hbl hbA dL_law_20 ?_
    refine J_iconst E 5 dL_law_21 (by decide) ?_
    refine J_isub E dL_law_22 (fun z ez => ?_)
    have hLn : (Int32.ofNat L).toInt = (L : Int) := Int32.toInt_ofNat_of_lt (by omega)
    have bz : Bd z ((L : Int) - 5) ((L : Int) - 5) := Bd.sub (a := L) (b := L) (c := 5) (d := 5) ez (by unfold Bd; omega) (by unfold Bd; decide) (by show (-2147483648 : Int) ≤ _ ∧ _ ≤ (2147483647 : Int); constructor <;> omega)
    refine J_icmp_gt E 1334 dL_law_23 (by decide) (fun _ => J_end E hr hcs) (fun q => ?_)
    have hb5 : Bd x 0 ((L : Int) - 5) := by
      have h1 := nlt q
      have h2 : x.toInt ≤ z.toInt := Int32.le_iff_toInt_le.mp h1
      have h3 := bz.2
      exact ⟨hb.1, by omega⟩
    refine J_aload_n E dL_law_26 3 rfl ?_
    refine J_iload_n E dL_law_27 0 rfl ?_
    refine J_sld E hX hbl hbA (arg_in0 hb5) dL_law_28 ?_
    refine J_bipush E 63 dL_law_29 (by decide) ?_
    refine J_iand E dL_law_31 (fun y ey => ?_)
    have by0 : Bd y 0 63 := Bd.and_r ey (Bd.lit 63 63 (by decide)) (by decide)
    have KK : ∀ v1 w1, Ok G v1 w1 → Rl G a7 a8 v1 → J p l e room_1 s m #[Value.ref b] below meth c cells slots (lw_Z below #[Value.ref b] s) D dA G (Al s) s.heap 4 v1 w1 (LV b a7 a8 x) 1328 [] := by
      intro v1 w1 hOk1 hRel1
      refine J_iinc E 0 5 (fun z => LV b a7 a8 z) dL_law_1328 rfl (by decide) (by decide) (fun _ => rfl) (fun z1 e1 => ?_)
      refine J_goto E 18 dL_law_1331 (by decide) ?_
      have hb1 : Bd z1 (0 + 5) ((L : Int) - 5 + 5) := Bd.add e1 hb5 (by unfold Bd; decide) (by show (-2147483648 : Int) ≤ _ ∧ _ ≤ (2147483647 : Int); constructor <;> omega)
      exact ih z1 v1 w1 hOk1 hRel1 ⟨by have := hb1.1; omega, by have := hb1.2; omega⟩ (hm.step e1 hb5 (c1 := 5) (c2 := 5) (by unfold Bd; decide) (by show (-2147483648 : Int) ≤ _ ∧ _ ≤ (2147483647 : Int) ∧ (1 : Int) ≤ _; refine ⟨by omega, by omega, by omega⟩))
    have hy : y.toInt = 0 ∨ y.toInt = 1 ∨ y.toInt = 2 ∨ y.toInt = 3 ∨ y.toInt = 4 ∨ y.toInt = 5 ∨ y.toInt = 6 ∨ y.toInt = 7 ∨ y.toInt = 8 ∨ y.toInt = 9 ∨ y.toInt = 10 ∨ y.toInt = 11 ∨ y.toInt = 12 ∨ y.toInt = 13 ∨ y.toInt = 14 ∨ y.toInt = 15 ∨ y.toInt = 16 ∨ y.toInt = 17 ∨ y.toInt = 18 ∨ y.toInt = 19 ∨ y.toInt = 20 ∨ y.toInt = 21 ∨ y.toInt = 22 ∨ y.toInt = 23 ∨ y.toInt = 24 ∨ y.toInt = 25 ∨ y.toInt = 26 ∨ y.toInt = 27 ∨ y.toInt = 28 ∨ y.toInt = 29 ∨ y.toInt = 30 ∨ y.toInt = 31 ∨ y.toInt = 32 ∨ y.toInt = 33 ∨ y.toInt = 34 ∨ y.toInt = 35 ∨ y.toInt = 36 ∨ y.toInt = 37 ∨ y.toInt = 38 ∨ y.toInt = 39 ∨ 39 < y.toInt := by have h1 := by0.1; have h2 := by0.2; omega
    rcases hy with hy | hy | hy | hy | hy | hy | hy | hy | hy | hy | hy | hy | hy | hy | hy | hy | hy | hy | hy | hy | hy | hy | hy | hy | hy | hy | hy | hy | hy | hy | hy | hy | hy | hy | hy | hy | hy | hy | hy | hy | hy
    · exact J_tabIn E 0 208 dL_law_32 hy (by decide) (by decide) rfl (by decide) (lc_0 X hOk hRel hb5 hL KK)
    · exact J_tabIn E 1 221 dL_law_32 hy (by decide) (by decide) rfl (by decide) (lc_1 X hOk hRel hb5 hL KK)
    · exact J_tabIn E 2 254 dL_law_32 hy (by decide) (by decide) rfl (by decide) (lc_2 X hOk hRel hb5 hL KK)
    · exact J_tabIn E 3 297 dL_law_32 hy (by decide) (by decide) rfl (by decide) (lc_3 X hOk hRel hb5 hL KK)
    · exact J_tabIn E 4 320 dL_law_32 hy (by decide) (by decide) rfl (by decide) (lc_4 X hOk hRel hb5 hL KK)
    · exact J_tabIn E 5 333 dL_law_32 hy (by decide) (by decide) rfl (by decide) (lc_5 X hOk hRel hb5 hL KK)
    · exact J_tabIn E 6 346 dL_law_32 hy (by decide) (by decide) rfl (by decide) (lc_6 X hOk hRel hb5 hL KK)
    · exact J_tabIn E 7 379 dL_law_32 hy (by decide) (by decide) rfl (by decide) (lc_7 X hOk hRel hb5 hL KK)
    · exact J_tabIn E 8 402 dL_law_32 hy (by decide) (by decide) rfl (by decide) (lc_8 X hOk hRel hb5 hL KK)
    · exact J_tabIn E 9 425 dL_law_32 hy (by decide) (by decide) rfl (by decide) (lc_9 X hOk hRel hb5 hL KK)
    · exact J_tabIn E 10 438 dL_law_32 hy (by decide) (by decide) rfl (by decide) (lc_10 X hOk hRel hb5 hL KK)
    · exact J_tabIn E 11 471 dL_law_32 hy (by decide) (by decide) rfl (by decide) (lc_11 X hOk hRel hb5 hL KK)
    · exact J_tabIn E 12 504 dL_law_32 hy (by decide) (by decide) rfl (by decide) (lc_12 X hOk hRel hb5 hL KK)
    · exact J_tabIn E 13 537 dL_law_32 hy (by decide) (by decide) rfl (by decide) (lc_13 X hOk hRel hb5 hL KK)
    · exact J_tabIn E 14 570 dL_law_32 hy (by decide) (by decide) rfl (by decide) (lc_14 X hOk hRel hb5 hL KK)
    · exact J_tabIn E 15 583 dL_law_32 hy (by decide) (by decide) rfl (by decide) (lc_15 X hOk hRel hb5 hL KK)
    · exact J_tabIn E 16 606 dL_law_32 hy (by decide) (by decide) rfl (by decide) (lc_16 X hOk hRel hb5 hL KK)
    · exact J_tabIn E 17 629 dL_law_32 hy (by decide) (by decide) rfl (by decide) (lc_17 X hOk hRel hb5 hL KK)
    · exact J_tabIn E 18 662 dL_law_32 hy (by decide) (by decide) rfl (by decide) (lc_18 X hOk hRel hb5 hL KK)
    · exact J_tabIn E 19 695 dL_law_32 hy (by decide) (by decide) rfl (by decide) (lc_19 X hOk hRel hb5 hL KK)
    · exact J_tabIn E 20 718 dL_law_32 hy (by decide) (by decide) rfl (by decide) (lc_20 X hOk hRel hb5 hL KK)
    · exact J_tabIn E 21 751 dL_law_32 hy (by decide) (by decide) rfl (by decide) (lc_21 X hOk hRel hb5 hL KK)
    · exact J_tabIn E 22 804 dL_law_32 hy (by decide) (by decide) rfl (by decide) (lc_22 X hOk hRel hb5 hL KK)
    · exact J_tabIn E 23 837 dL_law_32 hy (by decide) (by decide) rfl (by decide) (lc_23 X hOk hRel hb5 hL KK)
    · exact J_tabIn E 24 860 dL_law_32 hy (by decide) (by decide) rfl (by decide) (lc_24 X hOk hRel hb5 hL KK)
    · exact J_tabIn E 25 913 dL_law_32 hy (by decide) (by decide) rfl (by decide) (lc_25 X hOk hRel hb5 hL KK)
    · exact J_tabIn E 26 966 dL_law_32 hy (by decide) (by decide) rfl (by decide) (lc_26 X hOk hRel hb5 hL KK)
    · exact J_tabIn E 27 989 dL_law_32 hy (by decide) (by decide) rfl (by decide) (lc_27 X hOk hRel hb5 hL KK)
    · exact J_tabIn E 28 1012 dL_law_32 hy (by decide) (by decide) rfl (by decide) (lc_28 X hOk hRel hb5 hL KK)
    · exact J_tabIn E 29 1035 dL_law_32 hy (by decide) (by decide) rfl (by decide) (lc_29 X hOk hRel hb5 hL KK)
    · exact J_tabIn E 30 1058 dL_law_32 hy (by decide) (by decide) rfl (by decide) (lc_30 X hOk hRel hb5 hL KK)
    · exact J_tabIn E 31 1081 dL_law_32 hy (by decide) (by decide) rfl (by decide) (lc_31 X hOk hRel hb5 hL KK)
    · exact J_tabIn E 32 1124 dL_law_32 hy (by decide) (by decide) rfl (by decide) (lc_32 X hOk hRel hb5 hL KK)
    · exact J_tabIn E 33 1167 dL_law_32 hy (by decide) (by decide) rfl (by decide) (lc_33 X hOk hRel hb5 hL KK)
    · exact J_tabIn E 34 1200 dL_law_32 hy (by decide) (by decide) rfl (by decide) (lc_34 X hOk hRel hb5 hL KK)
    · exact J_tabIn E 35 1223 dL_law_32 hy (by decide) (by decide) rfl (by decide) (lc_35 X hOk hRel hb5 hL KK)
    · exact J_tabIn E 36 1246 dL_law_32 hy (by decide) (by decide) rfl (by decide) (lc_36 X hOk hRel hb5 hL KK)
    · exact J_tabIn E 37 1269 dL_law_32 hy (by decide) (by decide) rfl (by decide) (lc_37 X hOk hRel hb5 hL KK)
    · exact J_tabIn E 38 1292 dL_law_32 hy (by decide) (by decide) rfl (by decide) (lc_38 X hOk hRel hb5 hL KK)
    · exact J_tabIn E 39 1315 dL_law_32 hy (by decide) (by decide) rfl (by decide) (lc_39 X hOk hRel hb5 hL KK)
    · exact J_tabOut E 1328 dL_law_32 (Or.inr hy) (by decide) (KK v w hOk hRel)
end LL
