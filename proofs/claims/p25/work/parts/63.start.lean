theorem Oz.none : Oz (fun _ => none) vz wz [] := ⟨fun _ _ h => (by cases h), fun _ _ h => (by cases h), fun _ _ _ _ _ h => (by cases h)⟩
theorem law_J {p : Program} {l : Launch} {e : Env} {s : State} {m : MethodId} {below : List Frame} {meth : Method} {c : Code} {D : va_G} {dA : Nat → ClassId} {b L : Nat} {xs : Nat → Int32} {adK adV : Nat → Nat} (hL : L ≤ 2560) (E : Cx p room_1 s m meth c 0 0 code 4 RL D dA (fun _ => none) (Al s)) (hX : va_X b L xs s s.heap) (hbl : b < s.heap.size) (hSX : StX (Al s) adK adV s s.heap) (hSR : StR adK s) (hr : meth.sig.returnType = ret) : J p l e room_1 s m #[Value.ref b] below meth c 0 0 (lw_Z below #[Value.ref b] s) D dA (fun _ => none) (Al s) s.heap 4 vz wz [(0, .ref b)] 0 [] := by
  have hA0 : ∀ q, s.heap.size ≤ q → Al s q := fun q h => h
  refine N_new (ci := 7) E Oz.none in_X7 tyX7 tyX7_ok wd130 wd131 wd115 rfl [f0, f0, f0, fq I0 I1, f0, f0, f0, fl, fl, fi I0 I1, fi I0 I1, fi I0 I1] (by decide) (nfs_X7 _ _) hA0 ⟨Nat.le_of_ble_eq_true rfl, Nat.le_of_ble_eq_true rfl⟩ dL_law_0 (fun a7 G1 v1 w1 f1 s1 o1 z1 n1 k1 E1 => ?_)
  refine J_dup E1 dL_law_3 rfl ?_
  refine N_callI E1 o1 cali_X7 wd132 [] [.ref a7] (fun G => T_X7 G a7) (fun h q => q.lf h) (ct_X7_init l D dA a7) (fun G q => by rw [q.1.1]; rfl) s1 z1 hA0 rfl rfl (Nat.le_of_ble_eq_true rfl) ⟨rfl, rfl⟩ ⟨Nat.le_of_ble_eq_true rfl, Nat.le_of_ble_eq_true rfl⟩ ⟨Nat.le_of_ble_eq_true rfl, Nat.le_of_ble_eq_true rfl⟩ dL_law_4 (fun G2 v2 w2 b2 S2 o2 k2 E2 => ?_)
  refine J_astore_n E2 [(1, .ref a7), (0, .ref b)] dL_law_7 rfl (by decide) rfl ?_
  refine N_new (ci := 8) E2 o2 in_X8 tyX8 tyX8_ok wd925 wd926 wd122 rfl [f0, f0, f0, f0, f0, fq 0 150, fi 0 150, fi 0 150, fi I0 I1, fi 0 999, fi 0 1, fi I0 I1, f0, f0, f0, fl, fl] (by decide) (nfs_X8 _ _) hA0 ⟨Nat.le_of_ble_eq_true rfl, Nat.le_of_ble_eq_true rfl⟩ dL_law_8 (fun a8 G3 v3 w3 f3 s3 o3 z3 n3 k3 E3 => ?_)
  refine J_dup E3 dL_law_11 rfl ?_
  refine N_callI E3 o3 cali_X8 wd927 [] [.ref a8] (fun G => T_X8 G a8) (fun h q => q.lf h) (ct_X8_init l D dA a8) (fun G q => by rw [q.1.1]; rfl) s3 z3 hA0 rfl rfl (Nat.le_of_ble_eq_true rfl) ⟨rfl, rfl⟩ ⟨Nat.le_of_ble_eq_true rfl, Nat.le_of_ble_eq_true rfl⟩ ⟨Nat.le_of_ble_eq_true rfl, Nat.le_of_ble_eq_true rfl⟩ dL_law_12 (fun G4 v4 w4 b4 S4 o4 k4 E4 => ?_)
  have f4 := f3.but (top_none n3) b4
  have S7 := S2.lf f4
  refine J_astore_n E4 [(2, .ref a8), (1, .ref a7), (0, .ref b)] dL_law_15 rfl (by decide) rfl ?_
  refine J_iconst E4 0 dL_law_16 (by decide) ?_
  refine J_istore_n E4 (LV b a7 a8 0) dL_law_17 rfl (by decide) rfl ?_
  exact law_loop hL ⟨E4, hX, hbl, S7, S4, hSX, hSR⟩ hr ⟨Nat.le_of_ble_eq_true rfl, Nat.le_of_ble_eq_true rfl⟩ (L + 1) 0 v4 w4 o4.ok (Rl.zero S7.1 S7.2.choose_spec.2 S4.1 o4) (by unfold Bd; have : (0 : Int32).toInt = 0 := (by decide); omega) (by unfold Mu; have : (0 : Int32).toInt = 0 := (by decide); omega)
theorem arr_known {s : State} {args : Array Value} {ty : FieldType} (h : (Cond.arrayClass ty).before args s = true) (hno : va_RA s = va_RA s) : ∃ cA : ClassId, ArrOfT s cA ty ∧ s.vm.findClass ("[" ++ ty.toString) = some cA := by
  obtain ⟨cA, kA, comp, h1, h2, h3⟩ := Cond.arrayClass_spec h
  exact ⟨cA, fun n z => ⟨fun k h => (by cases h), kA, h2, comp, h3⟩, h1⟩
theorem arr_over {s : State} {args : Array Value} {C : String} (h : (Cond.arrayOver (.object C)).before args s = true) : ∃ cA : ClassId, ArrOfT s cA (.object C) ∧ va_RA s cA (.object C) := by
  obtain ⟨comp, cA, kA, h1, h2, h3, h4, h5⟩ := Cond.arrayOver_spec h
  exact ⟨cA, fun n z => ⟨fun k h => (by cases h), kA, h3, comp, h4⟩, kA, comp, h3, h4, h1, h5⟩
theorem all_known {s : State} {args : Array Value} (hts : ∀ w ∈ lw_tbl, w.before args s = true) : ∃ (D : va_G) (dA : Nat → ClassId), va_K D classes (tysA dA) s := by
  obtain ⟨cX0, iX0, hX0⟩ := u_known (C := RX0) (T := TX0) (N := 2) (n := 2) hts in_X0 (hts _ wd294)
  obtain ⟨cX1, iX1, hX1⟩ := u_known (C := RX1) (T := TX1) (N := 3) (n := 3) hts in_X1 (hts _ wd278)
  obtain ⟨cX2, iX2, hX2⟩ := u_known (C := RX2) (T := TX2) (N := 4) (n := 4) hts in_X2 (hts _ wd145)
  obtain ⟨cX3, iX3, hX3⟩ := u_known (C := RX3) (T := TX3) (N := 7) (n := 7) hts in_X3 (hts _ wd245)
  obtain ⟨cX4, iX4, hX4⟩ := u_known (C := RX4) (T := TX4) (N := 3) (n := 3) hts in_X4 (hts _ wd174)
  obtain ⟨cX6, iX6, hX6⟩ := u_known (C := RX6) (T := TX6) (N := 12) (n := 12) hts in_X6 (hts _ wd139)
  obtain ⟨cX7, iX7, hX7⟩ := u_known (C := RX7) (T := TX7) (N := 12) (n := 12) hts in_X7 (hts _ wd131)
  obtain ⟨cX8, iX8, hX8⟩ := u_known (C := RX8) (T := TX8) (N := 17) (n := 17) hts in_X8 (hts _ wd926)
  obtain ⟨a0, q0, r0⟩ := arr_known (hts _ wd171) rfl
  obtain ⟨a1, q1, r1⟩ := arr_known (hts _ wd579) rfl
  obtain ⟨a2, q2, r2⟩ := arr_known (hts _ wd987) rfl
  obtain ⟨a3, q3, r3⟩ := arr_over (hts _ wd276)
  obtain ⟨a4, q4, r4⟩ := arr_over (hts _ wd172)
  refine ⟨(fun k => match k with | 0 => cX0 | 1 => cX1 | 2 => cX2 | 3 => cX3 | 4 => cX4 | 5 => cX4 | 6 => cX6 | 7 => cX7 | _ => cX8, fun k => match k with | 0 => iX0 | 1 => iX1 | 2 => iX2 | 3 => iX3 | 4 => iX4 | 5 => iX4 | 6 => iX6 | 7 => iX7 | _ => iX8), fun k => match k with | 0 => a0 | 1 => a1 | 2 => a2 | 3 => a3 | _ => a4, ?_, ?_⟩
  · intro k q hq
    match k, hq with
    | 0, hq => cases hq; exact hX0
    | 1, hq => cases hq; exact hX1
    | 2, hq => cases hq; exact hX2
    | 3, hq => cases hq; exact hX3
    | 4, hq => cases hq; exact hX4
    | 5, hq => cases hq; exact hX4
    | 6, hq => cases hq; exact hX6
    | 7, hq => cases hq; exact hX7
    | 8, hq => cases hq; exact hX8
    | k + 9, hq => simp [classes] at hq
  · intro k q hq
    match k, hq with
    | 0, hq => cases hq; exact ⟨q0, r0⟩
    | 1, hq => cases hq; exact ⟨q1, r1⟩
    | 2, hq => cases hq; exact ⟨q2, r2⟩
    | 3, hq => cases hq; exact ⟨q3, r3⟩
    | 4, hq => cases hq; exact ⟨q4, r4⟩
    | k + 5, hq => simp [tysA] at hq
theorem wd432 : Cond.laysStatic "java/lang/String" "COMPACT_STRINGS" "Z" ∈ lw_tbl := List.mem_of_getElem? (i := 432) (by decide +kernel)
theorem wd448 : Cond.laysStatic "jdk/internal/util/Preconditions" "SIOOBE_FORMATTER" "Ljava/util/function/BiFunction;" ∈ lw_tbl := List.mem_of_getElem? (i := 448) (by decide +kernel)
def tmS (i : Nat) : Term := .string RX3 (match i with | 0 => 49 | 1 => 55 | 2 => 60 | 3 => 65 | 4 => 70 | _ => 75)
theorem str_known {s : State} {args : Array Value} {b : Nat} (hts : ∀ w ∈ lw_tbl, w.before #[Value.ref b] s = true) (hgv : (Jvm.Cond.and given_1 narrow_1).before #[Value.ref b] s = true) : ∃ adK adV : Nat → Nat, StX (Al s) adK adV s s.heap ∧ StR adK s := by
  have hs := flat_of_before _ hgv
  have hA : ∀ a : Nat, a < s.heap.size → ¬ Al s a := fun a h => Nat.not_le.mpr h

  have hex : ∀ i : Nat, i < 6 → (Cond.exactly (tmS i) "java/lang/String").before #[Value.ref b] s = true := fun i hi => by
    match i, hi with
    | 0, _ => exact hs _ (by decide +kernel)
    | 1, _ => exact hs _ (by decide +kernel)
    | 2, _ => exact hs _ (by decide +kernel)
    | 3, _ => exact hs _ (by decide +kernel)
    | 4, _ => exact hs _ (by decide +kernel)
    | 5, _ => exact hs _ (by decide +kernel)
    | (k + 6), h => exact absurd h (by omega)
  have hco : ∀ i : Nat, i < 6 → (Cond.eq (.field (tmS i) "java/lang/String" "coder" "B") (.int 0)).before #[Value.ref b] s = true := fun i hi => by
    match i, hi with
    | 0, _ => exact hs _ (by decide +kernel)
    | 1, _ => exact hs _ (by decide +kernel)
    | 2, _ => exact hs _ (by decide +kernel)
    | 3, _ => exact hs _ (by decide +kernel)
    | 4, _ => exact hs _ (by decide +kernel)
    | 5, _ => exact hs _ (by decide +kernel)
    | (k + 6), h => exact absurd h (by omega)
  have har : ∀ i : Nat, i < 6 → (Cond.arrayOf (.field (tmS i) "java/lang/String" "value" "[B") .byte).before #[Value.ref b] s = true := fun i hi => by
    match i, hi with
    | 0, _ => exact hs _ (by decide +kernel)
    | 1, _ => exact hs _ (by decide +kernel)
    | 2, _ => exact hs _ (by decide +kernel)
    | 3, _ => exact hs _ (by decide +kernel)
    | 4, _ => exact hs _ (by decide +kernel)
    | 5, _ => exact hs _ (by decide +kernel)
    | (k + 6), h => exact absurd h (by omega)
  have hle : ∀ i : Nat, i < 6 → (Cond.eq (.length (.field (tmS i) "java/lang/String" "value" "[B")) (.int (Int32.ofNat (sLen.getD i 0)))).before #[Value.ref b] s = true := fun i hi => by
    match i, hi with
    | 0, _ => exact hs _ (by decide +kernel)
    | 1, _ => exact hs _ (by decide +kernel)
    | 2, _ => exact hs _ (by decide +kernel)
    | 3, _ => exact hs _ (by decide +kernel)
    | 4, _ => exact hs _ (by decide +kernel)
    | 5, _ => exact hs _ (by decide +kernel)
    | (k + 6), h => exact absurd h (by omega)
  have hel : ∀ i : Nat, i < 6 → ∀ j : Nat, j < sLen.getD i 0 → (Cond.eq (.elem (.field (tmS i) "java/lang/String" "value" "[B") (.int (Int32.ofNat j))) (.int ((sByt.getD i []).getD j 0))).before #[Value.ref b] s = true := fun i hi j hj => by
    match i, hi, hj with
    | 0, _, hj =>
      have hj : j < 6 := hj
      match j, hj with
      | 0, _ => exact hs _ (by decide +kernel)
      | 1, _ => exact hs _ (by decide +kernel)
      | 2, _ => exact hs _ (by decide +kernel)
      | 3, _ => exact hs _ (by decide +kernel)
      | 4, _ => exact hs _ (by decide +kernel)
      | 5, _ => exact hs _ (by decide +kernel)
      | (k + 6), h => exact absurd h (by omega)
    | 1, _, hj =>
      have hj : j < 5 := hj
      match j, hj with
      | 0, _ => exact hs _ (by decide +kernel)
      | 1, _ => exact hs _ (by decide +kernel)
      | 2, _ => exact hs _ (by decide +kernel)
      | 3, _ => exact hs _ (by decide +kernel)
      | 4, _ => exact hs _ (by decide +kernel)
      | (k + 5), h => exact absurd h (by omega)
    | 2, _, hj =>
      have hj : j < 3 := hj
      match j, hj with
      | 0, _ => exact hs _ (by decide +kernel)
      | 1, _ => exact hs _ (by decide +kernel)
      | 2, _ => exact hs _ (by decide +kernel)
      | (k + 3), h => exact absurd h (by omega)
    | 3, _, hj =>
      have hj : j < 3 := hj
      match j, hj with
      | 0, _ => exact hs _ (by decide +kernel)
      | 1, _ => exact hs _ (by decide +kernel)
      | 2, _ => exact hs _ (by decide +kernel)
      | (k + 3), h => exact absurd h (by omega)
    | 4, _, hj =>
      have hj : j < 5 := hj
      match j, hj with
      | 0, _ => exact hs _ (by decide +kernel)
      | 1, _ => exact hs _ (by decide +kernel)
      | 2, _ => exact hs _ (by decide +kernel)
      | 3, _ => exact hs _ (by decide +kernel)
      | 4, _ => exact hs _ (by decide +kernel)
      | (k + 5), h => exact absurd h (by omega)
    | 5, _, hj =>
      have hj : j < 5 := hj
      match j, hj with
      | 0, _ => exact hs _ (by decide +kernel)
      | 1, _ => exact hs _ (by decide +kernel)
      | 2, _ => exact hs _ (by decide +kernel)
      | 3, _ => exact hs _ (by decide +kernel)
      | 4, _ => exact hs _ (by decide +kernel)
      | (k + 5), h => exact absurd h (by omega)
    | (k + 6), h, _ => exact absurd h (by omega)
  have hne : ∀ i j : Nat, i < 6 → j < 6 → i ≠ j → (Cond.not (Cond.eq (tmS i) (tmS j))).before #[Value.ref b] s = true ∨ (Cond.not (Cond.eq (tmS j) (tmS i))).before #[Value.ref b] s = true := fun i j hi hj hij => by
    match i, hi, j, hj, hij with
    | 0, _, 0, _, h => exact absurd rfl h
    | 0, _, 1, _, _ => exact Or.inl (hs _ (by decide +kernel))
    | 0, _, 2, _, _ => exact Or.inl (hs _ (by decide +kernel))
    | 0, _, 3, _, _ => exact Or.inl (hs _ (by decide +kernel))
    | 0, _, 4, _, _ => exact Or.inl (hs _ (by decide +kernel))
    | 0, _, 5, _, _ => exact Or.inl (hs _ (by decide +kernel))
    | 1, _, 0, _, _ => exact Or.inr (hs _ (by decide +kernel))
    | 1, _, 1, _, h => exact absurd rfl h
    | 1, _, 2, _, _ => exact Or.inl (hs _ (by decide +kernel))
    | 1, _, 3, _, _ => exact Or.inl (hs _ (by decide +kernel))
    | 1, _, 4, _, _ => exact Or.inl (hs _ (by decide +kernel))
    | 1, _, 5, _, _ => exact Or.inl (hs _ (by decide +kernel))
    | 2, _, 0, _, _ => exact Or.inr (hs _ (by decide +kernel))
    | 2, _, 1, _, _ => exact Or.inr (hs _ (by decide +kernel))
    | 2, _, 2, _, h => exact absurd rfl h
    | 2, _, 3, _, _ => exact Or.inl (hs _ (by decide +kernel))
    | 2, _, 4, _, _ => exact Or.inl (hs _ (by decide +kernel))
    | 2, _, 5, _, _ => exact Or.inl (hs _ (by decide +kernel))
    | 3, _, 0, _, _ => exact Or.inr (hs _ (by decide +kernel))
    | 3, _, 1, _, _ => exact Or.inr (hs _ (by decide +kernel))
    | 3, _, 2, _, _ => exact Or.inr (hs _ (by decide +kernel))
    | 3, _, 3, _, h => exact absurd rfl h
    | 3, _, 4, _, _ => exact Or.inl (hs _ (by decide +kernel))
    | 3, _, 5, _, _ => exact Or.inl (hs _ (by decide +kernel))
    | 4, _, 0, _, _ => exact Or.inr (hs _ (by decide +kernel))
    | 4, _, 1, _, _ => exact Or.inr (hs _ (by decide +kernel))
    | 4, _, 2, _, _ => exact Or.inr (hs _ (by decide +kernel))
    | 4, _, 3, _, _ => exact Or.inr (hs _ (by decide +kernel))
    | 4, _, 4, _, h => exact absurd rfl h
    | 4, _, 5, _, _ => exact Or.inl (hs _ (by decide +kernel))
    | 5, _, 0, _, _ => exact Or.inr (hs _ (by decide +kernel))
    | 5, _, 1, _, _ => exact Or.inr (hs _ (by decide +kernel))
    | 5, _, 2, _, _ => exact Or.inr (hs _ (by decide +kernel))
    | 5, _, 3, _, _ => exact Or.inr (hs _ (by decide +kernel))
    | 5, _, 4, _, _ => exact Or.inr (hs _ (by decide +kernel))
    | 5, _, 5, _, h => exact absurd rfl h
    | 0, _, (k + 6), h, _ => exact absurd h (by omega)
    | 1, _, (k + 6), h, _ => exact absurd h (by omega)
    | 2, _, (k + 6), h, _ => exact absurd h (by omega)
    | 3, _, (k + 6), h, _ => exact absurd h (by omega)
    | 4, _, (k + 6), h, _ => exact absurd h (by omega)
    | 5, _, (k + 6), h, _ => exact absurd h (by omega)
    | (k + 6), h, _, _, _ => exact absurd h (by omega)
  obtain ⟨adK, adV, h1, h2⟩ := vk_Sof (args := #[Value.ref b]) (s := s) (N := 6) (tm := tmS) (len := sLen) (byt := sByt) (A := Al s) (by decide) hex hco har hle hel hne hA
  refine ⟨adK, adV, ⟨h1, va_Zof (hts _ wd432) (hts _ wd123) (va_eqt (hs (.eq (.static "java/lang/String" "COMPACT_STRINGS" "Z") (.int 1)) (by decide +kernel))) hA, va_Zqof (hts _ wd448) (hts _ wd125) (hs _ (by decide +kernel)) hA⟩, ?_⟩
  exact ⟨vk_R.of (hts _ wd418) (h2 0 (by decide)), vk_R.of (hts _ wd471) (h2 1 (by decide)), vk_R.of (hts _ wd481) (h2 2 (by decide)), vk_R.of (hts _ wd487) (h2 3 (by decide)), vk_R.of (hts _ wd508) (h2 4 (by decide)), vk_R.of (hts _ wd513) (h2 5 (by decide))⟩
theorem whole_start {p : Program} {e : Env} {s : State} {m : MethodId} {below : List Frame} {meth : Method} {c : Code} (l : Launch) (hflags : l.flags = flags0) {b L : Nat} {xs : Nat → Int32} (hL : L ≤ 2560) (C0 : lw_At p s m meth c b L xs) : W p l e room_1 s m #[Value.ref b] below meth c s.heap [] 0 0 (lw_Z below #[Value.ref b] s) (entryFrame m ([Value.ref b] : List Value).toArray 4) := by
  obtain ⟨hx, hb, hr, hml, hown, hts, hX, hbl, hlocks, hgv⟩ := C0
  obtain ⟨D, dA, hK⟩ := all_known hts
  obtain ⟨adK, adV, hSX, hSR⟩ := str_known (args := #[]) hts hgv
  have hl := lv_entry ([.ref b]) (n := 4) (Nat.le_of_ble_eq_true rfl)
  rw [lg_entry_eq]
  generalize (lg_sl ([.ref b]) ++ List.replicate (4 - (lg_sl ([.ref b])).length) Slot.unset).toArray = ls at hl ⊢
  have hl : lv_has ls 4 [(0, .ref b)] := hl
  have E : Cx p room_1 s m meth c 0 0 code 4 RL D dA (fun _ => none) (Al s) := ⟨hx, hb, hml, hown, Tb.of hts, hK, ⟨Nat.zero_le _, Nat.zero_le _⟩, fun q h => (by cases h), hlocks⟩
  exact law_J hL E hX hbl hSX hSR hr s.heap [] ls (fun a sh h => by cases h) va_S.rf hl
