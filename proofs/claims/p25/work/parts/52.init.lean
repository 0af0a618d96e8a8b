theorem nfs_X0 (v : Mv) (w : Mw) : ∀ a j, j < 2 → defaultValue (tyX0 j) = fv (zv v a) (zw w a) a j ([f0, fi 0 9] : List Fk)[j]? := fun a j hj => by
  match j, hj with
  | 0, _ => rfl
  | 1, _ => show Value.int 0 = Value.int (if a = a then 0 else _); rw [if_pos rfl]
  | (n + 2), h => exact absurd h (by omega)
theorem nfs_X1 (v : Mv) (w : Mw) : ∀ a j, j < 3 → defaultValue (tyX1 j) = fv (zv v a) (zw w a) a j ([f0, f0, fi 0 7] : List Fk)[j]? := fun a j hj => by
  match j, hj with
  | 0, _ => rfl
  | 1, _ => rfl
  | 2, _ => show Value.int 0 = Value.int (if a = a then 0 else _); rw [if_pos rfl]
  | (n + 3), h => exact absurd h (by omega)
theorem nfs_X2 (v : Mv) (w : Mw) : ∀ a j, j < 4 → defaultValue (tyX2 j) = fv (zv v a) (zw w a) a j ([f0, f0, fi I0 I1, fi I0 I1] : List Fk)[j]? := fun a j hj => by
  match j, hj with
  | 0, _ => rfl
  | 1, _ => rfl
  | 2, _ => show Value.int 0 = Value.int (if a = a then 0 else _); rw [if_pos rfl]
  | 3, _ => show Value.int 0 = Value.int (if a = a then 0 else _); rw [if_pos rfl]
  | (n + 4), h => exact absurd h (by omega)
theorem nfs_X3 (v : Mv) (w : Mw) : ∀ a j, j < 7 → defaultValue (tyX3 j) = fv (zv v a) (zw w a) a j ([f0, fq 0 150, fi 0 150, fi I0 I1, fi 0 150, fi I0 I1, f0] : List Fk)[j]? := fun a j hj => by
  match j, hj with
  | 0, _ => rfl
  | 1, _ => show Value.int 0 = Value.int (if a = a then 0 else _); rw [if_pos rfl]
  | 2, _ => show Value.int 0 = Value.int (if a = a then 0 else _); rw [if_pos rfl]
  | 3, _ => show Value.int 0 = Value.int (if a = a then 0 else _); rw [if_pos rfl]
  | 4, _ => show Value.int 0 = Value.int (if a = a then 0 else _); rw [if_pos rfl]
  | 5, _ => show Value.int 0 = Value.int (if a = a then 0 else _); rw [if_pos rfl]
  | 6, _ => rfl
  | (n + 7), h => exact absurd h (by omega)
theorem nfs_X6 (v : Mv) (w : Mw) : ∀ a j, j < 12 → defaultValue (tyX6 j) = fv (zv v a) (zw w a) a j ([fq 0 7, f0, f0, fq 0 7, f0, f0, f0, f0, fi 0 8, f0, f0, f0] : List Fk)[j]? := fun a j hj => by
  match j, hj with
  | 0, _ => show Value.int 0 = Value.int (if a = a then 0 else _); rw [if_pos rfl]
  | 1, _ => rfl
  | 2, _ => rfl
  | 3, _ => show Value.int 0 = Value.int (if a = a then 0 else _); rw [if_pos rfl]
  | 4, _ => rfl
  | 5, _ => rfl
  | 6, _ => rfl
  | 7, _ => rfl
  | 8, _ => show Value.int 0 = Value.int (if a = a then 0 else _); rw [if_pos rfl]
  | 9, _ => rfl
  | 10, _ => rfl
  | 11, _ => rfl
  | (n + 12), h => exact absurd h (by omega)
theorem nfs_X7 (v : Mv) (w : Mw) : ∀ a j, j < 12 → defaultValue (tyX7 j) = fv (zv v a) (zw w a) a j ([f0, f0, f0, fq I0 I1, f0, f0, f0, fl, fl, fi I0 I1, fi I0 I1, fi I0 I1] : List Fk)[j]? := fun a j hj => by
  match j, hj with
  | 0, _ => rfl
  | 1, _ => rfl
  | 2, _ => rfl
  | 3, _ => show Value.int 0 = Value.int (if a = a then 0 else _); rw [if_pos rfl]
  | 4, _ => rfl
  | 5, _ => rfl
  | 6, _ => rfl
  | 7, _ => show Value.long 0 = Value.long (if a = a then 0 else _); rw [if_pos rfl]
  | 8, _ => show Value.long 0 = Value.long (if a = a then 0 else _); rw [if_pos rfl]
  | 9, _ => show Value.int 0 = Value.int (if a = a then 0 else _); rw [if_pos rfl]
  | 10, _ => show Value.int 0 = Value.int (if a = a then 0 else _); rw [if_pos rfl]
  | 11, _ => show Value.int 0 = Value.int (if a = a then 0 else _); rw [if_pos rfl]
  | (n + 12), h => exact absurd h (by omega)
theorem nfs_X8 (v : Mv) (w : Mw) : ∀ a j, j < 17 → defaultValue (tyX8 j) = fv (zv v a) (zw w a) a j ([f0, f0, f0, f0, f0, fq 0 150, fi 0 150, fi 0 150, fi I0 I1, fi 0 999, fi 0 1, fi I0 I1, f0, f0, f0, fl, fl] : List Fk)[j]? := fun a j hj => by
  match j, hj with
  | 0, _ => rfl
  | 1, _ => rfl
  | 2, _ => rfl
  | 3, _ => rfl
  | 4, _ => rfl
  | 5, _ => show Value.int 0 = Value.int (if a = a then 0 else _); rw [if_pos rfl]
  | 6, _ => show Value.int 0 = Value.int (if a = a then 0 else _); rw [if_pos rfl]
  | 7, _ => show Value.int 0 = Value.int (if a = a then 0 else _); rw [if_pos rfl]
  | 8, _ => show Value.int 0 = Value.int (if a = a then 0 else _); rw [if_pos rfl]
  | 9, _ => show Value.int 0 = Value.int (if a = a then 0 else _); rw [if_pos rfl]
  | 10, _ => show Value.int 0 = Value.int (if a = a then 0 else _); rw [if_pos rfl]
  | 11, _ => show Value.int 0 = Value.int (if a = a then 0 else _); rw [if_pos rfl]
  | 12, _ => rfl
  | 13, _ => rfl
  | 14, _ => rfl
  | 15, _ => show Value.long 0 = Value.long (if a = a then 0 else _); rw [if_pos rfl]
  | 16, _ => show Value.long 0 = Value.long (if a = a then 0 else _); rw [if_pos rfl]
  | (n + 17), h => exact absurd h (by omega)
theorem nfs_X4_5 (v : Mv) (w : Mw) : ∀ a j, j < 3 → defaultValue (tyX4 j) = fv (zv v a) (zw w a) a j ([fi 0 0, f0, fq 0 (5 : Nat)] : List Fk)[j]? := fun a j hj => by
  match j, hj with
  | 0, _ => show Value.int 0 = Value.int (if a = a then 0 else _); rw [if_pos rfl]
  | 1, _ => rfl
  | 2, _ => show Value.int 0 = Value.int (if a = a then 0 else _); rw [if_pos rfl]
  | (n + 3), h => exact absurd h (by omega)
theorem nfs_X4_6 (v : Mv) (w : Mw) : ∀ a j, j < 3 → defaultValue (tyX4 j) = fv (zv v a) (zw w a) a j ([fi 0 0, f0, fq 0 (6 : Nat)] : List Fk)[j]? := fun a j hj => by
  match j, hj with
  | 0, _ => show Value.int 0 = Value.int (if a = a then 0 else _); rw [if_pos rfl]
  | 1, _ => rfl
  | 2, _ => show Value.int 0 = Value.int (if a = a then 0 else _); rw [if_pos rfl]
  | (n + 3), h => exact absurd h (by omega)
theorem Oz.oneN {h0 : Nat} {sh : Sh} (hz : zr sh) (hs : isRA sh = false) : Oz (one h0 sh) vz wz [] := ⟨Oi.oneN hz, fun _ _ _ _ _ _ _ => rfl, fun a t n L _ ha j hj => by obtain ⟨b, _, q⟩ := Orr.oneN hs a t n L ha j hj; cases q⟩
theorem cali_X0 : CalI yX0_init cX0_init 1 0 := ⟨wd297, wd121, wd296, rfl, by decide +kernel, by decide +kernel, by decide +kernel⟩
theorem cali_X1 : CalI yX1_init cX1_init 1 0 := ⟨wd281, wd120, wd280, rfl, by decide +kernel, by decide +kernel, by decide +kernel⟩
theorem cali_X2 : CalI yX2_init cX2_init 2 0 := ⟨wd148, wd117, wd147, rfl, by decide +kernel, by decide +kernel, by decide +kernel⟩
theorem cali_X3 : CalI yX3_init cX3_init 1 0 := ⟨wd248, wd119, wd247, rfl, by decide +kernel, by decide +kernel, by decide +kernel⟩
theorem cali_X4 : CalI yX4_init cX4_init 2 1 := ⟨wd177, wd118, wd176, rfl, by decide +kernel, by decide +kernel, by decide +kernel⟩
theorem cali_X6 : CalI yX6_init cX6_init 2 0 := ⟨wd142, wd116, wd141, rfl, by decide +kernel, by decide +kernel, by decide +kernel⟩
theorem cali_X7 : CalI yX7_init cX7_init 2 0 := ⟨wd134, wd115, wd133, rfl, by decide +kernel, by decide +kernel, by decide +kernel⟩
theorem cali_X8 : CalI yX8_init cX8_init 1 0 := ⟨wd929, wd122, wd928, rfl, by decide +kernel, by decide +kernel, by decide +kernel⟩
abbrev rm_X0_init : Room := { frames := 1, cells := 1, slots := 9, locals := 12 }
set_option maxHeartbeats 4000000 in
set_option maxRecDepth 100000 in
theorem ct_X0_init (l : Launch) (D : va_G) (dA : Nat → ClassId) (h0 : Nat) : CtN l yX0_init cX0_init 1 rm_X0_init D dA h0 (.inl (0, [f0, fi 0 9])) [] 1 9 (PoN (fun G => S_X0 G h0)) := by
  refine CtN.of RX0 [(0, .ref h0)] (Nat.le_of_ble_eq_true rfl) rfl (by decide) rfl rfl ?_
  intro p e s m args below meth c E hr hin
  have hA0 : ∀ q, s.heap.size ≤ q → An h0 s.heap.size q := fun q h => Or.inr h
  have hG0 : one h0 (.inl (0, [f0, fi 0 9])) h0 = some (.inl (0, [f0, fi 0 9])) := one_s
  have hO : Oz (one h0 (.inl (0, [f0, fi 0 9]))) vz wz [] := Oz.oneN (zr.obj (by decide)) rfl
  refine J_aload_n E dX0_init_0 0 rfl ?_
  refine J_objInit E wd298 wd136 wd137 ⟨Nat.le_of_ble_eq_true rfl, Nat.le_of_ble_eq_true rfl⟩ dX0_init_1 ?_
  refine J_aload_n E dX0_init_4 0 rfl ?_
  refine J_bipush E (9) dX0_init_5 (by decide) ?_
  refine N_arr_int E hO 9 gany z_any wd171 (by decide) (by decide) (by decide) hA0 ⟨Nat.le_of_ble_eq_true rfl, Nat.le_of_ble_eq_true rfl⟩ dX0_init_7 (fun a1 G2 v3 w4 f5 s6 o7 n8 E9 => ?_)
  have t10 : h0 < a1 := n8 _ (by rw [hG0]; rfl)
  have g11 := f5 _ _ hG0
  refine N_finR E9 o7 in_X0 rfl g11 0 (by decide) wd299 tyX0 tyX0_ok nmX0 rfl hin rfl [fr a1, fi 0 9] rfl (Nat.le_of_ble_eq_true rfl) (.array .int) (by decide +kernel) rfl rfl dX0_init_9 (fun G12 l13 g14 o15 E16 => ?_)
  have q17 := l13 _ _ s6 rfl
  have S18 : S_X0 G12 h0 := by
    have r0 : rf G12 h0 0 = a1 := rf_at g14 rfl
    unfold S_X0
    simp only [r0]
    exact ⟨g14, q17⟩
  exact J_vretN E16 hr dX0_init_12 ⟨o15, S18⟩
abbrev rm_X1_init : Room := { frames := 1, cells := 2, slots := 903, locals := 12 }
set_option maxHeartbeats 4000000 in
set_option maxRecDepth 100000 in
theorem ct_X1_init (l : Launch) (D : va_G) (dA : Nat → ClassId) (h0 : Nat) : CtN l yX1_init cX1_init 1 rm_X1_init D dA h0 (.inl (1, [f0, f0, fi 0 7])) [] 2 903 (PoN (fun G => S_X1 G h0)) := by
  refine CtN.of RX1 [(0, .ref h0)] (Nat.le_of_ble_eq_true rfl) rfl (by decide) rfl rfl ?_
  intro p e s m args below meth c E hr hin
  have hA0 : ∀ q, s.heap.size ≤ q → An h0 s.heap.size q := fun q h => Or.inr h
  have hG0 : one h0 (.inl (1, [f0, f0, fi 0 7])) h0 = some (.inl (1, [f0, f0, fi 0 7])) := one_s
  have hO : Oz (one h0 (.inl (1, [f0, f0, fi 0 7]))) vz wz [] := Oz.oneN (zr.obj (by decide)) rfl
  refine J_aload_n E dX1_init_0 0 rfl ?_
  refine J_objInit E wd282 wd136 wd137 ⟨Nat.le_of_ble_eq_true rfl, Nat.le_of_ble_eq_true rfl⟩ dX1_init_1 ?_
  refine J_aload_n E dX1_init_4 0 rfl ?_
  refine J_bipush E (7) dX1_init_5 (by decide) ?_
  refine N_arr_int E hO 7 gany z_any wd171 (by decide) (by decide) (by decide) hA0 ⟨Nat.le_of_ble_eq_true rfl, Nat.le_of_ble_eq_true rfl⟩ dX1_init_7 (fun a1 G2 v3 w4 f5 s6 o7 n8 E9 => ?_)
  have t10 : h0 < a1 := n8 _ (by rw [hG0]; rfl)
  have g11 := f5 _ _ hG0
  refine N_finR E9 o7 in_X1 rfl g11 0 (by decide) wd283 tyX1 tyX1_ok nmX1 rfl hin rfl [fr a1, f0, fi 0 7] rfl (Nat.le_of_ble_eq_true rfl) (.array .int) (by decide +kernel) rfl rfl dX1_init_9 (fun G12 l13 g14 o15 E16 => ?_)
  have q17 := l13 _ _ s6 rfl
  refine J_aload_n E16 dX1_init_12 0 rfl ?_
  refine J_sipush E16 (896) dX1_init_13 (by decide) ?_
  refine N_arr_int E16 o15 896 gany z_any wd171 (by decide) (by decide) (by decide) hA0 ⟨Nat.le_of_ble_eq_true rfl, Nat.le_of_ble_eq_true rfl⟩ dX1_init_16 (fun a18 G19 v20 w21 f22 s23 o24 n25 E26 => ?_)
  have t27 : a1 < a18 := n25 _ (by rw [q17]; rfl)
  have q28 := f22 _ _ q17
  have g29 := f22 _ _ g14
  refine N_finR E26 o24 in_X1 rfl g29 1 (by decide) wd284 tyX1 tyX1_ok nmX1 rfl hin rfl [fr a1, fr a18, fi 0 7] rfl (Nat.le_of_ble_eq_true rfl) (.array .int) (by decide +kernel) rfl rfl dX1_init_18 (fun G30 l31 g32 o33 E34 => ?_)
  have q35 := l31 _ _ q28 rfl
  have q36 := l31 _ _ s23 rfl
  have S37 : S_X1 G30 h0 := by
    have r0 : rf G30 h0 0 = a1 := rf_at g32 rfl
    have r1 : rf G30 h0 1 = a18 := rf_at g32 rfl
    unfold S_X1
    simp only [r0, r1]
    exact ⟨g32, q35, q36⟩
  exact J_vretN E34 hr dX1_init_21 ⟨o33, S37⟩
abbrev rm_X2_init : Room := { frames := 1, cells := 2, slots := 14, locals := 12 }
set_option maxHeartbeats 4000000 in
set_option maxRecDepth 100000 in
theorem ct_X2_init (l : Launch) (D : va_G) (dA : Nat → ClassId) (h0 : Nat) : CtN l yX2_init cX2_init 2 rm_X2_init D dA h0 (.inl (2, [f0, f0, fi I0 I1, fi I0 I1])) [] 2 14 (PoN (fun G => T_X2 G h0)) := by
  refine CtN.of RX2 [(0, .ref h0)] (Nat.le_of_ble_eq_true rfl) rfl (by decide) rfl rfl ?_
  intro p e s m args below meth c E hr hin
  have hA0 : ∀ q, s.heap.size ≤ q → An h0 s.heap.size q := fun q h => Or.inr h
  have hG0 : one h0 (.inl (2, [f0, f0, fi I0 I1, fi I0 I1])) h0 = some (.inl (2, [f0, f0, fi I0 I1, fi I0 I1])) := one_s
  have hO : Oz (one h0 (.inl (2, [f0, f0, fi I0 I1, fi I0 I1]))) vz wz [] := Oz.oneN (zr.obj (by decide)) rfl
  refine J_aload_n E dX2_init_0 0 rfl ?_
  refine J_objInit E wd149 wd136 wd137 ⟨Nat.le_of_ble_eq_true rfl, Nat.le_of_ble_eq_true rfl⟩ dX2_init_1 ?_
  refine J_aload_n E dX2_init_4 0 rfl ?_
  refine J_bipush E (7) dX2_init_5 (by decide) ?_
  refine N_arr_int E hO 7 gany z_any wd171 (by decide) (by decide) (by decide) hA0 ⟨Nat.le_of_ble_eq_true rfl, Nat.le_of_ble_eq_true rfl⟩ dX2_init_7 (fun a1 G2 v3 w4 f5 s6 o7 n8 E9 => ?_)
  have t10 : h0 < a1 := n8 _ (by rw [hG0]; rfl)
  have g11 := f5 _ _ hG0
  refine N_finR E9 o7 in_X2 rfl g11 0 (by decide) wd150 tyX2 tyX2_ok nmX2 rfl hin rfl [fr a1, f0, fi I0 I1, fi I0 I1] rfl (Nat.le_of_ble_eq_true rfl) (.array .int) (by decide +kernel) rfl rfl dX2_init_9 (fun G12 l13 g14 o15 E16 => ?_)
  have q17 := l13 _ _ s6 rfl
  refine J_aload_n E16 dX2_init_12 0 rfl ?_
  refine J_bipush E16 (7) dX2_init_13 (by decide) ?_
  refine N_arr_int E16 o15 7 gany z_any wd171 (by decide) (by decide) (by decide) hA0 ⟨Nat.le_of_ble_eq_true rfl, Nat.le_of_ble_eq_true rfl⟩ dX2_init_15 (fun a18 G19 v20 w21 f22 s23 o24 n25 E26 => ?_)
  have t27 : a1 < a18 := n25 _ (by rw [q17]; rfl)
  have q28 := f22 _ _ q17
  have g29 := f22 _ _ g14
  refine N_finR E26 o24 in_X2 rfl g29 1 (by decide) wd152 tyX2 tyX2_ok nmX2 rfl hin rfl [fr a1, fr a18, fi I0 I1, fi I0 I1] rfl (Nat.le_of_ble_eq_true rfl) (.array .int) (by decide +kernel) rfl rfl dX2_init_17 (fun G30 l31 g32 o33 E34 => ?_)
  have q35 := l31 _ _ q28 rfl
  have q36 := l31 _ _ s23 rfl
  refine J_iconst E34 (0) dX2_init_20 (by decide) ?_
  refine J_istore_n E34 [(1, .int 0), (0, .ref h0)] dX2_init_21 rfl (by decide) rfl ?_
  refine J_iload_n E34 dX2_init_22 0 rfl ?_
  refine J_bipush E34 (7) dX2_init_23 (by decide) ?_
  refine J_icmp_ge E34 41 dX2_init_25 (by decide) (fun c => absurd c (by decide)) (fun _ => ?_)
  refine J_aload_n E34 dX2_init_28 1 rfl ?_
  refine J_getR E34 in_X2 rfl g32 1 (by decide) wd152 rfl dX2_init_29 ?_
  refine J_iload_n E34 dX2_init_32 0 rfl ?_
  refine J_iconst E34 (-1) dX2_init_33 (by decide) ?_
  refine J_iast1 E34 q36 (Bd.in (Bd.lit 0 0 (by decide)) (by decide)) dX2_init_34 (fun v37 e38 => ?_)
  have o39 : Oz G30 v37 w21 [] := by rw [e38]; exact o33.any q36
  refine J_iinc E34 0 1 (fun z => [(1, .int z), (0, .ref h0)]) dX2_init_35 rfl (by decide) (by decide) (fun _ => rfl) (fun z40 e41 => ?_)
  have e41b : z40 = 1 := by rw [e41]; decide
  subst e41b
  refine J_goto E34 22 dX2_init_38 (by decide) ?_
  refine J_iload_n E34 dX2_init_22 0 rfl ?_
  refine J_bipush E34 (7) dX2_init_23 (by decide) ?_
  refine J_icmp_ge E34 41 dX2_init_25 (by decide) (fun c => absurd c (by decide)) (fun _ => ?_)
  refine J_aload_n E34 dX2_init_28 1 rfl ?_
  refine J_getR E34 in_X2 rfl g32 1 (by decide) wd152 rfl dX2_init_29 ?_
  refine J_iload_n E34 dX2_init_32 0 rfl ?_
  refine J_iconst E34 (-1) dX2_init_33 (by decide) ?_
  refine J_iast1 E34 q36 (Bd.in (Bd.lit 1 1 (by decide)) (by decide)) dX2_init_34 (fun v42 e43 => ?_)
  have o44 : Oz G30 v42 w21 [] := by rw [e43]; exact o39.any q36
  refine J_iinc E34 0 1 (fun z => [(1, .int z), (0, .ref h0)]) dX2_init_35 rfl (by decide) (by decide) (fun _ => rfl) (fun z45 e46 => ?_)
  have e46b : z45 = 2 := by rw [e46]; decide
  subst e46b
  refine J_goto E34 22 dX2_init_38 (by decide) ?_
  refine J_iload_n E34 dX2_init_22 0 rfl ?_
  refine J_bipush E34 (7) dX2_init_23 (by decide) ?_
  refine J_icmp_ge E34 41 dX2_init_25 (by decide) (fun c => absurd c (by decide)) (fun _ => ?_)
  refine J_aload_n E34 dX2_init_28 1 rfl ?_
  refine J_getR E34 in_X2 rfl g32 1 (by decide) wd152 rfl dX2_init_29 ?_
  refine J_iload_n E34 dX2_init_32 0 rfl ?_
  refine J_iconst E34 (-1) dX2_init_33 (by decide) ?_
  refine J_iast1 E34 q36 (Bd.in (Bd.lit 2 2 (by decide)) (by decide)) dX2_init_34 (fun v47 e48 => ?_)
  have o49 : Oz G30 v47 w21 [] := by rw [e48]; exact o44.any q36
  refine J_iinc E34 0 1 (fun z => [(1, .int z), (0, .ref h0)]) dX2_init_35 rfl (by decide) (by decide) (fun _ => rfl) (fun z50 e51 => ?_)
  have e51b : z50 = 3 := by rw [e51]; decide
  subst e51b
  refine J_goto E34 22 dX2_init_38 (by decide) ?_
  refine J_iload_n E34 dX2_init_22 0 rfl ?_
  refine J_bipush E34 (7) dX2_init_23 (by decide) ?_
  refine J_icmp_ge E34 41 dX2_init_25 (by decide) (fun c => absurd c (by decide)) (fun _ => ?_)
  refine J_aload_n E34 dX2_init_28 1 rfl ?_
  refine J_getR E34 in_X2 rfl g32 1 (by decide) wd152 rfl dX2_init_29 ?_
  refine J_iload_n E34 dX2_init_32 0 rfl ?_
  refine J_iconst E34 (-1) dX2_init_33 (by decide) ?_
  refine J_iast1 E34 q36 (Bd.in (Bd.lit 3 3 (by decide)) (by decide)) dX2_init_34 (fun v52 e53 => ?_)
  have o54 : Oz G30 v52 w21 [] := by rw [e53]; exact o49.any q36
  refine J_iinc E34 0 1 (fun z => [(1, .int z), (0, .ref h0)]) dX2_init_35 rfl (by decide) (by decide) (fun _ => rfl) (fun z55 e56 => ?_)
  have e56b : z55 = 4 := by rw [e56]; decide
  subst e56b
  refine J_goto E34 22 dX2_init_38 (by decide) ?_
  refine J_iload_n E34 dX2_init_22 0 rfl ?_
  refine J_bipush E34 (7) dX2_init_23 (by decide) ?_
  refine J_icmp_ge E34 41 dX2_init_25 (by decide) (fun c => absurd c (by decide)) (fun _ => ?_)
  refine J_aload_n E34 dX2_init_28 1 rfl ?_
  refine J_getR E34 in_X2 rfl g32 1 (by decide) wd152 rfl dX2_init_29 ?_
  refine J_iload_n E34 dX2_init_32 0 rfl ?_
  refine J_iconst E34 (-1) dX2_init_33 (by decide) ?_
  refine J_iast1 E34 q36 (Bd.in (Bd.lit 4 4 (by decide)) (by decide)) dX2_init_34 (fun v57 e58 => ?_)
  have o59 : Oz G30 v57 w21 [] := by rw [e58]; exact o54.any q36
  refine J_iinc E34 0 1 (fun z => [(1, .int z), (0, .ref h0)]) dX2_init_35 rfl (by decide) (by decide) (fun _ => rfl) (fun z60 e61 => ?_)
  have e61b : z60 = 5 := by rw [e61]; decide
  subst e61b
  refine J_goto E34 22 dX2_init_38 (by decide) ?_
  refine J_iload_n E34 dX2_init_22 0 rfl ?_
  refine J_bipush E34 (7) dX2_init_23 (by decide) ?_
  refine J_icmp_ge E34 41 dX2_init_25 (by decide) (fun c => absurd c (by decide)) (fun _ => ?_)
  refine J_aload_n E34 dX2_init_28 1 rfl ?_
  refine J_getR E34 in_X2 rfl g32 1 (by decide) wd152 rfl dX2_init_29 ?_
  refine J_iload_n E34 dX2_init_32 0 rfl ?_
  refine J_iconst E34 (-1) dX2_init_33 (by decide) ?_
  refine J_iast1 E34 q36 (Bd.in (Bd.lit 5 5 (by decide)) (by decide)) dX2_init_34 (fun v62 e63 => ?_)
  have o64 : Oz G30 v62 w21 [] := by rw [e63]; exact o59.any q36
  refine J_iinc E34 0 1 (fun z => [(1, .int z), (0, .ref h0)]) dX2_init_35 rfl (by decide) (by decide) (fun _ => rfl) (fun z65 e66 => ?_)
  have e66b : z65 = 6 := by rw [e66]; decide
  subst e66b
  refine J_goto E34 22 dX2_init_38 (by decide) ?_
  refine J_iload_n E34 dX2_init_22 0 rfl ?_
  refine J_bipush E34 (7) dX2_init_23 (by decide) ?_
  refine J_icmp_ge E34 41 dX2_init_25 (by decide) (fun c => absurd c (by decide)) (fun _ => ?_)
  refine J_aload_n E34 dX2_init_28 1 rfl ?_
  refine J_getR E34 in_X2 rfl g32 1 (by decide) wd152 rfl dX2_init_29 ?_
  refine J_iload_n E34 dX2_init_32 0 rfl ?_
  refine J_iconst E34 (-1) dX2_init_33 (by decide) ?_
  refine J_iast1 E34 q36 (Bd.in (Bd.lit 6 6 (by decide)) (by decide)) dX2_init_34 (fun v67 e68 => ?_)
  have o69 : Oz G30 v67 w21 [] := by rw [e68]; exact o64.any q36
  refine J_iinc E34 0 1 (fun z => [(1, .int z), (0, .ref h0)]) dX2_init_35 rfl (by decide) (by decide) (fun _ => rfl) (fun z70 e71 => ?_)
  have e71b : z70 = 7 := by rw [e71]; decide
  subst e71b
  refine J_goto E34 22 dX2_init_38 (by decide) ?_
  refine J_iload_n E34 dX2_init_22 0 rfl ?_
  refine J_bipush E34 (7) dX2_init_23 (by decide) ?_
  refine J_icmp_ge E34 41 dX2_init_25 (by decide) (fun _ => ?_) (fun c => absurd c (by decide))
  have S72 : S_X2 G30 h0 := by
    have r0 : rf G30 h0 0 = a1 := rf_at g32 rfl
    have r1 : rf G30 h0 1 = a18 := rf_at g32 rfl
    unfold S_X2
    simp only [r0, r1]
    exact ⟨g32, q35, q36⟩
  have T73 : T_X2 G30 h0 := by
    have r0 : rf G30 h0 0 = a1 := rf_at g32 rfl
    have r1 : rf G30 h0 1 = a18 := rf_at g32 rfl
    refine ⟨S72, ?_⟩
    unfold Ch2
    rw [r0, r1]
    exact ⟨by omega, by omega⟩
  exact J_vretN E34 hr dX2_init_41 ⟨o69, T73⟩
abbrev rm_X4_5_init : Room := { frames := 1, cells := 1, slots := 20, locals := 12 }
set_option maxHeartbeats 4000000 in
set_option maxRecDepth 100000 in
theorem ct_X4_5_init (l : Launch) (D : va_G) (dA : Nat → ClassId) (h0 : Nat) : CtN l yX4_init cX4_init 2 rm_X4_5_init D dA h0 (.inl (4, [fi 0 0, f0, fq 0 (5 : Nat)])) [.int 5] 1 20 (PoN (fun G => T_X4 G h0 5)) := by
  refine CtN.of RX4 [(0, .ref h0), (1, .int 5)] (Nat.le_of_ble_eq_true rfl) rfl (by decide) rfl rfl ?_
  intro p e s m args below meth c E hr hin
  have hA0 : ∀ q, s.heap.size ≤ q → An h0 s.heap.size q := fun q h => Or.inr h
  have hG0 : one h0 (.inl (4, [fi 0 0, f0, fq 0 (5 : Nat)])) h0 = some (.inl (4, [fi 0 0, f0, fq 0 (5 : Nat)])) := one_s
  have hO : Oz (one h0 (.inl (4, [fi 0 0, f0, fq 0 (5 : Nat)]))) vz wz [] := Oz.oneN (zr.obj (by decide)) rfl
  refine J_aload_n E dX4_init_0 0 rfl ?_
  refine J_objInit E wd178 wd136 wd137 ⟨Nat.le_of_ble_eq_true rfl, Nat.le_of_ble_eq_true rfl⟩ dX4_init_1 ?_
  refine J_aload_n E dX4_init_4 0 rfl ?_
  refine J_iload_n E dX4_init_5 1 rfl ?_
  refine N_finI E hO in_X4 rfl hG0 0 (by decide) wd179 tyX4 tyX4_ok nmX4 rfl hin rfl ((5 : Nat), (5 : Nat), false) ⟨by unfold Bd; decide, rfl⟩ [fi (5 : Nat) (5 : Nat), f0, fq 0 (5 : Nat)] rfl (Nat.le_of_ble_eq_true rfl) .int (by decide +kernel) rfl rfl dX4_init_6 (fun G1 v2 l3 g4 o5 E6 => ?_)
  refine J_aload_n E6 dX4_init_9 0 rfl ?_
  refine J_iconst E6 (4) dX4_init_10 (by decide) ?_
  refine J_iload_n E6 dX4_init_11 1 rfl ?_
  refine J_imul E6 dX4_init_12 (fun z7 e8 => ?_)
  have e8b : z7 = 20 := by rw [e8]; decide
  subst e8b
  refine N_arr_int E6 o5 20 gkany z_kany wd171 (by decide) (by decide) (by decide) hA0 ⟨Nat.le_of_ble_eq_true rfl, Nat.le_of_ble_eq_true rfl⟩ dX4_init_13 (fun a9 G10 v11 w12 f13 s14 o15 n16 E17 => ?_)
  have t18 : h0 < a9 := n16 _ (by rw [g4]; rfl)
  have g19 := f13 _ _ g4
  refine N_finR E17 o15 in_X4 rfl g19 1 (by decide) wd180 tyX4 tyX4_ok nmX4 rfl hin rfl [fi (5 : Nat) (5 : Nat), fr a9, fq 0 (5 : Nat)] rfl (Nat.le_of_ble_eq_true rfl) (.array .int) (by decide +kernel) rfl rfl dX4_init_15 (fun G20 l21 g22 o23 E24 => ?_)
  have q25 := l21 _ _ s14 rfl
  have S26 : S_X4 G20 h0 5 := by
    have r1 : rf G20 h0 1 = a9 := rf_at g22 rfl
    unfold S_X4
    simp only [r1]
    exact ⟨g22, q25⟩
  have T27 : T_X4 G20 h0 5 := by
    have r1 : rf G20 h0 1 = a9 := rf_at g22 rfl
    refine ⟨S26, ?_⟩
    unfold Ch4
    rw [r1]
    omega
  exact J_vretN E24 hr dX4_init_18 ⟨o23, T27⟩
abbrev rm_X4_6_init : Room := { frames := 1, cells := 1, slots := 24, locals := 12 }
set_option maxHeartbeats 4000000 in
set_option maxRecDepth 100000 in
theorem ct_X4_6_init (l : Launch) (D : va_G) (dA : Nat → ClassId) (h0 : Nat) : CtN l yX4_init cX4_init 2 rm_X4_6_init D dA h0 (.inl (4, [fi 0 0, f0, fq 0 (6 : Nat)])) [.int 6] 1 24 (PoN (fun G => T_X4 G h0 6)) := by
  refine CtN.of RX4 [(0, .ref h0), (1, .int 6)] (Nat.le_of_ble_eq_true rfl) rfl (by decide) rfl rfl ?_
  intro p e s m args below meth c E hr hin
  have hA0 : ∀ q, s.heap.size ≤ q → An h0 s.heap.size q := fun q h => Or.inr h
  have hG0 : one h0 (.inl (4, [fi 0 0, f0, fq 0 (6 : Nat)])) h0 = some (.inl (4, [fi 0 0, f0, fq 0 (6 : Nat)])) := one_s
  have hO : Oz (one h0 (.inl (4, [fi 0 0, f0, fq 0 (6 : Nat)]))) vz wz [] := Oz.oneN (zr.obj (by decide)) rfl
  refine J_aload_n E dX4_init_0 0 rfl ?_
  refine J_objInit E wd178 wd136 wd137 ⟨Nat.le_of_ble_eq_true rfl, Nat.le_of_ble_eq_true rfl⟩ dX4_init_1 ?_
  refine J_aload_n E dX4_init_4 0 rfl ?_
  refine J_iload_n E dX4_init_5 1 rfl ?_
  refine N_finI E hO in_X4 rfl hG0 0 (by decide) wd179 tyX4 tyX4_ok nmX4 rfl hin rfl ((6 : Nat), (6 : Nat), false) ⟨by unfold Bd; decide, rfl⟩ [fi (6 : Nat) (6 : Nat), f0, fq 0 (6 : Nat)] rfl (Nat.le_of_ble_eq_true rfl) .int (by decide +kernel) rfl rfl dX4_init_6 (fun G1 v2 l3 g4 o5 E6 => ?_)
  refine J_aload_n E6 dX4_init_9 0 rfl ?_
  refine J_iconst E6 (4) dX4_init_10 (by decide) ?_
  refine J_iload_n E6 dX4_init_11 1 rfl ?_
  refine J_imul E6 dX4_init_12 (fun z7 e8 => ?_)
  have e8b : z7 = 24 := by rw [e8]; decide
  subst e8b
  refine N_arr_int E6 o5 24 gkany z_kany wd171 (by decide) (by decide) (by decide) hA0 ⟨Nat.le_of_ble_eq_true rfl, Nat.le_of_ble_eq_true rfl⟩ dX4_init_13 (fun a9 G10 v11 w12 f13 s14 o15 n16 E17 => ?_)
  have t18 : h0 < a9 := n16 _ (by rw [g4]; rfl)
  have g19 := f13 _ _ g4
  refine N_finR E17 o15 in_X4 rfl g19 1 (by decide) wd180 tyX4 tyX4_ok nmX4 rfl hin rfl [fi (6 : Nat) (6 : Nat), fr a9, fq 0 (6 : Nat)] rfl (Nat.le_of_ble_eq_true rfl) (.array .int) (by decide +kernel) rfl rfl dX4_init_15 (fun G20 l21 g22 o23 E24 => ?_)
  have q25 := l21 _ _ s14 rfl
  have S26 : S_X4 G20 h0 6 := by
    have r1 : rf G20 h0 1 = a9 := rf_at g22 rfl
    unfold S_X4
    simp only [r1]
    exact ⟨g22, q25⟩
  have T27 : T_X4 G20 h0 6 := by
    have r1 : rf G20 h0 1 = a9 := rf_at g22 rfl
    refine ⟨S26, ?_⟩
    unfold Ch4
    rw [r1]
    omega
  exact J_vretN E24 hr dX4_init_18 ⟨o23, T27⟩
abbrev rm_X6_init : Room := { frames := 2, cells := 38, slots := 275, locals := 33 }
set_option maxHeartbeats 4000000 in
set_option maxRecDepth 100000 in
theorem ct_X6_init (l : Launch) (D : va_G) (dA : Nat → ClassId) (h0 : Nat) : CtN l yX6_init cX6_init 2 rm_X6_init D dA h0 (.inl (6, [fq 0 7, f0, f0, fq 0 7, f0, f0, f0, f0, fi 0 8, f0, f0, f0])) [] 38 275 (PoN (fun G => T_X6 G h0)) := by
  refine CtN.of RX6 [(0, .ref h0)] (Nat.le_of_ble_eq_true rfl) rfl (by decide) rfl rfl ?_
  intro p e s m args below meth c E hr hin
  have hA0 : ∀ q, s.heap.size ≤ q → An h0 s.heap.size q := fun q h => Or.inr h
  have hG0 : one h0 (.inl (6, [fq 0 7, f0, f0, fq 0 7, f0, f0, f0, f0, fi 0 8, f0, f0, f0])) h0 = some (.inl (6, [fq 0 7, f0, f0, fq 0 7, f0, f0, f0, f0, fi 0 8, f0, f0, f0])) := one_s
  have hO : Oz (one h0 (.inl (6, [fq 0 7, f0, f0, fq 0 7, f0, f0, f0, f0, fi 0 8, f0, f0, f0]))) vz wz [] := Oz.oneN (zr.obj (by decide)) rfl
  refine J_aload_n E dX6_init_0 0 rfl ?_
  refine J_objInit E wd143 wd136 wd137 ⟨Nat.le_of_ble_eq_true rfl, Nat.le_of_ble_eq_true rfl⟩ dX6_init_1 ?_
  refine J_aload_n E dX6_init_4 0 rfl ?_
  refine J_bipush E (7) dX6_init_5 (by decide) ?_
  refine N_arr_int E hO 7 gkany z_kany wd171 (by decide) (by decide) (by decide) hA0 ⟨Nat.le_of_ble_eq_true rfl, Nat.le_of_ble_eq_true rfl⟩ dX6_init_7 (fun a1 G2 v3 w4 f5 s6 o7 n8 E9 => ?_)
  have t10 : h0 < a1 := n8 _ (by rw [hG0]; rfl)
  have g11 := f5 _ _ hG0
  refine N_finR E9 o7 in_X6 rfl g11 1 (by decide) wd195 tyX6 tyX6_ok nmX6 rfl hin rfl [fq 0 7, fr a1, f0, fq 0 7, f0, f0, f0, f0, fi 0 8, f0, f0, f0] rfl (Nat.le_of_ble_eq_true rfl) (.array .int) (by decide +kernel) rfl rfl dX6_init_9 (fun G12 l13 g14 o15 E16 => ?_)
  have q17 := l13 _ _ s6 rfl
  refine J_aload_n E16 dX6_init_12 0 rfl ?_
  refine J_bipush E16 (7) dX6_init_13 (by decide) ?_
  refine N_arr_int E16 o15 7 gkany z_kany wd171 (by decide) (by decide) (by decide) hA0 ⟨Nat.le_of_ble_eq_true rfl, Nat.le_of_ble_eq_true rfl⟩ dX6_init_15 (fun a18 G19 v20 w21 f22 s23 o24 n25 E26 => ?_)
  have t27 : a1 < a18 := n25 _ (by rw [q17]; rfl)
  have q28 := f22 _ _ q17
  have g29 := f22 _ _ g14
  refine N_finR E26 o24 in_X6 rfl g29 2 (by decide) wd197 tyX6 tyX6_ok nmX6 rfl hin rfl [fq 0 7, fr a1, fr a18, fq 0 7, f0, f0, f0, f0, fi 0 8, f0, f0, f0] rfl (Nat.le_of_ble_eq_true rfl) (.array .int) (by decide +kernel) rfl rfl dX6_init_17 (fun G30 l31 g32 o33 E34 => ?_)
  have q35 := l31 _ _ q28 rfl
  have q36 := l31 _ _ s23 rfl
  refine J_aload_n E34 dX6_init_20 0 rfl ?_
  refine J_bipush E34 (7) dX6_init_21 (by decide) ?_
  refine N_arr_int E34 o33 7 gkany z_kany wd171 (by decide) (by decide) (by decide) hA0 ⟨Nat.le_of_ble_eq_true rfl, Nat.le_of_ble_eq_true rfl⟩ dX6_init_23 (fun a37 G38 v39 w40 f41 s42 o43 n44 E45 => ?_)
  have t46 : a18 < a37 := n44 _ (by rw [q36]; rfl)
  have q47 := f41 _ _ q35
  have q48 := f41 _ _ q36
  have g49 := f41 _ _ g32
  refine N_finR E45 o43 in_X6 rfl g49 4 (by decide) wd203 tyX6 tyX6_ok nmX6 rfl hin rfl [fq 0 7, fr a1, fr a18, fq 0 7, fr a37, f0, f0, f0, fi 0 8, f0, f0, f0] rfl (Nat.le_of_ble_eq_true rfl) (.array .int) (by decide +kernel) rfl rfl dX6_init_25 (fun G50 l51 g52 o53 E54 => ?_)
  have q55 := l51 _ _ q47 rfl
  have q56 := l51 _ _ q48 rfl
  have q57 := l51 _ _ s42 rfl
  refine J_aload_n E54 dX6_init_28 0 rfl ?_
  refine J_bipush E54 (7) dX6_init_29 (by decide) ?_
  refine N_arr_int E54 o53 7 gkany z_kany wd171 (by decide) (by decide) (by decide) hA0 ⟨Nat.le_of_ble_eq_true rfl, Nat.le_of_ble_eq_true rfl⟩ dX6_init_31 (fun a58 G59 v60 w61 f62 s63 o64 n65 E66 => ?_)
  have t67 : a37 < a58 := n65 _ (by rw [q57]; rfl)
  have q68 := f62 _ _ q55
  have q69 := f62 _ _ q56
  have q70 := f62 _ _ q57
  have g71 := f62 _ _ g52
  refine N_finR E66 o64 in_X6 rfl g71 5 (by decide) wd205 tyX6 tyX6_ok nmX6 rfl hin rfl [fq 0 7, fr a1, fr a18, fq 0 7, fr a37, fr a58, f0, f0, fi 0 8, f0, f0, f0] rfl (Nat.le_of_ble_eq_true rfl) (.array .int) (by decide +kernel) rfl rfl dX6_init_33 (fun G72 l73 g74 o75 E76 => ?_)
  have q77 := l73 _ _ q68 rfl
  have q78 := l73 _ _ q69 rfl
  have q79 := l73 _ _ q70 rfl
  have q80 := l73 _ _ s63 rfl
  refine J_aload_n E76 dX6_init_36 0 rfl ?_
  refine N_new (ci := 2) E76 o75 in_X2 tyX2 tyX2_ok wd144 wd145 wd117 rfl [f0, f0, fi I0 I1, fi I0 I1] (by decide) (nfs_X2 _ _) hA0 ⟨Nat.le_of_ble_eq_true rfl, Nat.le_of_ble_eq_true rfl⟩ dX6_init_37 (fun a81 G82 v83 w84 f85 s86 o87 z88 n89 k90 E91 => ?_)
  have t92 : a58 < a81 := n89 _ (by rw [q80]; rfl)
  have n93 := top_none n89
  refine J_dup E91 dX6_init_40 rfl ?_
  refine N_callIN E91 o87 cali_X2 wd146 [] [.ref a81, .ref h0] (fun G => T_X2 G a81) (fun h q => q.lf h) (ct_X2_init l D dA a81) (fun G q => by rw [q.1.1]; rfl) s86 z88 hA0 rfl rfl (Nat.le_of_ble_eq_true rfl) ⟨rfl, rfl⟩ ⟨Nat.le_of_ble_eq_true rfl, Nat.le_of_ble_eq_true rfl⟩ ⟨Nat.le_of_ble_eq_true rfl, Nat.le_of_ble_eq_true rfl⟩ dX6_init_41 (fun G94 v95 w96 b97 S98 o99 k100 E101 => ?_)
  have f102 := f85.but n93 b97
  have q103 := f102 _ _ q77
  have q104 := f102 _ _ q78
  have q105 := f102 _ _ q79
  have q106 := f102 _ _ q80
  have g107 := f102 _ _ g74
  have S108 := S98.1
  have c109 := S98.2
  obtain ⟨t110, e111⟩ : ∃ t, t = rf G94 a81 1 := ⟨_, rfl⟩
  have g112 : G94 t110 = some (.inr (0, 7, .inl gany)) := by rw [e111]; exact S_X2.f1 S108
  have t113 : a81 < t110 := by rw [e111]; exact Nat.lt_trans c109.1 c109.2
  refine N_finR E101 o99 in_X6 rfl g107 6 (by decide) wd207 tyX6 tyX6_ok nmX6 rfl hin rfl [fq 0 7, fr a1, fr a18, fq 0 7, fr a37, fr a58, fr a81, f0, fi 0 8, f0, f0, f0] rfl (Nat.le_of_ble_eq_true rfl) (.object RX2) (by decide +kernel) rfl rfl dX6_init_44 (fun G114 l115 g116 o117 E118 => ?_)
  have q119 := l115 _ _ q103 rfl
  have q120 := l115 _ _ q104 rfl
  have q121 := l115 _ _ q105 rfl
  have q122 := l115 _ _ q106 rfl
  have q123 := S108.lt l115 rfl rfl
  have q124 := c109.lt l115 S108 rfl
  have q125 := l115 _ _ g112 rfl
  have q126 := (er2 l115 S108 rfl 1).trans e111.symm
  refine J_aload_n E118 dX6_init_47 0 rfl ?_
  refine J_bipush E118 (8) dX6_init_48 (by decide) ?_
  refine N_anew4 E118 o117 8 wd144 wd172 (by decide) (by decide) (by decide) hA0 ⟨Nat.le_of_ble_eq_true rfl, Nat.le_of_ble_eq_true rfl⟩ dX6_init_50 (fun a127 G128 v129 w130 f131 s132 o133 n134 E135 => ?_)
  have t136 : t110 < a127 := n134 _ (by rw [q125]; rfl)
  have q137 := f131 _ _ q119
  have q138 := f131 _ _ q120
  have q139 := f131 _ _ q121
  have q140 := f131 _ _ q122
  have q141 := q123.lf f131
  have q142 := q124.lf f131 q123
  have q143 := f131 _ _ q125
  have q144 := (er2 (Lf.lt (ci := 99) f131) q123 rfl 1).trans q126
  have g145 := f131 _ _ g116
  refine N_finR E135 o133 in_X6 rfl g145 7 (by decide) wd210 tyX6 tyX6_ok nmX6 rfl hin rfl [fq 0 7, fr a1, fr a18, fq 0 7, fr a37, fr a58, fr a81, fr a127, fi 0 8, f0, f0, f0] rfl (Nat.le_of_ble_eq_true rfl) (.array (.object RX2)) (by decide +kernel) rfl rfl dX6_init_53 (fun G146 l147 g148 o149 E150 => ?_)
  have q151 := l147 _ _ q137 rfl
  have q152 := l147 _ _ q138 rfl
  have q153 := l147 _ _ q139 rfl
  have q154 := l147 _ _ q140 rfl
  have q155 := q141.lt l147 rfl rfl
  have q156 := q142.lt l147 q141 rfl
  have q157 := l147 _ _ q143 rfl
  have q158 := (er2 l147 q141 rfl 1).trans q144
  have q159 := l147 _ _ s132 rfl
  refine J_aload_n E150 dX6_init_56 0 rfl ?_
  refine N_new (ci := 4) E150 o149 in_X4 tyX4 tyX4_ok wd173 wd174 wd118 rfl [fi 0 0, f0, fq 0 (5 : Nat)] (by decide) (nfs_X4_5 _ _) hA0 ⟨Nat.le_of_ble_eq_true rfl, Nat.le_of_ble_eq_true rfl⟩ dX6_init_57 (fun a160 G161 v162 w163 f164 s165 o166 z167 n168 k169 E170 => ?_)
  have t171 : a127 < a160 := n168 _ (by rw [q159]; rfl)
  have n172 := top_none n168
  refine J_dup E170 dX6_init_60 rfl ?_
  refine J_iconst E170 (5) dX6_init_61 (by decide) ?_
  refine N_callIN E170 o166 cali_X4 wd175 [.int 5] [.ref a160, .ref h0] (fun G => T_X4 G a160 5) (fun h q => q.lf5 h) (ct_X4_5_init l D dA a160) (fun G q => by rw [q.1.1]; rfl) s165 z167 hA0 rfl rfl (Nat.le_of_ble_eq_true rfl) ⟨rfl, rfl⟩ ⟨Nat.le_of_ble_eq_true rfl, Nat.le_of_ble_eq_true rfl⟩ ⟨Nat.le_of_ble_eq_true rfl, Nat.le_of_ble_eq_true rfl⟩ dX6_init_62 (fun G173 v174 w175 b176 S177 o178 k179 E180 => ?_)
  have f181 := f164.but n172 b176
  have q182 := f181 _ _ q151
  have q183 := f181 _ _ q152
  have q184 := f181 _ _ q153
  have q185 := f181 _ _ q154
  have q186 := q155.lf f181
  have q187 := q156.lf f181 q155
  have q188 := f181 _ _ q157
  have q189 := (er2 (Lf.lt (ci := 99) f181) q155 rfl 1).trans q158
  have q190 := f181 _ _ q159
  have g191 := f181 _ _ g148
  have S192 := S177.1
  have c193 := S177.2
  obtain ⟨t194, e195⟩ : ∃ t, t = rf G173 a160 1 := ⟨_, rfl⟩
  have g196 : G173 t194 = some (.inr (0, 4 * 5, .inl gkany)) := by rw [e195]; exact S_X4.f1 S192
  have t197 : a160 < t194 := by rw [e195]; exact c193
  refine N_finR E180 o178 in_X6 rfl g191 9 (by decide) wd213 tyX6 tyX6_ok nmX6 rfl hin rfl [fq 0 7, fr a1, fr a18, fq 0 7, fr a37, fr a58, fr a81, fr a127, fi 0 8, fr a160, f0, f0] rfl (Nat.le_of_ble_eq_true rfl) (.object RX4) (by decide +kernel) rfl rfl dX6_init_65 (fun G198 l199 g200 o201 E202 => ?_)
  have q203 := l199 _ _ q182 rfl
  have q204 := l199 _ _ q183 rfl
  have q205 := l199 _ _ q184 rfl
  have q206 := l199 _ _ q185 rfl
  have q207 := q186.lt l199 rfl rfl
  have q208 := q187.lt l199 q186 rfl
  have q209 := l199 _ _ q188 rfl
  have q210 := (er2 l199 q186 rfl 1).trans q189
  have q211 := l199 _ _ q190 rfl
  have q212 := S192.lt l199 rfl rfl
  have q213 := c193.lt l199 S192 rfl
  have q214 := l199 _ _ g196 rfl
  have q215 := (er4 l199 S192 rfl 1).trans e195.symm
  refine J_aload_n E202 dX6_init_68 0 rfl ?_
  refine N_new (ci := 4) E202 o201 in_X4 tyX4 tyX4_ok wd173 wd174 wd118 rfl [fi 0 0, f0, fq 0 (6 : Nat)] (by decide) (nfs_X4_6 _ _) hA0 ⟨Nat.le_of_ble_eq_true rfl, Nat.le_of_ble_eq_true rfl⟩ dX6_init_69 (fun a216 G217 v218 w219 f220 s221 o222 z223 n224 k225 E226 => ?_)
  have t227 : t194 < a216 := n224 _ (by rw [q214]; rfl)
  have n228 := top_none n224
  refine J_dup E226 dX6_init_72 rfl ?_
  refine J_bipush E226 (6) dX6_init_73 (by decide) ?_
  refine N_callIN E226 o222 cali_X4 wd175 [.int 6] [.ref a216, .ref h0] (fun G => T_X4 G a216 6) (fun h q => q.lf6 h) (ct_X4_6_init l D dA a216) (fun G q => by rw [q.1.1]; rfl) s221 z223 hA0 rfl rfl (Nat.le_of_ble_eq_true rfl) ⟨rfl, rfl⟩ ⟨Nat.le_of_ble_eq_true rfl, Nat.le_of_ble_eq_true rfl⟩ ⟨Nat.le_of_ble_eq_true rfl, Nat.le_of_ble_eq_true rfl⟩ dX6_init_75 (fun G229 v230 w231 b232 S233 o234 k235 E236 => ?_)
  have f237 := f220.but n228 b232
  have q238 := f237 _ _ q203
  have q239 := f237 _ _ q204
  have q240 := f237 _ _ q205
  have q241 := f237 _ _ q206
  have q242 := q207.lf f237
  have q243 := q208.lf f237 q207
  have q244 := f237 _ _ q209
  have q245 := (er2 (Lf.lt (ci := 99) f237) q207 rfl 1).trans q210
  have q246 := f237 _ _ q211
  have q247 := q212.lf5 f237
  have q248 := q213.lf f237 q212
  have q249 := f237 _ _ q214
  have q250 := (er4 (Lf.lt (ci := 99) f237) q212 rfl 1).trans q215
  have g251 := f237 _ _ g200
  have S252 := S233.1
  have c253 := S233.2
  obtain ⟨t254, e255⟩ : ∃ t, t = rf G229 a216 1 := ⟨_, rfl⟩
  have g256 : G229 t254 = some (.inr (0, 4 * 6, .inl gkany)) := by rw [e255]; exact S_X4.f1 S252
  have t257 : a216 < t254 := by rw [e255]; exact c253
  refine N_finR E236 o234 in_X6 rfl g251 10 (by decide) wd215 tyX6 tyX6_ok nmX6 rfl hin rfl [fq 0 7, fr a1, fr a18, fq 0 7, fr a37, fr a58, fr a81, fr a127, fi 0 8, fr a160, fr a216, f0] rfl (Nat.le_of_ble_eq_true rfl) (.object RX4) (by decide +kernel) rfl rfl dX6_init_78 (fun G258 l259 g260 o261 E262 => ?_)
  have q263 := l259 _ _ q238 rfl
  have q264 := l259 _ _ q239 rfl
  have q265 := l259 _ _ q240 rfl
  have q266 := l259 _ _ q241 rfl
  have q267 := q242.lt l259 rfl rfl
  have q268 := q243.lt l259 q242 rfl
  have q269 := l259 _ _ q244 rfl
  have q270 := (er2 l259 q242 rfl 1).trans q245
  have q271 := l259 _ _ q246 rfl
  have q272 := q247.lt l259 rfl rfl
  have q273 := q248.lt l259 q247 rfl
  have q274 := l259 _ _ q249 rfl
  have q275 := (er4 l259 q247 rfl 1).trans q250
  have q276 := S252.lt l259 rfl rfl
  have q277 := c253.lt l259 S252 rfl
  have q278 := l259 _ _ g256 rfl
  have q279 := (er4 l259 S252 rfl 1).trans e255.symm
  refine J_aload_n E262 dX6_init_81 0 rfl ?_
  refine N_new (ci := 4) E262 o261 in_X4 tyX4 tyX4_ok wd173 wd174 wd118 rfl [fi 0 0, f0, fq 0 (6 : Nat)] (by decide) (nfs_X4_6 _ _) hA0 ⟨Nat.le_of_ble_eq_true rfl, Nat.le_of_ble_eq_true rfl⟩ dX6_init_82 (fun a280 G281 v282 w283 f284 s285 o286 z287 n288 k289 E290 => ?_)
  have t291 : t254 < a280 := n288 _ (by rw [q278]; rfl)
  have n292 := top_none n288
  refine J_dup E290 dX6_init_85 rfl ?_
  refine J_bipush E290 (6) dX6_init_86 (by decide) ?_
  refine N_callIN E290 o286 cali_X4 wd175 [.int 6] [.ref a280, .ref h0] (fun G => T_X4 G a280 6) (fun h q => q.lf6 h) (ct_X4_6_init l D dA a280) (fun G q => by rw [q.1.1]; rfl) s285 z287 hA0 rfl rfl (Nat.le_of_ble_eq_true rfl) ⟨rfl, rfl⟩ ⟨Nat.le_of_ble_eq_true rfl, Nat.le_of_ble_eq_true rfl⟩ ⟨Nat.le_of_ble_eq_true rfl, Nat.le_of_ble_eq_true rfl⟩ dX6_init_88 (fun G293 v294 w295 b296 S297 o298 k299 E300 => ?_)
  have f301 := f284.but n292 b296
  have q302 := f301 _ _ q263
  have q303 := f301 _ _ q264
  have q304 := f301 _ _ q265
  have q305 := f301 _ _ q266
  have q306 := q267.lf f301
  have q307 := q268.lf f301 q267
  have q308 := f301 _ _ q269
  have q309 := (er2 (Lf.lt (ci := 99) f301) q267 rfl 1).trans q270
  have q310 := f301 _ _ q271
  have q311 := q272.lf5 f301
  have q312 := q273.lf f301 q272
  have q313 := f301 _ _ q274
  have q314 := (er4 (Lf.lt (ci := 99) f301) q272 rfl 1).trans q275
  have q315 := q276.lf6 f301
  have q316 := q277.lf f301 q276
  have q317 := f301 _ _ q278
  have q318 := (er4 (Lf.lt (ci := 99) f301) q276 rfl 1).trans q279
  have g319 := f301 _ _ g260
  have S320 := S297.1
  have c321 := S297.2
  obtain ⟨t322, e323⟩ : ∃ t, t = rf G293 a280 1 := ⟨_, rfl⟩
  have g324 : G293 t322 = some (.inr (0, 4 * 6, .inl gkany)) := by rw [e323]; exact S_X4.f1 S320
  have t325 : a280 < t322 := by rw [e323]; exact c321
  refine N_finR E300 o298 in_X6 rfl g319 11 (by decide) wd217 tyX6 tyX6_ok nmX6 rfl hin rfl [fq 0 7, fr a1, fr a18, fq 0 7, fr a37, fr a58, fr a81, fr a127, fi 0 8, fr a160, fr a216, fr a280] rfl (Nat.le_of_ble_eq_true rfl) (.object RX4) (by decide +kernel) rfl rfl dX6_init_91 (fun G326 l327 g328 o329 E330 => ?_)
  have q331 := l327 _ _ q302 rfl
  have q332 := l327 _ _ q303 rfl
  have q333 := l327 _ _ q304 rfl
  have q334 := l327 _ _ q305 rfl
  have q335 := q306.lt l327 rfl rfl
  have q336 := q307.lt l327 q306 rfl
  have q337 := l327 _ _ q308 rfl
  have q338 := (er2 l327 q306 rfl 1).trans q309
  have q339 := l327 _ _ q310 rfl
  have q340 := q311.lt l327 rfl rfl
  have q341 := q312.lt l327 q311 rfl
  have q342 := l327 _ _ q313 rfl
  have q343 := (er4 l327 q311 rfl 1).trans q314
  have q344 := q315.lt l327 rfl rfl
  have q345 := q316.lt l327 q315 rfl
  have q346 := l327 _ _ q317 rfl
  have q347 := (er4 l327 q315 rfl 1).trans q318
  have q348 := S320.lt l327 rfl rfl
  have q349 := c321.lt l327 S320 rfl
  have q350 := l327 _ _ g324 rfl
  have q351 := (er4 l327 S320 rfl 1).trans e323.symm
  refine J_iconst E330 (0) dX6_init_94 (by decide) ?_
  refine J_istore_n E330 [(1, .int 0), (0, .ref h0)] dX6_init_95 rfl (by decide) rfl ?_
  refine J_iload_n E330 dX6_init_96 0 rfl ?_
  refine J_bipush E330 (8) dX6_init_97 (by decide) ?_
  refine J_icmp_ge E330 121 dX6_init_99 (by decide) (fun c => absurd c (by decide)) (fun _ => ?_)
  refine J_aload_n E330 dX6_init_102 1 rfl ?_
  refine J_getR E330 in_X6 rfl g328 7 (by decide) wd210 rfl dX6_init_103 ?_
  refine J_iload_n E330 dX6_init_106 0 rfl ?_
  refine N_new (ci := 2) E330 o329 in_X2 tyX2 tyX2_ok wd144 wd145 wd117 rfl [f0, f0, fi I0 I1, fi I0 I1] (by decide) (nfs_X2 _ _) hA0 ⟨Nat.le_of_ble_eq_true rfl, Nat.le_of_ble_eq_true rfl⟩ dX6_init_107 (fun a352 G353 v354 w355 f356 s357 o358 z359 n360 k361 E362 => ?_)
  have t363 : t322 < a352 := n360 _ (by rw [q350]; rfl)
  have n364 := top_none n360
  refine J_dup E362 dX6_init_110 rfl ?_
  refine N_callIN E362 o358 cali_X2 wd146 [] [.ref a352, .int 0, .ref a127] (fun G => T_X2 G a352) (fun h q => q.lf h) (ct_X2_init l D dA a352) (fun G q => by rw [q.1.1]; rfl) s357 z359 hA0 rfl rfl (Nat.le_of_ble_eq_true rfl) ⟨rfl, rfl⟩ ⟨Nat.le_of_ble_eq_true rfl, Nat.le_of_ble_eq_true rfl⟩ ⟨Nat.le_of_ble_eq_true rfl, Nat.le_of_ble_eq_true rfl⟩ dX6_init_111 (fun G365 v366 w367 b368 S369 o370 k371 E372 => ?_)
  have f373 := f356.but n364 b368
  have q374 := f373 _ _ q331
  have q375 := f373 _ _ q332
  have q376 := f373 _ _ q333
  have q377 := f373 _ _ q334
  have q378 := q335.lf f373
  have q379 := q336.lf f373 q335
  have q380 := f373 _ _ q337
  have q381 := (er2 (Lf.lt (ci := 99) f373) q335 rfl 1).trans q338
  have q382 := f373 _ _ q339
  have q383 := q340.lf5 f373
  have q384 := q341.lf f373 q340
  have q385 := f373 _ _ q342
  have q386 := (er4 (Lf.lt (ci := 99) f373) q340 rfl 1).trans q343
  have q387 := q344.lf6 f373
  have q388 := q345.lf f373 q344
  have q389 := f373 _ _ q346
  have q390 := (er4 (Lf.lt (ci := 99) f373) q344 rfl 1).trans q347
  have q391 := q348.lf6 f373
  have q392 := q349.lf f373 q348
  have q393 := f373 _ _ q350
  have q394 := (er4 (Lf.lt (ci := 99) f373) q348 rfl 1).trans q351
  have g395 := f373 _ _ g328
  have S396 := S369.1
  have c397 := S369.2
  obtain ⟨t398, e399⟩ : ∃ t, t = rf G365 a352 1 := ⟨_, rfl⟩
  have g400 : G365 t398 = some (.inr (0, 7, .inl gany)) := by rw [e399]; exact S_X2.f1 S396
  have t401 : a352 < t398 := by rw [e399]; exact Nat.lt_trans c397.1 c397.2
  refine J_aast4 E372 q382 S396.1 (Bd.in (Bd.lit 0 0 (by decide)) (by decide)) dX6_init_114 ?_
  rw [show Int32.toNatClampNeg (0 : Int32) = 0 from by decide]
  generalize e403 : stu w367 a127 0 (some a352) = w402
  have o404 : Oz G365 v366 w402 [a127] := by rw [← e403]; exact o370.stu List.mem_cons_self
  have u405 : w402.2 a127 0 = some a352 := by rw [← e403]; exact stu_s
  refine J_iinc E372 0 1 (fun z => [(1, .int z), (0, .ref h0)]) dX6_init_115 rfl (by decide) (by decide) (fun _ => rfl) (fun z406 e407 => ?_)
  have e407b : z406 = 1 := by rw [e407]; decide
  subst e407b
  refine J_goto E372 96 dX6_init_118 (by decide) ?_
  refine J_iload_n E372 dX6_init_96 0 rfl ?_
  refine J_bipush E372 (8) dX6_init_97 (by decide) ?_
  refine J_icmp_ge E372 121 dX6_init_99 (by decide) (fun c => absurd c (by decide)) (fun _ => ?_)
  refine J_aload_n E372 dX6_init_102 1 rfl ?_
  refine J_getR E372 in_X6 rfl g395 7 (by decide) wd210 rfl dX6_init_103 ?_
  refine J_iload_n E372 dX6_init_106 0 rfl ?_
  refine N_new (ci := 2) E372 o404 in_X2 tyX2 tyX2_ok wd144 wd145 wd117 rfl [f0, f0, fi I0 I1, fi I0 I1] (by decide) (nfs_X2 _ _) hA0 ⟨Nat.le_of_ble_eq_true rfl, Nat.le_of_ble_eq_true rfl⟩ dX6_init_107 (fun a408 G409 v410 w411 f412 s413 o414 z415 n416 k417 E418 => ?_)
  have t419 : t398 < a408 := n416 _ (by rw [g400]; rfl)
  have n420 := top_none n416
  refine J_dup E418 dX6_init_110 rfl ?_
  refine N_callIN E418 o414 cali_X2 wd146 [] [.ref a408, .int 1, .ref a127] (fun G => T_X2 G a408) (fun h q => q.lf h) (ct_X2_init l D dA a408) (fun G q => by rw [q.1.1]; rfl) s413 z415 hA0 rfl rfl (Nat.le_of_ble_eq_true rfl) ⟨rfl, rfl⟩ ⟨Nat.le_of_ble_eq_true rfl, Nat.le_of_ble_eq_true rfl⟩ ⟨Nat.le_of_ble_eq_true rfl, Nat.le_of_ble_eq_true rfl⟩ dX6_init_111 (fun G421 v422 w423 b424 S425 o426 k427 E428 => ?_)
  have f429 := f412.but n420 b424
  have u430 := (k427 a127 0 (fun q => by rw [q, n420] at q382; cases q382) (by rw [f412 _ _ q382]; rfl)).trans ((k417 a127 0 (by rw [q382]; rfl)).trans u405)
  have q431 := f429 _ _ q374
  have q432 := f429 _ _ q375
  have q433 := f429 _ _ q376
  have q434 := f429 _ _ q377
  have q435 := q378.lf f429
  have q436 := q379.lf f429 q378
  have q437 := f429 _ _ q380
  have q438 := (er2 (Lf.lt (ci := 99) f429) q378 rfl 1).trans q381
  have q439 := f429 _ _ q382
  have q440 := q383.lf5 f429
  have q441 := q384.lf f429 q383
  have q442 := f429 _ _ q385
  have q443 := (er4 (Lf.lt (ci := 99) f429) q383 rfl 1).trans q386
  have q444 := q387.lf6 f429
  have q445 := q388.lf f429 q387
  have q446 := f429 _ _ q389
  have q447 := (er4 (Lf.lt (ci := 99) f429) q387 rfl 1).trans q390
  have q448 := q391.lf6 f429
  have q449 := q392.lf f429 q391
  have q450 := f429 _ _ q393
  have q451 := (er4 (Lf.lt (ci := 99) f429) q391 rfl 1).trans q394
  have q452 := S396.lf f429
  have q453 := c397.lf f429 S396
  have q454 := f429 _ _ g400
  have q455 := (er2 (Lf.lt (ci := 99) f429) S396 rfl 1).trans e399.symm
  have g456 := f429 _ _ g395
  have S457 := S425.1
  have c458 := S425.2
  obtain ⟨t459, e460⟩ : ∃ t, t = rf G421 a408 1 := ⟨_, rfl⟩
  have g461 : G421 t459 = some (.inr (0, 7, .inl gany)) := by rw [e460]; exact S_X2.f1 S457
  have t462 : a408 < t459 := by rw [e460]; exact Nat.lt_trans c458.1 c458.2
  refine J_aast4 E428 q439 S457.1 (Bd.in (Bd.lit 1 1 (by decide)) (by decide)) dX6_init_114 ?_
  rw [show Int32.toNatClampNeg (1 : Int32) = 1 from by decide]
  generalize e464 : stu w423 a127 1 (some a408) = w463
  have o465 : Oz G421 v422 w463 [a127] := by rw [← e464]; exact o426.stu List.mem_cons_self
  have u467 : w463.2 a127 0 = some a352 := by rw [← e464]; exact (stu_k (by decide)).trans u430
  have u466 : w463.2 a127 1 = some a408 := by rw [← e464]; exact stu_s
  refine J_iinc E428 0 1 (fun z => [(1, .int z), (0, .ref h0)]) dX6_init_115 rfl (by decide) (by decide) (fun _ => rfl) (fun z468 e469 => ?_)
  have e469b : z468 = 2 := by rw [e469]; decide
  subst e469b
  refine J_goto E428 96 dX6_init_118 (by decide) ?_
  refine J_iload_n E428 dX6_init_96 0 rfl ?_
  refine J_bipush E428 (8) dX6_init_97 (by decide) ?_
  refine J_icmp_ge E428 121 dX6_init_99 (by decide) (fun c => absurd c (by decide)) (fun _ => ?_)
  refine J_aload_n E428 dX6_init_102 1 rfl ?_
  refine J_getR E428 in_X6 rfl g456 7 (by decide) wd210 rfl dX6_init_103 ?_
  refine J_iload_n E428 dX6_init_106 0 rfl ?_
  refine N_new (ci := 2) E428 o465 in_X2 tyX2 tyX2_ok wd144 wd145 wd117 rfl [f0, f0, fi I0 I1, fi I0 I1] (by decide) (nfs_X2 _ _) hA0 ⟨Nat.le_of_ble_eq_true rfl, Nat.le_of_ble_eq_true rfl⟩ dX6_init_107 (fun a470 G471 v472 w473 f474 s475 o476 z477 n478 k479 E480 => ?_)
  have t481 : t459 < a470 := n478 _ (by rw [g461]; rfl)
  have n482 := top_none n478
  refine J_dup E480 dX6_init_110 rfl ?_
  refine N_callIN E480 o476 cali_X2 wd146 [] [.ref a470, .int 2, .ref a127] (fun G => T_X2 G a470) (fun h q => q.lf h) (ct_X2_init l D dA a470) (fun G q => by rw [q.1.1]; rfl) s475 z477 hA0 rfl rfl (Nat.le_of_ble_eq_true rfl) ⟨rfl, rfl⟩ ⟨Nat.le_of_ble_eq_true rfl, Nat.le_of_ble_eq_true rfl⟩ ⟨Nat.le_of_ble_eq_true rfl, Nat.le_of_ble_eq_true rfl⟩ dX6_init_111 (fun G483 v484 w485 b486 S487 o488 k489 E490 => ?_)
  have f491 := f474.but n482 b486
  have u492 := (k489 a127 0 (fun q => by rw [q, n482] at q439; cases q439) (by rw [f474 _ _ q439]; rfl)).trans ((k479 a127 0 (by rw [q439]; rfl)).trans u467)
  have u493 := (k489 a127 1 (fun q => by rw [q, n482] at q439; cases q439) (by rw [f474 _ _ q439]; rfl)).trans ((k479 a127 1 (by rw [q439]; rfl)).trans u466)
  have q494 := f491 _ _ q431
  have q495 := f491 _ _ q432
  have q496 := f491 _ _ q433
  have q497 := f491 _ _ q434
  have q498 := q435.lf f491
  have q499 := q436.lf f491 q435
  have q500 := f491 _ _ q437
  have q501 := (er2 (Lf.lt (ci := 99) f491) q435 rfl 1).trans q438
  have q502 := f491 _ _ q439
  have q503 := q440.lf5 f491
  have q504 := q441.lf f491 q440
  have q505 := f491 _ _ q442
  have q506 := (er4 (Lf.lt (ci := 99) f491) q440 rfl 1).trans q443
  have q507 := q444.lf6 f491
  have q508 := q445.lf f491 q444
  have q509 := f491 _ _ q446
  have q510 := (er4 (Lf.lt (ci := 99) f491) q444 rfl 1).trans q447
  have q511 := q448.lf6 f491
  have q512 := q449.lf f491 q448
  have q513 := f491 _ _ q450
  have q514 := (er4 (Lf.lt (ci := 99) f491) q448 rfl 1).trans q451
  have q515 := q452.lf f491
  have q516 := q453.lf f491 q452
  have q517 := f491 _ _ q454
  have q518 := (er2 (Lf.lt (ci := 99) f491) q452 rfl 1).trans q455
  have q519 := S457.lf f491
  have q520 := c458.lf f491 S457
  have q521 := f491 _ _ g461
  have q522 := (er2 (Lf.lt (ci := 99) f491) S457 rfl 1).trans e460.symm
  have g523 := f491 _ _ g456
  have S524 := S487.1
  have c525 := S487.2
  obtain ⟨t526, e527⟩ : ∃ t, t = rf G483 a470 1 := ⟨_, rfl⟩
  have g528 : G483 t526 = some (.inr (0, 7, .inl gany)) := by rw [e527]; exact S_X2.f1 S524
  have t529 : a470 < t526 := by rw [e527]; exact Nat.lt_trans c525.1 c525.2
  refine J_aast4 E490 q502 S524.1 (Bd.in (Bd.lit 2 2 (by decide)) (by decide)) dX6_init_114 ?_
  rw [show Int32.toNatClampNeg (2 : Int32) = 2 from by decide]
  generalize e531 : stu w485 a127 2 (some a470) = w530
  have o532 : Oz G483 v484 w530 [a127] := by rw [← e531]; exact o488.stu List.mem_cons_self
  have u534 : w530.2 a127 0 = some a352 := by rw [← e531]; exact (stu_k (by decide)).trans u492
  have u535 : w530.2 a127 1 = some a408 := by rw [← e531]; exact (stu_k (by decide)).trans u493
  have u533 : w530.2 a127 2 = some a470 := by rw [← e531]; exact stu_s
  refine J_iinc E490 0 1 (fun z => [(1, .int z), (0, .ref h0)]) dX6_init_115 rfl (by decide) (by decide) (fun _ => rfl) (fun z536 e537 => ?_)
  have e537b : z536 = 3 := by rw [e537]; decide
  subst e537b
  refine J_goto E490 96 dX6_init_118 (by decide) ?_
  refine J_iload_n E490 dX6_init_96 0 rfl ?_
  refine J_bipush E490 (8) dX6_init_97 (by decide) ?_
  refine J_icmp_ge E490 121 dX6_init_99 (by decide) (fun c => absurd c (by decide)) (fun _ => ?_)
  refine J_aload_n E490 dX6_init_102 1 rfl ?_
  refine J_getR E490 in_X6 rfl g523 7 (by decide) wd210 rfl dX6_init_103 ?_
  refine J_iload_n E490 dX6_init_106 0 rfl ?_
  refine N_new (ci := 2) E490 o532 in_X2 tyX2 tyX2_ok wd144 wd145 wd117 rfl [f0, f0, fi I0 I1, fi I0 I1] (by decide) (nfs_X2 _ _) hA0 ⟨Nat.le_of_ble_eq_true rfl, Nat.le_of_ble_eq_true rfl⟩ dX6_init_107 (fun a538 G539 v540 w541 f542 s543 o544 z545 n546 k547 E548 => ?_)
  have t549 : t526 < a538 := n546 _ (by rw [g528]; rfl)
  have n550 := top_none n546
  refine J_dup E548 dX6_init_110 rfl ?_
  refine N_callIN E548 o544 cali_X2 wd146 [] [.ref a538, .int 3, .ref a127] (fun G => T_X2 G a538) (fun h q => q.lf h) (ct_X2_init l D dA a538) (fun G q => by rw [q.1.1]; rfl) s543 z545 hA0 rfl rfl (Nat.le_of_ble_eq_true rfl) ⟨rfl, rfl⟩ ⟨Nat.le_of_ble_eq_true rfl, Nat.le_of_ble_eq_true rfl⟩ ⟨Nat.le_of_ble_eq_true rfl, Nat.le_of_ble_eq_true rfl⟩ dX6_init_111 (fun G551 v552 w553 b554 S555 o556 k557 E558 => ?_)
  have f559 := f542.but n550 b554
  have u560 := (k557 a127 0 (fun q => by rw [q, n550] at q502; cases q502) (by rw [f542 _ _ q502]; rfl)).trans ((k547 a127 0 (by rw [q502]; rfl)).trans u534)
  have u561 := (k557 a127 1 (fun q => by rw [q, n550] at q502; cases q502) (by rw [f542 _ _ q502]; rfl)).trans ((k547 a127 1 (by rw [q502]; rfl)).trans u535)
  have u562 := (k557 a127 2 (fun q => by rw [q, n550] at q502; cases q502) (by rw [f542 _ _ q502]; rfl)).trans ((k547 a127 2 (by rw [q502]; rfl)).trans u533)
  have q563 := f559 _ _ q494
  have q564 := f559 _ _ q495
  have q565 := f559 _ _ q496
  have q566 := f559 _ _ q497
  have q567 := q498.lf f559
  have q568 := q499.lf f559 q498
  have q569 := f559 _ _ q500
  have q570 := (er2 (Lf.lt (ci := 99) f559) q498 rfl 1).trans q501
  have q571 := f559 _ _ q502
  have q572 := q503.lf5 f559
  have q573 := q504.lf f559 q503
  have q574 := f559 _ _ q505
  have q575 := (er4 (Lf.lt (ci := 99) f559) q503 rfl 1).trans q506
  have q576 := q507.lf6 f559
  have q577 := q508.lf f559 q507
  have q578 := f559 _ _ q509
  have q579 := (er4 (Lf.lt (ci := 99) f559) q507 rfl 1).trans q510
  have q580 := q511.lf6 f559
  have q581 := q512.lf f559 q511
  have q582 := f559 _ _ q513
  have q583 := (er4 (Lf.lt (ci := 99) f559) q511 rfl 1).trans q514
  have q584 := q515.lf f559
  have q585 := q516.lf f559 q515
  have q586 := f559 _ _ q517
  have q587 := (er2 (Lf.lt (ci := 99) f559) q515 rfl 1).trans q518
  have q588 := q519.lf f559
  have q589 := q520.lf f559 q519
  have q590 := f559 _ _ q521
  have q591 := (er2 (Lf.lt (ci := 99) f559) q519 rfl 1).trans q522
  have q592 := S524.lf f559
  have q593 := c525.lf f559 S524
  have q594 := f559 _ _ g528
  have q595 := (er2 (Lf.lt (ci := 99) f559) S524 rfl 1).trans e527.symm
  have g596 := f559 _ _ g523
  have S597 := S555.1
  have c598 := S555.2
  obtain ⟨t599, e600⟩ : ∃ t, t = rf G551 a538 1 := ⟨_, rfl⟩
  have g601 : G551 t599 = some (.inr (0, 7, .inl gany)) := by rw [e600]; exact S_X2.f1 S597
  have t602 : a538 < t599 := by rw [e600]; exact Nat.lt_trans c598.1 c598.2
  refine J_aast4 E558 q571 S597.1 (Bd.in (Bd.lit 3 3 (by decide)) (by decide)) dX6_init_114 ?_
  rw [show Int32.toNatClampNeg (3 : Int32) = 3 from by decide]
  generalize e604 : stu w553 a127 3 (some a538) = w603
  have o605 : Oz G551 v552 w603 [a127] := by rw [← e604]; exact o556.stu List.mem_cons_self
  have u607 : w603.2 a127 0 = some a352 := by rw [← e604]; exact (stu_k (by decide)).trans u560
  have u608 : w603.2 a127 1 = some a408 := by rw [← e604]; exact (stu_k (by decide)).trans u561
  have u609 : w603.2 a127 2 = some a470 := by rw [← e604]; exact (stu_k (by decide)).trans u562
  have u606 : w603.2 a127 3 = some a538 := by rw [← e604]; exact stu_s
  refine J_iinc E558 0 1 (fun z => [(1, .int z), (0, .ref h0)]) dX6_init_115 rfl (by decide) (by decide) (fun _ => rfl) (fun z610 e611 => ?_)
  have e611b : z610 = 4 := by rw [e611]; decide
  subst e611b
  refine J_goto E558 96 dX6_init_118 (by decide) ?_
  refine J_iload_n E558 dX6_init_96 0 rfl ?_
  refine J_bipush E558 (8) dX6_init_97 (by decide) ?_
  refine J_icmp_ge E558 121 dX6_init_99 (by decide) (fun c => absurd c (by decide)) (fun _ => ?_)
  refine J_aload_n E558 dX6_init_102 1 rfl ?_
  refine J_getR E558 in_X6 rfl g596 7 (by decide) wd210 rfl dX6_init_103 ?_
  refine J_iload_n E558 dX6_init_106 0 rfl ?_
  refine N_new (ci := 2) E558 o605 in_X2 tyX2 tyX2_ok wd144 wd145 wd117 rfl [f0, f0, fi I0 I1, fi I0 I1] (by decide) (nfs_X2 _ _) hA0 ⟨Nat.le_of_ble_eq_true rfl, Nat.le_of_ble_eq_true rfl⟩ dX6_init_107 (fun a612 G613 v614 w615 f616 s617 o618 z619 n620 k621 E622 => ?_)
  have t623 : t599 < a612 := n620 _ (by rw [g601]; rfl)
  have n624 := top_none n620
  refine J_dup E622 dX6_init_110 rfl ?_
  refine N_callIN E622 o618 cali_X2 wd146 [] [.ref a612, .int 4, .ref a127] (fun G => T_X2 G a612) (fun h q => q.lf h) (ct_X2_init l D dA a612) (fun G q => by rw [q.1.1]; rfl) s617 z619 hA0 rfl rfl (Nat.le_of_ble_eq_true rfl) ⟨rfl, rfl⟩ ⟨Nat.le_of_ble_eq_true rfl, Nat.le_of_ble_eq_true rfl⟩ ⟨Nat.le_of_ble_eq_true rfl, Nat.le_of_ble_eq_true rfl⟩ dX6_init_111 (fun G625 v626 w627 b628 S629 o630 k631 E632 => ?_)
  have f633 := f616.but n624 b628
  have u634 := (k631 a127 0 (fun q => by rw [q, n624] at q571; cases q571) (by rw [f616 _ _ q571]; rfl)).trans ((k621 a127 0 (by rw [q571]; rfl)).trans u607)
  have u635 := (k631 a127 1 (fun q => by rw [q, n624] at q571; cases q571) (by rw [f616 _ _ q571]; rfl)).trans ((k621 a127 1 (by rw [q571]; rfl)).trans u608)
  have u636 := (k631 a127 2 (fun q => by rw [q, n624] at q571; cases q571) (by rw [f616 _ _ q571]; rfl)).trans ((k621 a127 2 (by rw [q571]; rfl)).trans u609)
  have u637 := (k631 a127 3 (fun q => by rw [q, n624] at q571; cases q571) (by rw [f616 _ _ q571]; rfl)).trans ((k621 a127 3 (by rw [q571]; rfl)).trans u606)
  have q638 := f633 _ _ q563
  have q639 := f633 _ _ q564
  have q640 := f633 _ _ q565
  have q641 := f633 _ _ q566
  have q642 := q567.lf f633
  have q643 := q568.lf f633 q567
  have q644 := f633 _ _ q569
  have q645 := (er2 (Lf.lt (ci := 99) f633) q567 rfl 1).trans q570
  have q646 := f633 _ _ q571
  have q647 := q572.lf5 f633
  have q648 := q573.lf f633 q572
  have q649 := f633 _ _ q574
  have q650 := (er4 (Lf.lt (ci := 99) f633) q572 rfl 1).trans q575
  have q651 := q576.lf6 f633
  have q652 := q577.lf f633 q576
  have q653 := f633 _ _ q578
  have q654 := (er4 (Lf.lt (ci := 99) f633) q576 rfl 1).trans q579
  have q655 := q580.lf6 f633
  have q656 := q581.lf f633 q580
  have q657 := f633 _ _ q582
  have q658 := (er4 (Lf.lt (ci := 99) f633) q580 rfl 1).trans q583
  have q659 := q584.lf f633
  have q660 := q585.lf f633 q584
  have q661 := f633 _ _ q586
  have q662 := (er2 (Lf.lt (ci := 99) f633) q584 rfl 1).trans q587
  have q663 := q588.lf f633
  have q664 := q589.lf f633 q588
  have q665 := f633 _ _ q590
  have q666 := (er2 (Lf.lt (ci := 99) f633) q588 rfl 1).trans q591
  have q667 := q592.lf f633
  have q668 := q593.lf f633 q592
  have q669 := f633 _ _ q594
  have q670 := (er2 (Lf.lt (ci := 99) f633) q592 rfl 1).trans q595
  have q671 := S597.lf f633
  have q672 := c598.lf f633 S597
  have q673 := f633 _ _ g601
  have q674 := (er2 (Lf.lt (ci := 99) f633) S597 rfl 1).trans e600.symm
  have g675 := f633 _ _ g596
  have S676 := S629.1
  have c677 := S629.2
  obtain ⟨t678, e679⟩ : ∃ t, t = rf G625 a612 1 := ⟨_, rfl⟩
  have g680 : G625 t678 = some (.inr (0, 7, .inl gany)) := by rw [e679]; exact S_X2.f1 S676
  have t681 : a612 < t678 := by rw [e679]; exact Nat.lt_trans c677.1 c677.2
  refine J_aast4 E632 q646 S676.1 (Bd.in (Bd.lit 4 4 (by decide)) (by decide)) dX6_init_114 ?_
  rw [show Int32.toNatClampNeg (4 : Int32) = 4 from by decide]
  generalize e683 : stu w627 a127 4 (some a612) = w682
  have o684 : Oz G625 v626 w682 [a127] := by rw [← e683]; exact o630.stu List.mem_cons_self
  have u686 : w682.2 a127 0 = some a352 := by rw [← e683]; exact (stu_k (by decide)).trans u634
  have u687 : w682.2 a127 1 = some a408 := by rw [← e683]; exact (stu_k (by decide)).trans u635
  have u688 : w682.2 a127 2 = some a470 := by rw [← e683]; exact (stu_k (by decide)).trans u636
  have u689 : w682.2 a127 3 = some a538 := by rw [← e683]; exact (stu_k (by decide)).trans u637
  have u685 : w682.2 a127 4 = some a612 := by rw [← e683]; exact stu_s
  refine J_iinc E632 0 1 (fun z => [(1, .int z), (0, .ref h0)]) dX6_init_115 rfl (by decide) (by decide) (fun _ => rfl) (fun z690 e691 => ?_)
  have e691b : z690 = 5 := by rw [e691]; decide
  subst e691b
  refine J_goto E632 96 dX6_init_118 (by decide) ?_
  refine J_iload_n E632 dX6_init_96 0 rfl ?_
  refine J_bipush E632 (8) dX6_init_97 (by decide) ?_
  refine J_icmp_ge E632 121 dX6_init_99 (by decide) (fun c => absurd c (by decide)) (fun _ => ?_)
  refine J_aload_n E632 dX6_init_102 1 rfl ?_
  refine J_getR E632 in_X6 rfl g675 7 (by decide) wd210 rfl dX6_init_103 ?_
  refine J_iload_n E632 dX6_init_106 0 rfl ?_
  refine N_new (ci := 2) E632 o684 in_X2 tyX2 tyX2_ok wd144 wd145 wd117 rfl [f0, f0, fi I0 I1, fi I0 I1] (by decide) (nfs_X2 _ _) hA0 ⟨Nat.le_of_ble_eq_true rfl, Nat.le_of_ble_eq_true rfl⟩ dX6_init_107 (fun a692 G693 v694 w695 f696 s697 o698 z699 n700 k701 E702 => ?_)
  have t703 : t678 < a692 := n700 _ (by rw [g680]; rfl)
  have n704 := top_none n700
  refine J_dup E702 dX6_init_110 rfl ?_
  refine N_callIN E702 o698 cali_X2 wd146 [] [.ref a692, .int 5, .ref a127] (fun G => T_X2 G a692) (fun h q => q.lf h) (ct_X2_init l D dA a692) (fun G q => by rw [q.1.1]; rfl) s697 z699 hA0 rfl rfl (Nat.le_of_ble_eq_true rfl) ⟨rfl, rfl⟩ ⟨Nat.le_of_ble_eq_true rfl, Nat.le_of_ble_eq_true rfl⟩ ⟨Nat.le_of_ble_eq_true rfl, Nat.le_of_ble_eq_true rfl⟩ dX6_init_111 (fun G705 v706 w707 b708 S709 o710 k711 E712 => ?_)
  have f713 := f696.but n704 b708
  have u714 := (k711 a127 0 (fun q => by rw [q, n704] at q646; cases q646) (by rw [f696 _ _ q646]; rfl)).trans ((k701 a127 0 (by rw [q646]; rfl)).trans u686)
  have u715 := (k711 a127 1 (fun q => by rw [q, n704] at q646; cases q646) (by rw [f696 _ _ q646]; rfl)).trans ((k701 a127 1 (by rw [q646]; rfl)).trans u687)
  have u716 := (k711 a127 2 (fun q => by rw [q, n704] at q646; cases q646) (by rw [f696 _ _ q646]; rfl)).trans ((k701 a127 2 (by rw [q646]; rfl)).trans u688)
  have u717 := (k711 a127 3 (fun q => by rw [q, n704] at q646; cases q646) (by rw [f696 _ _ q646]; rfl)).trans ((k701 a127 3 (by rw [q646]; rfl)).trans u689)
  have u718 := (k711 a127 4 (fun q => by rw [q, n704] at q646; cases q646) (by rw [f696 _ _ q646]; rfl)).trans ((k701 a127 4 (by rw [q646]; rfl)).trans u685)
  have q719 := f713 _ _ q638
  have q720 := f713 _ _ q639
  have q721 := f713 _ _ q640
  have q722 := f713 _ _ q641
  have q723 := q642.lf f713
  have q724 := q643.lf f713 q642
  have q725 := f713 _ _ q644
  have q726 := (er2 (Lf.lt (ci := 99) f713) q642 rfl 1).trans q645
  have q727 := f713 _ _ q646
  have q728 := q647.lf5 f713
  have q729 := q648.lf f713 q647
  have q730 := f713 _ _ q649
  have q731 := (er4 (Lf.lt (ci := 99) f713) q647 rfl 1).trans q650
  have q732 := q651.lf6 f713
  have q733 := q652.lf f713 q651
  have q734 := f713 _ _ q653
  have q735 := (er4 (Lf.lt (ci := 99) f713) q651 rfl 1).trans q654
  have q736 := q655.lf6 f713
  have q737 := q656.lf f713 q655
  have q738 := f713 _ _ q657
  have q739 := (er4 (Lf.lt (ci := 99) f713) q655 rfl 1).trans q658
  have q740 := q659.lf f713
  have q741 := q660.lf f713 q659
  have q742 := f713 _ _ q661
  have q743 := (er2 (Lf.lt (ci := 99) f713) q659 rfl 1).trans q662
  have q744 := q663.lf f713
  have q745 := q664.lf f713 q663
  have q746 := f713 _ _ q665
  have q747 := (er2 (Lf.lt (ci := 99) f713) q663 rfl 1).trans q666
  have q748 := q667.lf f713
  have q749 := q668.lf f713 q667
  have q750 := f713 _ _ q669
  have q751 := (er2 (Lf.lt (ci := 99) f713) q667 rfl 1).trans q670
  have q752 := q671.lf f713
  have q753 := q672.lf f713 q671
  have q754 := f713 _ _ q673
  have q755 := (er2 (Lf.lt (ci := 99) f713) q671 rfl 1).trans q674
  have q756 := S676.lf f713
  have q757 := c677.lf f713 S676
  have q758 := f713 _ _ g680
  have q759 := (er2 (Lf.lt (ci := 99) f713) S676 rfl 1).trans e679.symm
  have g760 := f713 _ _ g675
  have S761 := S709.1
  have c762 := S709.2
  obtain ⟨t763, e764⟩ : ∃ t, t = rf G705 a692 1 := ⟨_, rfl⟩
  have g765 : G705 t763 = some (.inr (0, 7, .inl gany)) := by rw [e764]; exact S_X2.f1 S761
  have t766 : a692 < t763 := by rw [e764]; exact Nat.lt_trans c762.1 c762.2
  refine J_aast4 E712 q727 S761.1 (Bd.in (Bd.lit 5 5 (by decide)) (by decide)) dX6_init_114 ?_
  rw [show Int32.toNatClampNeg (5 : Int32) = 5 from by decide]
  generalize e768 : stu w707 a127 5 (some a692) = w767
  have o769 : Oz G705 v706 w767 [a127] := by rw [← e768]; exact o710.stu List.mem_cons_self
  have u771 : w767.2 a127 0 = some a352 := by rw [← e768]; exact (stu_k (by decide)).trans u714
  have u772 : w767.2 a127 1 = some a408 := by rw [← e768]; exact (stu_k (by decide)).trans u715
  have u773 : w767.2 a127 2 = some a470 := by rw [← e768]; exact (stu_k (by decide)).trans u716
  have u774 : w767.2 a127 3 = some a538 := by rw [← e768]; exact (stu_k (by decide)).trans u717
  have u775 : w767.2 a127 4 = some a612 := by rw [← e768]; exact (stu_k (by decide)).trans u718
  have u770 : w767.2 a127 5 = some a692 := by rw [← e768]; exact stu_s
  refine J_iinc E712 0 1 (fun z => [(1, .int z), (0, .ref h0)]) dX6_init_115 rfl (by decide) (by decide) (fun _ => rfl) (fun z776 e777 => ?_)
  have e777b : z776 = 6 := by rw [e777]; decide
  subst e777b
  refine J_goto E712 96 dX6_init_118 (by decide) ?_
  refine J_iload_n E712 dX6_init_96 0 rfl ?_
  refine J_bipush E712 (8) dX6_init_97 (by decide) ?_
  refine J_icmp_ge E712 121 dX6_init_99 (by decide) (fun c => absurd c (by decide)) (fun _ => ?_)
  refine J_aload_n E712 dX6_init_102 1 rfl ?_
  refine J_getR E712 in_X6 rfl g760 7 (by decide) wd210 rfl dX6_init_103 ?_
  refine J_iload_n E712 dX6_init_106 0 rfl ?_
  refine N_new (ci := 2) E712 o769 in_X2 tyX2 tyX2_ok wd144 wd145 wd117 rfl [f0, f0, fi I0 I1, fi I0 I1] (by decide) (nfs_X2 _ _) hA0 ⟨Nat.le_of_ble_eq_true rfl, Nat.le_of_ble_eq_true rfl⟩ dX6_init_107 (fun a778 G779 v780 w781 f782 s783 o784 z785 n786 k787 E788 => ?_)
  have t789 : t763 < a778 := n786 _ (by rw [g765]; rfl)
  have n790 := top_none n786
  refine J_dup E788 dX6_init_110 rfl ?_
  refine N_callIN E788 o784 cali_X2 wd146 [] [.ref a778, .int 6, .ref a127] (fun G => T_X2 G a778) (fun h q => q.lf h) (ct_X2_init l D dA a778) (fun G q => by rw [q.1.1]; rfl) s783 z785 hA0 rfl rfl (Nat.le_of_ble_eq_true rfl) ⟨rfl, rfl⟩ ⟨Nat.le_of_ble_eq_true rfl, Nat.le_of_ble_eq_true rfl⟩ ⟨Nat.le_of_ble_eq_true rfl, Nat.le_of_ble_eq_true rfl⟩ dX6_init_111 (fun G791 v792 w793 b794 S795 o796 k797 E798 => ?_)
  have f799 := f782.but n790 b794
  have u800 := (k797 a127 0 (fun q => by rw [q, n790] at q727; cases q727) (by rw [f782 _ _ q727]; rfl)).trans ((k787 a127 0 (by rw [q727]; rfl)).trans u771)
  have u801 := (k797 a127 1 (fun q => by rw [q, n790] at q727; cases q727) (by rw [f782 _ _ q727]; rfl)).trans ((k787 a127 1 (by rw [q727]; rfl)).trans u772)
  have u802 := (k797 a127 2 (fun q => by rw [q, n790] at q727; cases q727) (by rw [f782 _ _ q727]; rfl)).trans ((k787 a127 2 (by rw [q727]; rfl)).trans u773)
  have u803 := (k797 a127 3 (fun q => by rw [q, n790] at q727; cases q727) (by rw [f782 _ _ q727]; rfl)).trans ((k787 a127 3 (by rw [q727]; rfl)).trans u774)
  have u804 := (k797 a127 4 (fun q => by rw [q, n790] at q727; cases q727) (by rw [f782 _ _ q727]; rfl)).trans ((k787 a127 4 (by rw [q727]; rfl)).trans u775)
  have u805 := (k797 a127 5 (fun q => by rw [q, n790] at q727; cases q727) (by rw [f782 _ _ q727]; rfl)).trans ((k787 a127 5 (by rw [q727]; rfl)).trans u770)
  have q806 := f799 _ _ q719
  have q807 := f799 _ _ q720
  have q808 := f799 _ _ q721
  have q809 := f799 _ _ q722
  have q810 := q723.lf f799
  have q811 := q724.lf f799 q723
  have q812 := f799 _ _ q725
  have q813 := (er2 (Lf.lt (ci := 99) f799) q723 rfl 1).trans q726
  have q814 := f799 _ _ q727
  have q815 := q728.lf5 f799
  have q816 := q729.lf f799 q728
  have q817 := f799 _ _ q730
  have q818 := (er4 (Lf.lt (ci := 99) f799) q728 rfl 1).trans q731
  have q819 := q732.lf6 f799
  have q820 := q733.lf f799 q732
  have q821 := f799 _ _ q734
  have q822 := (er4 (Lf.lt (ci := 99) f799) q732 rfl 1).trans q735
  have q823 := q736.lf6 f799
  have q824 := q737.lf f799 q736
  have q825 := f799 _ _ q738
  have q826 := (er4 (Lf.lt (ci := 99) f799) q736 rfl 1).trans q739
  have q827 := q740.lf f799
  have q828 := q741.lf f799 q740
  have q829 := f799 _ _ q742
  have q830 := (er2 (Lf.lt (ci := 99) f799) q740 rfl 1).trans q743
  have q831 := q744.lf f799
  have q832 := q745.lf f799 q744
  have q833 := f799 _ _ q746
  have q834 := (er2 (Lf.lt (ci := 99) f799) q744 rfl 1).trans q747
  have q835 := q748.lf f799
  have q836 := q749.lf f799 q748
  have q837 := f799 _ _ q750
  have q838 := (er2 (Lf.lt (ci := 99) f799) q748 rfl 1).trans q751
  have q839 := q752.lf f799
  have q840 := q753.lf f799 q752
  have q841 := f799 _ _ q754
  have q842 := (er2 (Lf.lt (ci := 99) f799) q752 rfl 1).trans q755
  have q843 := q756.lf f799
  have q844 := q757.lf f799 q756
  have q845 := f799 _ _ q758
  have q846 := (er2 (Lf.lt (ci := 99) f799) q756 rfl 1).trans q759
  have q847 := S761.lf f799
  have q848 := c762.lf f799 S761
  have q849 := f799 _ _ g765
  have q850 := (er2 (Lf.lt (ci := 99) f799) S761 rfl 1).trans e764.symm
  have g851 := f799 _ _ g760
  have S852 := S795.1
  have c853 := S795.2
  obtain ⟨t854, e855⟩ : ∃ t, t = rf G791 a778 1 := ⟨_, rfl⟩
  have g856 : G791 t854 = some (.inr (0, 7, .inl gany)) := by rw [e855]; exact S_X2.f1 S852
  have t857 : a778 < t854 := by rw [e855]; exact Nat.lt_trans c853.1 c853.2
  refine J_aast4 E798 q814 S852.1 (Bd.in (Bd.lit 6 6 (by decide)) (by decide)) dX6_init_114 ?_
  rw [show Int32.toNatClampNeg (6 : Int32) = 6 from by decide]
  generalize e859 : stu w793 a127 6 (some a778) = w858
  have o860 : Oz G791 v792 w858 [a127] := by rw [← e859]; exact o796.stu List.mem_cons_self
  have u862 : w858.2 a127 0 = some a352 := by rw [← e859]; exact (stu_k (by decide)).trans u800
  have u863 : w858.2 a127 1 = some a408 := by rw [← e859]; exact (stu_k (by decide)).trans u801
  have u864 : w858.2 a127 2 = some a470 := by rw [← e859]; exact (stu_k (by decide)).trans u802
  have u865 : w858.2 a127 3 = some a538 := by rw [← e859]; exact (stu_k (by decide)).trans u803
  have u866 : w858.2 a127 4 = some a612 := by rw [← e859]; exact (stu_k (by decide)).trans u804
  have u867 : w858.2 a127 5 = some a692 := by rw [← e859]; exact (stu_k (by decide)).trans u805
  have u861 : w858.2 a127 6 = some a778 := by rw [← e859]; exact stu_s
  refine J_iinc E798 0 1 (fun z => [(1, .int z), (0, .ref h0)]) dX6_init_115 rfl (by decide) (by decide) (fun _ => rfl) (fun z868 e869 => ?_)
  have e869b : z868 = 7 := by rw [e869]; decide
  subst e869b
  refine J_goto E798 96 dX6_init_118 (by decide) ?_
  refine J_iload_n E798 dX6_init_96 0 rfl ?_
  refine J_bipush E798 (8) dX6_init_97 (by decide) ?_
  refine J_icmp_ge E798 121 dX6_init_99 (by decide) (fun c => absurd c (by decide)) (fun _ => ?_)
  refine J_aload_n E798 dX6_init_102 1 rfl ?_
  refine J_getR E798 in_X6 rfl g851 7 (by decide) wd210 rfl dX6_init_103 ?_
  refine J_iload_n E798 dX6_init_106 0 rfl ?_
  refine N_new (ci := 2) E798 o860 in_X2 tyX2 tyX2_ok wd144 wd145 wd117 rfl [f0, f0, fi I0 I1, fi I0 I1] (by decide) (nfs_X2 _ _) hA0 ⟨Nat.le_of_ble_eq_true rfl, Nat.le_of_ble_eq_true rfl⟩ dX6_init_107 (fun a870 G871 v872 w873 f874 s875 o876 z877 n878 k879 E880 => ?_)
  have t881 : t854 < a870 := n878 _ (by rw [g856]; rfl)
  have n882 := top_none n878
  refine J_dup E880 dX6_init_110 rfl ?_
  refine N_callIN E880 o876 cali_X2 wd146 [] [.ref a870, .int 7, .ref a127] (fun G => T_X2 G a870) (fun h q => q.lf h) (ct_X2_init l D dA a870) (fun G q => by rw [q.1.1]; rfl) s875 z877 hA0 rfl rfl (Nat.le_of_ble_eq_true rfl) ⟨rfl, rfl⟩ ⟨Nat.le_of_ble_eq_true rfl, Nat.le_of_ble_eq_true rfl⟩ ⟨Nat.le_of_ble_eq_true rfl, Nat.le_of_ble_eq_true rfl⟩ dX6_init_111 (fun G883 v884 w885 b886 S887 o888 k889 E890 => ?_)
  have f891 := f874.but n882 b886
  have u892 := (k889 a127 0 (fun q => by rw [q, n882] at q814; cases q814) (by rw [f874 _ _ q814]; rfl)).trans ((k879 a127 0 (by rw [q814]; rfl)).trans u862)
  have u893 := (k889 a127 1 (fun q => by rw [q, n882] at q814; cases q814) (by rw [f874 _ _ q814]; rfl)).trans ((k879 a127 1 (by rw [q814]; rfl)).trans u863)
  have u894 := (k889 a127 2 (fun q => by rw [q, n882] at q814; cases q814) (by rw [f874 _ _ q814]; rfl)).trans ((k879 a127 2 (by rw [q814]; rfl)).trans u864)
  have u895 := (k889 a127 3 (fun q => by rw [q, n882] at q814; cases q814) (by rw [f874 _ _ q814]; rfl)).trans ((k879 a127 3 (by rw [q814]; rfl)).trans u865)
  have u896 := (k889 a127 4 (fun q => by rw [q, n882] at q814; cases q814) (by rw [f874 _ _ q814]; rfl)).trans ((k879 a127 4 (by rw [q814]; rfl)).trans u866)
  have u897 := (k889 a127 5 (fun q => by rw [q, n882] at q814; cases q814) (by rw [f874 _ _ q814]; rfl)).trans ((k879 a127 5 (by rw [q814]; rfl)).trans u867)
  have u898 := (k889 a127 6 (fun q => by rw [q, n882] at q814; cases q814) (by rw [f874 _ _ q814]; rfl)).trans ((k879 a127 6 (by rw [q814]; rfl)).trans u861)
  have q899 := f891 _ _ q806
  have q900 := f891 _ _ q807
  have q901 := f891 _ _ q808
  have q902 := f891 _ _ q809
  have q903 := q810.lf f891
  have q904 := q811.lf f891 q810
  have q905 := f891 _ _ q812
  have q906 := (er2 (Lf.lt (ci := 99) f891) q810 rfl 1).trans q813
  have q907 := f891 _ _ q814
  have q908 := q815.lf5 f891
  have q909 := q816.lf f891 q815
  have q910 := f891 _ _ q817
  have q911 := (er4 (Lf.lt (ci := 99) f891) q815 rfl 1).trans q818
  have q912 := q819.lf6 f891
  have q913 := q820.lf f891 q819
  have q914 := f891 _ _ q821
  have q915 := (er4 (Lf.lt (ci := 99) f891) q819 rfl 1).trans q822
  have q916 := q823.lf6 f891
  have q917 := q824.lf f891 q823
  have q918 := f891 _ _ q825
  have q919 := (er4 (Lf.lt (ci := 99) f891) q823 rfl 1).trans q826
  have q920 := q827.lf f891
  have q921 := q828.lf f891 q827
  have q922 := f891 _ _ q829
  have q923 := (er2 (Lf.lt (ci := 99) f891) q827 rfl 1).trans q830
  have q924 := q831.lf f891
  have q925 := q832.lf f891 q831
  have q926 := f891 _ _ q833
  have q927 := (er2 (Lf.lt (ci := 99) f891) q831 rfl 1).trans q834
  have q928 := q835.lf f891
  have q929 := q836.lf f891 q835
  have q930 := f891 _ _ q837
  have q931 := (er2 (Lf.lt (ci := 99) f891) q835 rfl 1).trans q838
  have q932 := q839.lf f891
  have q933 := q840.lf f891 q839
  have q934 := f891 _ _ q841
  have q935 := (er2 (Lf.lt (ci := 99) f891) q839 rfl 1).trans q842
  have q936 := q843.lf f891
  have q937 := q844.lf f891 q843
  have q938 := f891 _ _ q845
  have q939 := (er2 (Lf.lt (ci := 99) f891) q843 rfl 1).trans q846
  have q940 := q847.lf f891
  have q941 := q848.lf f891 q847
  have q942 := f891 _ _ q849
  have q943 := (er2 (Lf.lt (ci := 99) f891) q847 rfl 1).trans q850
  have q944 := S852.lf f891
  have q945 := c853.lf f891 S852
  have q946 := f891 _ _ g856
  have q947 := (er2 (Lf.lt (ci := 99) f891) S852 rfl 1).trans e855.symm
  have g948 := f891 _ _ g851
  have S949 := S887.1
  have c950 := S887.2
  obtain ⟨t951, e952⟩ : ∃ t, t = rf G883 a870 1 := ⟨_, rfl⟩
  have g953 : G883 t951 = some (.inr (0, 7, .inl gany)) := by rw [e952]; exact S_X2.f1 S949
  have t954 : a870 < t951 := by rw [e952]; exact Nat.lt_trans c950.1 c950.2
  refine J_aast4 E890 q907 S949.1 (Bd.in (Bd.lit 7 7 (by decide)) (by decide)) dX6_init_114 ?_
  rw [show Int32.toNatClampNeg (7 : Int32) = 7 from by decide]
  generalize e956 : stu w885 a127 7 (some a870) = w955
  have o957 : Oz G883 v884 w955 [a127] := by rw [← e956]; exact o888.stu List.mem_cons_self
  have u959 : w955.2 a127 0 = some a352 := by rw [← e956]; exact (stu_k (by decide)).trans u892
  have u960 : w955.2 a127 1 = some a408 := by rw [← e956]; exact (stu_k (by decide)).trans u893
  have u961 : w955.2 a127 2 = some a470 := by rw [← e956]; exact (stu_k (by decide)).trans u894
  have u962 : w955.2 a127 3 = some a538 := by rw [← e956]; exact (stu_k (by decide)).trans u895
  have u963 : w955.2 a127 4 = some a612 := by rw [← e956]; exact (stu_k (by decide)).trans u896
  have u964 : w955.2 a127 5 = some a692 := by rw [← e956]; exact (stu_k (by decide)).trans u897
  have u965 : w955.2 a127 6 = some a778 := by rw [← e956]; exact (stu_k (by decide)).trans u898
  have u958 : w955.2 a127 7 = some a870 := by rw [← e956]; exact stu_s
  refine J_iinc E890 0 1 (fun z => [(1, .int z), (0, .ref h0)]) dX6_init_115 rfl (by decide) (by decide) (fun _ => rfl) (fun z966 e967 => ?_)
  have e967b : z966 = 8 := by rw [e967]; decide
  subst e967b
  refine J_goto E890 96 dX6_init_118 (by decide) ?_
  refine J_iload_n E890 dX6_init_96 0 rfl ?_
  refine J_bipush E890 (8) dX6_init_97 (by decide) ?_
  refine J_icmp_ge E890 121 dX6_init_99 (by decide) (fun _ => ?_) (fun c => absurd c (by decide))
  have h968 : ∀ j, j < 8 → ∃ b, b ∈ [a352, a408, a470, a538, a612, a692, a778, a870] ∧ w955.2 a127 j = some b ∧ (4 = 3 → ([a352, a408, a470, a538, a612, a692, a778, a870] : List Nat)[j]? = some b) := fun j hj => by
    match j, hj with
    | 0, _ => exact ⟨a352, by simp, u959, fun _ => rfl⟩
    | 1, _ => exact ⟨a408, by simp, u960, fun _ => rfl⟩
    | 2, _ => exact ⟨a470, by simp, u961, fun _ => rfl⟩
    | 3, _ => exact ⟨a538, by simp, u962, fun _ => rfl⟩
    | 4, _ => exact ⟨a612, by simp, u963, fun _ => rfl⟩
    | 5, _ => exact ⟨a692, by simp, u964, fun _ => rfl⟩
    | 6, _ => exact ⟨a778, by simp, u965, fun _ => rfl⟩
    | 7, _ => exact ⟨a870, by simp, u958, fun _ => rfl⟩
    | (n + 8), h => exact absurd h (by omega)
  refine J.full E890 o957 q907 h968 (fun G969 l970 g971 o972 E973 => ?_)
  have q974 := l970 _ _ q899 rfl
  have q975 := l970 _ _ q900 rfl
  have q976 := l970 _ _ q901 rfl
  have q977 := l970 _ _ q902 rfl
  have q978 := q903.lt l970 rfl rfl
  have q979 := q904.lt l970 q903 rfl
  have q980 := l970 _ _ q905 rfl
  have q981 := (er2 l970 q903 rfl 1).trans q906
  have q982 := q908.lt l970 rfl rfl
  have q983 := q909.lt l970 q908 rfl
  have q984 := l970 _ _ q910 rfl
  have q985 := (er4 l970 q908 rfl 1).trans q911
  have q986 := q912.lt l970 rfl rfl
  have q987 := q913.lt l970 q912 rfl
  have q988 := l970 _ _ q914 rfl
  have q989 := (er4 l970 q912 rfl 1).trans q915
  have q990 := q916.lt l970 rfl rfl
  have q991 := q917.lt l970 q916 rfl
  have q992 := l970 _ _ q918 rfl
  have q993 := (er4 l970 q916 rfl 1).trans q919
  have q994 := q920.lt l970 rfl rfl
  have q995 := q921.lt l970 q920 rfl
  have q996 := l970 _ _ q922 rfl
  have q997 := (er2 l970 q920 rfl 1).trans q923
  have q998 := q924.lt l970 rfl rfl
  have q999 := q925.lt l970 q924 rfl
  have q1000 := l970 _ _ q926 rfl
  have q1001 := (er2 l970 q924 rfl 1).trans q927
  have q1002 := q928.lt l970 rfl rfl
  have q1003 := q929.lt l970 q928 rfl
  have q1004 := l970 _ _ q930 rfl
  have q1005 := (er2 l970 q928 rfl 1).trans q931
  have q1006 := q932.lt l970 rfl rfl
  have q1007 := q933.lt l970 q932 rfl
  have q1008 := l970 _ _ q934 rfl
  have q1009 := (er2 l970 q932 rfl 1).trans q935
  have q1010 := q936.lt l970 rfl rfl
  have q1011 := q937.lt l970 q936 rfl
  have q1012 := l970 _ _ q938 rfl
  have q1013 := (er2 l970 q936 rfl 1).trans q939
  have q1014 := q940.lt l970 rfl rfl
  have q1015 := q941.lt l970 q940 rfl
  have q1016 := l970 _ _ q942 rfl
  have q1017 := (er2 l970 q940 rfl 1).trans q943
  have q1018 := q944.lt l970 rfl rfl
  have q1019 := q945.lt l970 q944 rfl
  have q1020 := l970 _ _ q946 rfl
  have q1021 := (er2 l970 q944 rfl 1).trans q947
  have q1022 := S949.lt l970 rfl rfl
  have q1023 := c950.lt l970 S949 rfl
  have q1024 := l970 _ _ g953 rfl
  have q1025 := (er2 l970 S949 rfl 1).trans e952.symm
  have gz := l970 _ _ g948 rfl
  have S1026 : S_X6 G969 h0 := by
    have r1 : rf G969 h0 1 = a1 := rf_at gz rfl
    have r2 : rf G969 h0 2 = a18 := rf_at gz rfl
    have r4 : rf G969 h0 4 = a37 := rf_at gz rfl
    have r5 : rf G969 h0 5 = a58 := rf_at gz rfl
    have r6 : rf G969 h0 6 = a81 := rf_at gz rfl
    have r7 : rf G969 h0 7 = a127 := rf_at gz rfl
    have r9 : rf G969 h0 9 = a160 := rf_at gz rfl
    have r10 : rf G969 h0 10 = a216 := rf_at gz rfl
    have r11 : rf G969 h0 11 = a280 := rf_at gz rfl
    have e7 : rl G969 a127 = [a352, a408, a470, a538, a612, a692, a778, a870] := rl_at g971
    have m1027 : ∀ b ∈ [a352, a408, a470, a538, a612, a692, a778, a870], S_X2 G969 b := by
      intro b hb
      simp only [List.mem_cons, List.not_mem_nil, or_false] at hb
      rcases hb with rfl | rfl | rfl | rfl | rfl | rfl | rfl | rfl
      · exact q994
      · exact q998
      · exact q1002
      · exact q1006
      · exact q1010
      · exact q1014
      · exact q1018
      · exact q1022
    unfold S_X6
    simp only [r1, r2, r4, r5, r6, r7, r9, r10, r11, e7]
    exact ⟨gz, q974, q975, q976, q977, q978, ⟨g971, m1027⟩, q982, q986, q990⟩
  have T1028 : T_X6 G969 h0 := by
    have r1 : rf G969 h0 1 = a1 := rf_at gz rfl
    have r2 : rf G969 h0 2 = a18 := rf_at gz rfl
    have r4 : rf G969 h0 4 = a37 := rf_at gz rfl
    have r5 : rf G969 h0 5 = a58 := rf_at gz rfl
    have r6 : rf G969 h0 6 = a81 := rf_at gz rfl
    have r7 : rf G969 h0 7 = a127 := rf_at gz rfl
    have r9 : rf G969 h0 9 = a160 := rf_at gz rfl
    have r10 : rf G969 h0 10 = a216 := rf_at gz rfl
    have r11 : rf G969 h0 11 = a280 := rf_at gz rfl
    have el : rl G969 a127 = [a352, a408, a470, a538, a612, a692, a778, a870] := rl_at g971
    refine ⟨S1026, t951, q1024, ?_⟩
    unfold Ch6
    simp only [r1, r2, r4, r5, r6, r7, r9, r10, r11, el, q981, q985, q989, q993]
    refine ⟨by omega, by omega, by omega, by omega, by omega, q979, by omega, by omega, q983, by omega, q987, by omega, q991, by omega, ?_⟩
    intro b hb
    simp only [List.mem_cons, List.not_mem_nil, or_false] at hb
    rcases hb with rfl | rfl | rfl | rfl | rfl | rfl | rfl | rfl
    · exact ⟨by omega, q995, by rw [q997]; omega⟩
    · exact ⟨by omega, q999, by rw [q1001]; omega⟩
    · exact ⟨by omega, q1003, by rw [q1005]; omega⟩
    · exact ⟨by omega, q1007, by rw [q1009]; omega⟩
    · exact ⟨by omega, q1011, by rw [q1013]; omega⟩
    · exact ⟨by omega, q1015, by rw [q1017]; omega⟩
    · exact ⟨by omega, q1019, by rw [q1021]; omega⟩
    · exact ⟨by omega, q1023, by rw [q1025]; omega⟩
  exact J_vretN E973 hr dX6_init_121 ⟨o972, T1028⟩
abbrev rm_X3_init : Room := { frames := 3, cells := 40, slots := 437, locals := 54 }
set_option maxHeartbeats 4000000 in
set_option maxRecDepth 100000 in
theorem ct_X3_init (l : Launch) (D : va_G) (dA : Nat → ClassId) (h0 : Nat) : CtN l yX3_init cX3_init 1 rm_X3_init D dA h0 (.inl (3, [f0, fq 0 150, fi 0 150, fi I0 I1, fi 0 150, fi I0 I1, f0])) [] 40 437 (PoN (fun G => T_X3 G h0)) := by
  refine CtN.of RX3 [(0, .ref h0)] (Nat.le_of_ble_eq_true rfl) rfl (by decide) rfl rfl ?_
  intro p e s m args below meth c E hr hin
  have hA0 : ∀ q, s.heap.size ≤ q → An h0 s.heap.size q := fun q h => Or.inr h
  have hG0 : one h0 (.inl (3, [f0, fq 0 150, fi 0 150, fi I0 I1, fi 0 150, fi I0 I1, f0])) h0 = some (.inl (3, [f0, fq 0 150, fi 0 150, fi I0 I1, fi 0 150, fi I0 I1, f0])) := one_s
  have hO : Oz (one h0 (.inl (3, [f0, fq 0 150, fi 0 150, fi I0 I1, fi 0 150, fi I0 I1, f0]))) vz wz [] := Oz.oneN (zr.obj (by decide)) rfl
  refine J_aload_n E dX3_init_0 0 rfl ?_
  refine J_objInit E wd249 wd136 wd137 ⟨Nat.le_of_ble_eq_true rfl, Nat.le_of_ble_eq_true rfl⟩ dX3_init_1 ?_
  refine J_aload_n E dX3_init_4 0 rfl ?_
  refine J_sipush E (150) dX3_init_5 (by decide) ?_
  refine N_arr_int E hO 150 gkany z_kany wd171 (by decide) (by decide) (by decide) hA0 ⟨Nat.le_of_ble_eq_true rfl, Nat.le_of_ble_eq_true rfl⟩ dX3_init_8 (fun a1 G2 v3 w4 f5 s6 o7 n8 E9 => ?_)
  have t10 : h0 < a1 := n8 _ (by rw [hG0]; rfl)
  have g11 := f5 _ _ hG0
  refine N_finR E9 o7 in_X3 rfl g11 0 (by decide) wd252 tyX3 tyX3_ok nmX3 rfl hin rfl [fr a1, fq 0 150, fi 0 150, fi I0 I1, fi 0 150, fi I0 I1, f0] rfl (Nat.le_of_ble_eq_true rfl) (.array .int) (by decide +kernel) rfl rfl dX3_init_10 (fun G12 l13 g14 o15 E16 => ?_)
  have q17 := l13 _ _ s6 rfl
  refine J_aload_n E16 dX3_init_13 0 rfl ?_
  refine N_new (ci := 6) E16 o15 in_X6 tyX6 tyX6_ok wd250 wd139 wd116 rfl [fq 0 7, f0, f0, fq 0 7, f0, f0, f0, f0, fi 0 8, f0, f0, f0] (by decide) (nfs_X6 _ _) hA0 ⟨Nat.le_of_ble_eq_true rfl, Nat.le_of_ble_eq_true rfl⟩ dX3_init_14 (fun a18 G19 v20 w21 f22 s23 o24 z25 n26 k27 E28 => ?_)
  have t29 : a1 < a18 := n26 _ (by rw [q17]; rfl)
  have n30 := top_none n26
  refine J_dup E28 dX3_init_17 rfl ?_
  refine N_callIN E28 o24 cali_X6 wd251 [] [.ref a18, .ref h0] (fun G => T_X6 G a18) (fun h q => q.lf h) (ct_X6_init l D dA a18) (fun G q => by rw [q.1.1]; rfl) s23 z25 hA0 rfl rfl (Nat.le_of_ble_eq_true rfl) ⟨rfl, rfl⟩ ⟨Nat.le_of_ble_eq_true rfl, Nat.le_of_ble_eq_true rfl⟩ ⟨Nat.le_of_ble_eq_true rfl, Nat.le_of_ble_eq_true rfl⟩ dX3_init_18 (fun G31 v32 w33 b34 S35 o36 k37 E38 => ?_)
  have f39 := f22.but n30 b34
  have q40 := f39 _ _ q17
  have g41 := f39 _ _ g14
  obtain ⟨S42, t43, g44, c45⟩ := S35
  refine N_finR E38 o36 in_X3 rfl g41 6 (by decide) wd259 tyX3 tyX3_ok nmX3 rfl hin rfl [fr a1, fq 0 150, fi 0 150, fi I0 I1, fi 0 150, fi I0 I1, fr a18] rfl (Nat.le_of_ble_eq_true rfl) (.object RX6) (by decide +kernel) rfl rfl dX3_init_21 (fun G46 l47 g48 o49 E50 => ?_)
  have q51 := l47 _ _ q40 rfl
  have q52 := S42.lt l47 rfl rfl rfl rfl rfl rfl rfl
  have q53 := c45.lt l47 S42 rfl rfl rfl rfl
  have q54 := l47 _ _ g44 rfl
  have S55 : S_X3 G46 h0 := by
    have r0 : rf G46 h0 0 = a1 := rf_at g48 rfl
    have r6 : rf G46 h0 6 = a18 := rf_at g48 rfl
    unfold S_X3
    simp only [r0, r6]
    exact ⟨g48, q51, q52⟩
  have T56 : T_X3 G46 h0 := by
    have r0 : rf G46 h0 0 = a1 := rf_at g48 rfl
    have r6 : rf G46 h0 6 = a18 := rf_at g48 rfl
    refine ⟨S55, t43, q54, ?_⟩
    unfold Ch3
    rw [r0, r6]
    exact ⟨by omega, by omega, q53⟩
  exact J_vretN E50 hr dX3_init_24 ⟨o49, T56⟩
abbrev rm_X7_init : Room := { frames := 4, cells := 167, slots := 2242, locals := 74 }
set_option maxHeartbeats 4000000 in
set_option maxRecDepth 100000 in
theorem ct_X7_init (l : Launch) (D : va_G) (dA : Nat → ClassId) (h0 : Nat) : CtN l yX7_init cX7_init 2 rm_X7_init D dA h0 (.inl (7, [f0, f0, f0, fq I0 I1, f0, f0, f0, fl, fl, fi I0 I1, fi I0 I1, fi I0 I1])) [] 167 2242 (PoN (fun G => T_X7 G h0)) := by
  refine CtN.of RX7 [(0, .ref h0)] (Nat.le_of_ble_eq_true rfl) rfl (by decide) rfl rfl ?_
  intro p e s m args below meth c E hr hin
  have hA0 : ∀ q, s.heap.size ≤ q → An h0 s.heap.size q := fun q h => Or.inr h
  have hG0 : one h0 (.inl (7, [f0, f0, f0, fq I0 I1, f0, f0, f0, fl, fl, fi I0 I1, fi I0 I1, fi I0 I1])) h0 = some (.inl (7, [f0, f0, f0, fq I0 I1, f0, f0, f0, fl, fl, fi I0 I1, fi I0 I1, fi I0 I1])) := one_s
  have hO : Oz (one h0 (.inl (7, [f0, f0, f0, fq I0 I1, f0, f0, f0, fl, fl, fi I0 I1, fi I0 I1, fi I0 I1]))) vz wz [] := Oz.oneN (zr.obj (by decide)) rfl
  refine J_aload_n E dX7_init_0 0 rfl ?_
  refine J_objInit E wd135 wd136 wd137 ⟨Nat.le_of_ble_eq_true rfl, Nat.le_of_ble_eq_true rfl⟩ dX7_init_1 ?_
  refine J_aload_n E dX7_init_4 0 rfl ?_
  refine N_new (ci := 6) E hO in_X6 tyX6 tyX6_ok wd138 wd139 wd116 rfl [fq 0 7, f0, f0, fq 0 7, f0, f0, f0, f0, fi 0 8, f0, f0, f0] (by decide) (nfs_X6 _ _) hA0 ⟨Nat.le_of_ble_eq_true rfl, Nat.le_of_ble_eq_true rfl⟩ dX7_init_5 (fun a1 G2 v3 w4 f5 s6 o7 z8 n9 k10 E11 => ?_)
  have t12 : h0 < a1 := n9 _ (by rw [hG0]; rfl)
  have n13 := top_none n9
  refine J_dup E11 dX7_init_8 rfl ?_
  refine N_callIN E11 o7 cali_X6 wd140 [] [.ref a1, .ref h0] (fun G => T_X6 G a1) (fun h q => q.lf h) (ct_X6_init l D dA a1) (fun G q => by rw [q.1.1]; rfl) s6 z8 hA0 rfl rfl (Nat.le_of_ble_eq_true rfl) ⟨rfl, rfl⟩ ⟨Nat.le_of_ble_eq_true rfl, Nat.le_of_ble_eq_true rfl⟩ ⟨Nat.le_of_ble_eq_true rfl, Nat.le_of_ble_eq_true rfl⟩ dX7_init_9 (fun G14 v15 w16 b17 S18 o19 k20 E21 => ?_)
  have f22 := f5.but n13 b17
  have g23 := f22 _ _ hG0
  obtain ⟨S24, t25, g26, c27⟩ := S18
  refine N_finR E21 o19 in_X7 rfl g23 0 (by decide) wd308 tyX7 tyX7_ok nmX7 rfl hin rfl [fr a1, f0, f0, fq I0 I1, f0, f0, f0, fl, fl, fi I0 I1, fi I0 I1, fi I0 I1] rfl (Nat.le_of_ble_eq_true rfl) (.object RX6) (by decide +kernel) rfl rfl dX7_init_12 (fun G28 l29 g30 o31 E32 => ?_)
  have q33 := S24.lt l29 rfl rfl rfl rfl rfl rfl rfl
  have q34 := c27.lt l29 S24 rfl rfl rfl rfl
  have q35 := l29 _ _ g26 rfl
  refine J_aload_n E32 dX7_init_15 0 rfl ?_
  refine N_new (ci := 3) E32 o31 in_X3 tyX3 tyX3_ok wd244 wd245 wd119 rfl [f0, fq 0 150, fi 0 150, fi I0 I1, fi 0 150, fi I0 I1, f0] (by decide) (nfs_X3 _ _) hA0 ⟨Nat.le_of_ble_eq_true rfl, Nat.le_of_ble_eq_true rfl⟩ dX7_init_16 (fun a36 G37 v38 w39 f40 s41 o42 z43 n44 k45 E46 => ?_)
  have t47 : t25 < a36 := n44 _ (by rw [q35]; rfl)
  have n48 := top_none n44
  refine J_dup E46 dX7_init_19 rfl ?_
  refine N_callIN E46 o42 cali_X3 wd246 [] [.ref a36, .ref h0] (fun G => T_X3 G a36) (fun h q => q.lf h) (ct_X3_init l D dA a36) (fun G q => by rw [q.1.1]; rfl) s41 z43 hA0 rfl rfl (Nat.le_of_ble_eq_true rfl) ⟨rfl, rfl⟩ ⟨Nat.le_of_ble_eq_true rfl, Nat.le_of_ble_eq_true rfl⟩ ⟨Nat.le_of_ble_eq_true rfl, Nat.le_of_ble_eq_true rfl⟩ dX7_init_20 (fun G49 v50 w51 b52 S53 o54 k55 E56 => ?_)
  have f57 := f40.but n48 b52
  have q58 := q33.lf f57
  have q59 := q34.lf f57 q33
  have q60 := f57 _ _ q35
  have g61 := f57 _ _ g30
  obtain ⟨S62, t63, g64, c65⟩ := S53
  refine N_finR E56 o54 in_X7 rfl g61 1 (by decide) wd309 tyX7 tyX7_ok nmX7 rfl hin rfl [fr a1, fr a36, f0, fq I0 I1, f0, f0, f0, fl, fl, fi I0 I1, fi I0 I1, fi I0 I1] rfl (Nat.le_of_ble_eq_true rfl) (.object RX3) (by decide +kernel) rfl rfl dX7_init_23 (fun G66 l67 g68 o69 E70 => ?_)
  have q71 := q58.lt l67 rfl rfl rfl rfl rfl rfl rfl
  have q72 := q59.lt l67 q58 rfl rfl rfl rfl
  have q73 := l67 _ _ q60 rfl
  have q74 := S62.lt l67 rfl rfl rfl rfl rfl rfl rfl rfl rfl
  have q75 := c65.lt l67 S62 rfl rfl rfl rfl rfl
  have q76 := l67 _ _ g64 rfl
  refine J_aload_n E70 dX7_init_26 0 rfl ?_
  refine J_iconst E70 (2) dX7_init_27 (by decide) ?_
  refine N_anew3 E70 o69 2 wd138 wd276 (by decide) (by decide) (by decide) hA0 ⟨Nat.le_of_ble_eq_true rfl, Nat.le_of_ble_eq_true rfl⟩ dX7_init_28 (fun a77 G78 v79 w80 f81 s82 o83 n84 E85 => ?_)
  have t86 : t63 < a77 := n84 _ (by rw [q76]; rfl)
  have q87 := q71.lf f81
  have q88 := q72.lf f81 q71
  have q89 := f81 _ _ q73
  have q90 := q74.lf f81
  have q91 := q75.lf f81 q74
  have q92 := f81 _ _ q76
  have g93 := f81 _ _ g68
  refine N_finR E85 o83 in_X7 rfl g93 2 (by decide) wd310 tyX7 tyX7_ok nmX7 rfl hin rfl [fr a1, fr a36, fr a77, fq I0 I1, f0, f0, f0, fl, fl, fi I0 I1, fi I0 I1, fi I0 I1] rfl (Nat.le_of_ble_eq_true rfl) (.array (.object RX6)) (by decide +kernel) rfl rfl dX7_init_31 (fun G94 l95 g96 o97 E98 => ?_)
  have q99 := q87.lt l95 rfl rfl rfl rfl rfl rfl rfl
  have q100 := q88.lt l95 q87 rfl rfl rfl rfl
  have q101 := l95 _ _ q89 rfl
  have q102 := q90.lt l95 rfl rfl rfl rfl rfl rfl rfl rfl rfl
  have q103 := q91.lt l95 q90 rfl rfl rfl rfl rfl
  have q104 := l95 _ _ q92 rfl
  have q105 := l95 _ _ s82 rfl
  refine J_aload_n E98 dX7_init_34 0 rfl ?_
  refine N_new (ci := 1) E98 o97 in_X1 tyX1 tyX1_ok wd277 wd278 wd120 rfl [f0, f0, fi 0 7] (by decide) (nfs_X1 _ _) hA0 ⟨Nat.le_of_ble_eq_true rfl, Nat.le_of_ble_eq_true rfl⟩ dX7_init_35 (fun a106 G107 v108 w109 f110 s111 o112 z113 n114 k115 E116 => ?_)
  have t117 : a77 < a106 := n114 _ (by rw [q105]; rfl)
  have n118 := top_none n114
  refine J_dup E116 dX7_init_38 rfl ?_
  refine N_callIN E116 o112 cali_X1 wd279 [] [.ref a106, .ref h0] (fun G => S_X1 G a106) (fun h q => q.lf h) (ct_X1_init l D dA a106) (fun G q => by rw [q.1]; rfl) s111 z113 hA0 rfl rfl (Nat.le_of_ble_eq_true rfl) ⟨rfl, rfl⟩ ⟨Nat.le_of_ble_eq_true rfl, Nat.le_of_ble_eq_true rfl⟩ ⟨Nat.le_of_ble_eq_true rfl, Nat.le_of_ble_eq_true rfl⟩ dX7_init_39 (fun G119 v120 w121 b122 S123 o124 k125 E126 => ?_)
  have f127 := f110.but n118 b122
  have q128 := q99.lf f127
  have q129 := q100.lf f127 q99
  have q130 := f127 _ _ q101
  have q131 := q102.lf f127
  have q132 := q103.lf f127 q102
  have q133 := f127 _ _ q104
  have q134 := f127 _ _ q105
  have g135 := f127 _ _ g96
  refine N_finR E126 o124 in_X7 rfl g135 4 (by decide) wd312 tyX7 tyX7_ok nmX7 rfl hin rfl [fr a1, fr a36, fr a77, fq I0 I1, fr a106, f0, f0, fl, fl, fi I0 I1, fi I0 I1, fi I0 I1] rfl (Nat.le_of_ble_eq_true rfl) (.object RX1) (by decide +kernel) rfl rfl dX7_init_42 (fun G136 l137 g138 o139 E140 => ?_)
  have q141 := q128.lt l137 rfl rfl rfl rfl rfl rfl rfl
  have q142 := q129.lt l137 q128 rfl rfl rfl rfl
  have q143 := l137 _ _ q130 rfl
  have q144 := q131.lt l137 rfl rfl rfl rfl rfl rfl rfl rfl rfl
  have q145 := q132.lt l137 q131 rfl rfl rfl rfl rfl
  have q146 := l137 _ _ q133 rfl
  have q147 := l137 _ _ q134 rfl
  have q148 := S123.lt l137 rfl rfl rfl
  refine J_aload_n E140 dX7_init_45 0 rfl ?_
  refine N_new (ci := 0) E140 o139 in_X0 tyX0 tyX0_ok wd293 wd294 wd121 rfl [f0, fi 0 9] (by decide) (nfs_X0 _ _) hA0 ⟨Nat.le_of_ble_eq_true rfl, Nat.le_of_ble_eq_true rfl⟩ dX7_init_46 (fun a149 G150 v151 w152 f153 s154 o155 z156 n157 k158 E159 => ?_)
  have t160 : a106 < a149 := n157 _ (by rw [q148.1]; rfl)
  have n161 := top_none n157
  refine J_dup E159 dX7_init_49 rfl ?_
  refine N_callIN E159 o155 cali_X0 wd295 [] [.ref a149, .ref h0] (fun G => S_X0 G a149) (fun h q => q.lf h) (ct_X0_init l D dA a149) (fun G q => by rw [q.1]; rfl) s154 z156 hA0 rfl rfl (Nat.le_of_ble_eq_true rfl) ⟨rfl, rfl⟩ ⟨Nat.le_of_ble_eq_true rfl, Nat.le_of_ble_eq_true rfl⟩ ⟨Nat.le_of_ble_eq_true rfl, Nat.le_of_ble_eq_true rfl⟩ dX7_init_50 (fun G162 v163 w164 b165 S166 o167 k168 E169 => ?_)
  have f170 := f153.but n161 b165
  have q171 := q141.lf f170
  have q172 := q142.lf f170 q141
  have q173 := f170 _ _ q143
  have q174 := q144.lf f170
  have q175 := q145.lf f170 q144
  have q176 := f170 _ _ q146
  have q177 := f170 _ _ q147
  have q178 := q148.lf f170
  have g179 := f170 _ _ g138
  refine N_finR E169 o167 in_X7 rfl g179 5 (by decide) wd313 tyX7 tyX7_ok nmX7 rfl hin rfl [fr a1, fr a36, fr a77, fq I0 I1, fr a106, fr a149, f0, fl, fl, fi I0 I1, fi I0 I1, fi I0 I1] rfl (Nat.le_of_ble_eq_true rfl) (.object RX0) (by decide +kernel) rfl rfl dX7_init_53 (fun G180 l181 g182 o183 E184 => ?_)
  have q185 := q171.lt l181 rfl rfl rfl rfl rfl rfl rfl
  have q186 := q172.lt l181 q171 rfl rfl rfl rfl
  have q187 := l181 _ _ q173 rfl
  have q188 := q174.lt l181 rfl rfl rfl rfl rfl rfl rfl rfl rfl
  have q189 := q175.lt l181 q174 rfl rfl rfl rfl rfl
  have q190 := l181 _ _ q176 rfl
  have q191 := l181 _ _ q177 rfl
  have q192 := q178.lt l181 rfl rfl rfl
  have q193 := S166.lt l181 rfl rfl
  refine J_aload_n E184 dX7_init_56 0 rfl ?_
  refine N_new (ci := 2) E184 o183 in_X2 tyX2 tyX2_ok wd306 wd145 wd117 rfl [f0, f0, fi I0 I1, fi I0 I1] (by decide) (nfs_X2 _ _) hA0 ⟨Nat.le_of_ble_eq_true rfl, Nat.le_of_ble_eq_true rfl⟩ dX7_init_57 (fun a194 G195 v196 w197 f198 s199 o200 z201 n202 k203 E204 => ?_)
  have t205 : a149 < a194 := n202 _ (by rw [q193.1]; rfl)
  have n206 := top_none n202
  refine J_dup E204 dX7_init_60 rfl ?_
  refine N_callIN E204 o200 cali_X2 wd307 [] [.ref a194, .ref h0] (fun G => T_X2 G a194) (fun h q => q.lf h) (ct_X2_init l D dA a194) (fun G q => by rw [q.1.1]; rfl) s199 z201 hA0 rfl rfl (Nat.le_of_ble_eq_true rfl) ⟨rfl, rfl⟩ ⟨Nat.le_of_ble_eq_true rfl, Nat.le_of_ble_eq_true rfl⟩ ⟨Nat.le_of_ble_eq_true rfl, Nat.le_of_ble_eq_true rfl⟩ dX7_init_61 (fun G207 v208 w209 b210 S211 o212 k213 E214 => ?_)
  have f215 := f198.but n206 b210
  have q216 := q185.lf f215
  have q217 := q186.lf f215 q185
  have q218 := f215 _ _ q187
  have q219 := q188.lf f215
  have q220 := q189.lf f215 q188
  have q221 := f215 _ _ q190
  have q222 := f215 _ _ q191
  have q223 := q192.lf f215
  have q224 := q193.lf f215
  have g225 := f215 _ _ g182
  have S226 := S211.1
  have c227 := S211.2
  obtain ⟨t228, e229⟩ : ∃ t, t = rf G207 a194 1 := ⟨_, rfl⟩
  have g230 : G207 t228 = some (.inr (0, 7, .inl gany)) := by rw [e229]; exact S_X2.f1 S226
  have t231 : a194 < t228 := by rw [e229]; exact Nat.lt_trans c227.1 c227.2
  refine N_finR E214 o212 in_X7 rfl g225 6 (by decide) wd314 tyX7 tyX7_ok nmX7 rfl hin rfl [fr a1, fr a36, fr a77, fq I0 I1, fr a106, fr a149, fr a194, fl, fl, fi I0 I1, fi I0 I1, fi I0 I1] rfl (Nat.le_of_ble_eq_true rfl) (.object RX2) (by decide +kernel) rfl rfl dX7_init_64 (fun G232 l233 g234 o235 E236 => ?_)
  have q237 := q216.lt l233 rfl rfl rfl rfl rfl rfl rfl
  have q238 := q217.lt l233 q216 rfl rfl rfl rfl
  have q239 := l233 _ _ q218 rfl
  have q240 := q219.lt l233 rfl rfl rfl rfl rfl rfl rfl rfl rfl
  have q241 := q220.lt l233 q219 rfl rfl rfl rfl rfl
  have q242 := l233 _ _ q221 rfl
  have q243 := l233 _ _ q222 rfl
  have q244 := q223.lt l233 rfl rfl rfl
  have q245 := q224.lt l233 rfl rfl
  have q246 := S226.lt l233 rfl rfl
  have q247 := c227.lt l233 S226 rfl
  have q248 := l233 _ _ g230 rfl
  have q249 := (er2 l233 S226 rfl 1).trans e229.symm
  refine J_aload_n E236 dX7_init_67 0 rfl ?_
  refine J_lconst E236 1 dX7_init_68 (by decide) ?_
  refine J_pL E236 in_X7 rfl g234 8 (by decide) wd316 tyX7 tyX7_ok nmX7 rfl rfl .long (by decide +kernel) rfl rfl dX7_init_69 (fun w250 e251 => ?_)
  have o252 : Oz G232 v208 w250 [a77] := by rw [e251]; exact o235.stw
  refine J_iconst E236 (0) dX7_init_72 (by decide) ?_
  refine J_istore_n E236 [(1, .int 0), (0, .ref h0)] dX7_init_73 rfl (by decide) rfl ?_
  refine J_iload_n E236 dX7_init_74 0 rfl ?_
  refine J_iconst E236 (2) dX7_init_75 (by decide) ?_
  refine J_icmp_ge E236 98 dX7_init_76 (by decide) (fun c => absurd c (by decide)) (fun _ => ?_)
  refine J_aload_n E236 dX7_init_79 1 rfl ?_
  refine J_getR E236 in_X7 rfl g234 2 (by decide) wd310 rfl dX7_init_80 ?_
  refine J_iload_n E236 dX7_init_83 0 rfl ?_
  refine N_new (ci := 6) E236 o252 in_X6 tyX6 tyX6_ok wd138 wd139 wd116 rfl [fq 0 7, f0, f0, fq 0 7, f0, f0, f0, f0, fi 0 8, f0, f0, f0] (by decide) (nfs_X6 _ _) hA0 ⟨Nat.le_of_ble_eq_true rfl, Nat.le_of_ble_eq_true rfl⟩ dX7_init_84 (fun a253 G254 v255 w256 f257 s258 o259 z260 n261 k262 E263 => ?_)
  have t264 : t228 < a253 := n261 _ (by rw [q248]; rfl)
  have n265 := top_none n261
  refine J_dup E263 dX7_init_87 rfl ?_
  refine N_callIN E263 o259 cali_X6 wd140 [] [.ref a253, .int 0, .ref a77] (fun G => T_X6 G a253) (fun h q => q.lf h) (ct_X6_init l D dA a253) (fun G q => by rw [q.1.1]; rfl) s258 z260 hA0 rfl rfl (Nat.le_of_ble_eq_true rfl) ⟨rfl, rfl⟩ ⟨Nat.le_of_ble_eq_true rfl, Nat.le_of_ble_eq_true rfl⟩ ⟨Nat.le_of_ble_eq_true rfl, Nat.le_of_ble_eq_true rfl⟩ dX7_init_88 (fun G266 v267 w268 b269 S270 o271 k272 E273 => ?_)
  have f274 := f257.but n265 b269
  have q275 := q237.lf f274
  have q276 := q238.lf f274 q237
  have q277 := f274 _ _ q239
  have q278 := q240.lf f274
  have q279 := q241.lf f274 q240
  have q280 := f274 _ _ q242
  have q281 := f274 _ _ q243
  have q282 := q244.lf f274
  have q283 := q245.lf f274
  have q284 := q246.lf f274
  have q285 := q247.lf f274 q246
  have q286 := f274 _ _ q248
  have q287 := (er2 (Lf.lt (ci := 99) f274) q246 rfl 1).trans q249
  have g288 := f274 _ _ g234
  obtain ⟨S289, t290, g291, c292⟩ := S270
  refine J_aast3 E273 q281 S289.1 (Bd.in (Bd.lit 0 0 (by decide)) (by decide)) dX7_init_91 ?_
  rw [show Int32.toNatClampNeg (0 : Int32) = 0 from by decide]
  generalize e294 : stu w268 a77 0 (some a253) = w293
  have o295 : Oz G266 v267 w293 [a77] := by rw [← e294]; exact o271.stu List.mem_cons_self
  have u296 : w293.2 a77 0 = some a253 := by rw [← e294]; exact stu_s
  refine J_iinc E273 0 1 (fun z => [(1, .int z), (0, .ref h0)]) dX7_init_92 rfl (by decide) (by decide) (fun _ => rfl) (fun z297 e298 => ?_)
  have e298b : z297 = 1 := by rw [e298]; decide
  subst e298b
  refine J_goto E273 74 dX7_init_95 (by decide) ?_
  refine J_iload_n E273 dX7_init_74 0 rfl ?_
  refine J_iconst E273 (2) dX7_init_75 (by decide) ?_
  refine J_icmp_ge E273 98 dX7_init_76 (by decide) (fun c => absurd c (by decide)) (fun _ => ?_)
  refine J_aload_n E273 dX7_init_79 1 rfl ?_
  refine J_getR E273 in_X7 rfl g288 2 (by decide) wd310 rfl dX7_init_80 ?_
  refine J_iload_n E273 dX7_init_83 0 rfl ?_
  refine N_new (ci := 6) E273 o295 in_X6 tyX6 tyX6_ok wd138 wd139 wd116 rfl [fq 0 7, f0, f0, fq 0 7, f0, f0, f0, f0, fi 0 8, f0, f0, f0] (by decide) (nfs_X6 _ _) hA0 ⟨Nat.le_of_ble_eq_true rfl, Nat.le_of_ble_eq_true rfl⟩ dX7_init_84 (fun a299 G300 v301 w302 f303 s304 o305 z306 n307 k308 E309 => ?_)
  have t310 : t290 < a299 := n307 _ (by rw [g291]; rfl)
  have n311 := top_none n307
  refine J_dup E309 dX7_init_87 rfl ?_
  refine N_callIN E309 o305 cali_X6 wd140 [] [.ref a299, .int 1, .ref a77] (fun G => T_X6 G a299) (fun h q => q.lf h) (ct_X6_init l D dA a299) (fun G q => by rw [q.1.1]; rfl) s304 z306 hA0 rfl rfl (Nat.le_of_ble_eq_true rfl) ⟨rfl, rfl⟩ ⟨Nat.le_of_ble_eq_true rfl, Nat.le_of_ble_eq_true rfl⟩ ⟨Nat.le_of_ble_eq_true rfl, Nat.le_of_ble_eq_true rfl⟩ dX7_init_88 (fun G312 v313 w314 b315 S316 o317 k318 E319 => ?_)
  have f320 := f303.but n311 b315
  have u321 := (k318 a77 0 (fun q => by rw [q, n311] at q281; cases q281) (by rw [f303 _ _ q281]; rfl)).trans ((k308 a77 0 (by rw [q281]; rfl)).trans u296)
  have q322 := q275.lf f320
  have q323 := q276.lf f320 q275
  have q324 := f320 _ _ q277
  have q325 := q278.lf f320
  have q326 := q279.lf f320 q278
  have q327 := f320 _ _ q280
  have q328 := f320 _ _ q281
  have q329 := q282.lf f320
  have q330 := q283.lf f320
  have q331 := q284.lf f320
  have q332 := q285.lf f320 q284
  have q333 := f320 _ _ q286
  have q334 := (er2 (Lf.lt (ci := 99) f320) q284 rfl 1).trans q287
  have q335 := S289.lf f320
  have q336 := c292.lf f320 S289
  have q337 := f320 _ _ g291
  have g338 := f320 _ _ g288
  obtain ⟨S339, t340, g341, c342⟩ := S316
  refine J_aast3 E319 q328 S339.1 (Bd.in (Bd.lit 1 1 (by decide)) (by decide)) dX7_init_91 ?_
  rw [show Int32.toNatClampNeg (1 : Int32) = 1 from by decide]
  generalize e344 : stu w314 a77 1 (some a299) = w343
  have o345 : Oz G312 v313 w343 [a77] := by rw [← e344]; exact o317.stu List.mem_cons_self
  have u347 : w343.2 a77 0 = some a253 := by rw [← e344]; exact (stu_k (by decide)).trans u321
  have u346 : w343.2 a77 1 = some a299 := by rw [← e344]; exact stu_s
  refine J_iinc E319 0 1 (fun z => [(1, .int z), (0, .ref h0)]) dX7_init_92 rfl (by decide) (by decide) (fun _ => rfl) (fun z348 e349 => ?_)
  have e349b : z348 = 2 := by rw [e349]; decide
  subst e349b
  refine J_goto E319 74 dX7_init_95 (by decide) ?_
  refine J_iload_n E319 dX7_init_74 0 rfl ?_
  refine J_iconst E319 (2) dX7_init_75 (by decide) ?_
  refine J_icmp_ge E319 98 dX7_init_76 (by decide) (fun _ => ?_) (fun c => absurd c (by decide))
  have h350 : ∀ j, j < 2 → ∃ b, b ∈ [a253, a299] ∧ w343.2 a77 j = some b ∧ (3 = 3 → ([a253, a299] : List Nat)[j]? = some b) := fun j hj => by
    match j, hj with
    | 0, _ => exact ⟨a253, by simp, u347, fun _ => rfl⟩
    | 1, _ => exact ⟨a299, by simp, u346, fun _ => rfl⟩
    | (n + 2), h => exact absurd h (by omega)
  refine J.full E319 o345 q328 h350 (fun G351 l352 g353 o354 E355 => ?_)
  have q356 := q322.lt l352 rfl rfl rfl rfl rfl rfl rfl
  have q357 := q323.lt l352 q322 rfl rfl rfl rfl
  have q358 := l352 _ _ q324 rfl
  have q359 := q325.lt l352 rfl rfl rfl rfl rfl rfl rfl rfl rfl
  have q360 := q326.lt l352 q325 rfl rfl rfl rfl rfl
  have q361 := l352 _ _ q327 rfl
  have q362 := q329.lt l352 rfl rfl rfl
  have q363 := q330.lt l352 rfl rfl
  have q364 := q331.lt l352 rfl rfl
  have q365 := q332.lt l352 q331 rfl
  have q366 := l352 _ _ q333 rfl
  have q367 := (er2 l352 q331 rfl 1).trans q334
  have q368 := q335.lt l352 rfl rfl rfl rfl rfl rfl rfl
  have q369 := q336.lt l352 q335 rfl rfl rfl rfl
  have q370 := l352 _ _ q337 rfl
  have q371 := S339.lt l352 rfl rfl rfl rfl rfl rfl rfl
  have q372 := c342.lt l352 S339 rfl rfl rfl rfl
  have q373 := l352 _ _ g341 rfl
  have gz := l352 _ _ g338 rfl
  have S374 : S_X7 G351 h0 := by
    have r0 : rf G351 h0 0 = a1 := rf_at gz rfl
    have r1 : rf G351 h0 1 = a36 := rf_at gz rfl
    have r2 : rf G351 h0 2 = a77 := rf_at gz rfl
    have r4 : rf G351 h0 4 = a106 := rf_at gz rfl
    have r5 : rf G351 h0 5 = a149 := rf_at gz rfl
    have r6 : rf G351 h0 6 = a194 := rf_at gz rfl
    have e2 : rl G351 a77 = [a253, a299] := rl_at g353
    have m375 : ∀ b ∈ [a253, a299], S_X6 G351 b := by
      intro b hb
      simp only [List.mem_cons, List.not_mem_nil, or_false] at hb
      rcases hb with rfl | rfl
      · exact q368
      · exact q371
    unfold S_X7
    simp only [r0, r1, r2, r4, r5, r6, e2]
    exact ⟨gz, q356, q359, ⟨g353, m375⟩, q362, q363, q364⟩
  have T376 : T_X7 G351 h0 := by
    have r0 : rf G351 h0 0 = a1 := rf_at gz rfl
    have r1 : rf G351 h0 1 = a36 := rf_at gz rfl
    have r2 : rf G351 h0 2 = a77 := rf_at gz rfl
    have r4 : rf G351 h0 4 = a106 := rf_at gz rfl
    have r5 : rf G351 h0 5 = a149 := rf_at gz rfl
    have r6 : rf G351 h0 6 = a194 := rf_at gz rfl
    have el : rl G351 a77 = [a253, a299] := rl_at g353
    refine ⟨S374, t340, q373, t25 + 1, t63 + 1, t290 + 1, a253, a299, ?_⟩
    rw [r0, r1, r2]
    exact ⟨by omega, q357, by omega, q360, el, by omega, q369, by omega, q372⟩
  exact J_vretN E355 hr dX7_init_98 ⟨o354, T376⟩
abbrev rm_X8_init : Room := { frames := 1, cells := 8, slots := 3210, locals := 22 }
set_option maxHeartbeats 4000000 in
set_option maxRecDepth 100000 in
theorem ct_X8_init (l : Launch) (D : va_G) (dA : Nat → ClassId) (h0 : Nat) : CtN l yX8_init cX8_init 1 rm_X8_init D dA h0 (.inl (8, [f0, f0, f0, f0, f0, fq 0 150, fi 0 150, fi 0 150, fi I0 I1, fi 0 999, fi 0 1, fi I0 I1, f0, f0, f0, fl, fl])) [] 8 3210 (PoN (fun G => T_X8 G h0)) := by
  refine CtN.of RX8 [(0, .ref h0)] (Nat.le_of_ble_eq_true rfl) rfl (by decide) rfl rfl ?_
  intro p e s m args below meth c E hr hin
  have hA0 : ∀ q, s.heap.size ≤ q → An h0 s.heap.size q := fun q h => Or.inr h
  have hG0 : one h0 (.inl (8, [f0, f0, f0, f0, f0, fq 0 150, fi 0 150, fi 0 150, fi I0 I1, fi 0 999, fi 0 1, fi I0 I1, f0, f0, f0, fl, fl])) h0 = some (.inl (8, [f0, f0, f0, f0, f0, fq 0 150, fi 0 150, fi 0 150, fi I0 I1, fi 0 999, fi 0 1, fi I0 I1, f0, f0, f0, fl, fl])) := one_s
  have hO : Oz (one h0 (.inl (8, [f0, f0, f0, f0, f0, fq 0 150, fi 0 150, fi 0 150, fi I0 I1, fi 0 999, fi 0 1, fi I0 I1, f0, f0, f0, fl, fl]))) vz wz [] := Oz.oneN (zr.obj (by decide)) rfl
  refine J_aload_n E dX8_init_0 0 rfl ?_
  refine J_objInit E wd930 wd136 wd137 ⟨Nat.le_of_ble_eq_true rfl, Nat.le_of_ble_eq_true rfl⟩ dX8_init_1 ?_
  refine J_aload_n E dX8_init_4 0 rfl ?_
  refine J_iconst E (3) dX8_init_5 (by decide) ?_
  refine N_arr_int E hO 3 gany z_any wd171 (by decide) (by decide) (by decide) hA0 ⟨Nat.le_of_ble_eq_true rfl, Nat.le_of_ble_eq_true rfl⟩ dX8_init_6 (fun a1 G2 v3 w4 f5 s6 o7 n8 E9 => ?_)
  have t10 : h0 < a1 := n8 _ (by rw [hG0]; rfl)
  have g11 := f5 _ _ hG0
  refine N_finR E9 o7 in_X8 rfl g11 0 (by decide) wd935 tyX8 tyX8_ok nmX8 rfl hin rfl [fr a1, f0, f0, f0, f0, fq 0 150, fi 0 150, fi 0 150, fi I0 I1, fi 0 999, fi 0 1, fi I0 I1, f0, f0, f0, fl, fl] rfl (Nat.le_of_ble_eq_true rfl) (.array .int) (by decide +kernel) rfl rfl dX8_init_8 (fun G12 l13 g14 o15 E16 => ?_)
  have q17 := l13 _ _ s6 rfl
  refine J_aload_n E16 dX8_init_11 0 rfl ?_
  refine J_sipush E16 (984) dX8_init_12 (by decide) ?_
  refine N_arr_int E16 o15 984 gall z_all wd171 (by decide) (by decide) (by decide) hA0 ⟨Nat.le_of_ble_eq_true rfl, Nat.le_of_ble_eq_true rfl⟩ dX8_init_15 (fun a18 G19 v20 w21 f22 s23 o24 n25 E26 => ?_)
  have t27 : a1 < a18 := n25 _ (by rw [q17]; rfl)
  have q28 := f22 _ _ q17
  have g29 := f22 _ _ g14
  refine N_finR E26 o24 in_X8 rfl g29 1 (by decide) wd936 tyX8 tyX8_ok nmX8 rfl hin rfl [fr a1, fr a18, f0, f0, f0, fq 0 150, fi 0 150, fi 0 150, fi I0 I1, fi 0 999, fi 0 1, fi I0 I1, f0, f0, f0, fl, fl] rfl (Nat.le_of_ble_eq_true rfl) (.array .int) (by decide +kernel) rfl rfl dX8_init_17 (fun G30 l31 g32 o33 E34 => ?_)
  have q35 := l31 _ _ q28 rfl
  have q36 := l31 _ _ s23 rfl
  refine J_aload_n E34 dX8_init_20 0 rfl ?_
  refine J_iconst E34 (2) dX8_init_21 (by decide) ?_
  refine N_arr_boolean E34 o33 2 gkept z_kept wd987 (by decide) (by decide) (by decide) hA0 ⟨Nat.le_of_ble_eq_true rfl, Nat.le_of_ble_eq_true rfl⟩ dX8_init_22 (fun a37 G38 v39 w40 f41 s42 o43 n44 E45 => ?_)
  have t46 : a18 < a37 := n44 _ (by rw [q36]; rfl)
  have q47 := f41 _ _ q35
  have q48 := f41 _ _ q36
  have g49 := f41 _ _ g32
  refine N_finR E45 o43 in_X8 rfl g49 2 (by decide) wd937 tyX8 tyX8_ok nmX8 rfl hin rfl [fr a1, fr a18, fr a37, f0, f0, fq 0 150, fi 0 150, fi 0 150, fi I0 I1, fi 0 999, fi 0 1, fi I0 I1, f0, f0, f0, fl, fl] rfl (Nat.le_of_ble_eq_true rfl) (.array .boolean) (by decide +kernel) rfl rfl dX8_init_24 (fun G50 l51 g52 o53 E54 => ?_)
  have q55 := l51 _ _ q47 rfl
  have q56 := l51 _ _ q48 rfl
  have q57 := l51 _ _ s42 rfl
  refine J_aload_n E54 dX8_init_27 0 rfl ?_
  refine J_bipush E54 (16) dX8_init_28 (by decide) ?_
  refine N_arr_int E54 o53 16 gst z_st wd171 (by decide) (by decide) (by decide) hA0 ⟨Nat.le_of_ble_eq_true rfl, Nat.le_of_ble_eq_true rfl⟩ dX8_init_30 (fun a58 G59 v60 w61 f62 s63 o64 n65 E66 => ?_)
  have t67 : a37 < a58 := n65 _ (by rw [q57]; rfl)
  have q68 := f62 _ _ q55
  have q69 := f62 _ _ q56
  have q70 := f62 _ _ q57
  have g71 := f62 _ _ g52
  refine N_finR E66 o64 in_X8 rfl g71 3 (by decide) wd938 tyX8 tyX8_ok nmX8 rfl hin rfl [fr a1, fr a18, fr a37, fr a58, f0, fq 0 150, fi 0 150, fi 0 150, fi I0 I1, fi 0 999, fi 0 1, fi I0 I1, f0, f0, f0, fl, fl] rfl (Nat.le_of_ble_eq_true rfl) (.array .int) (by decide +kernel) rfl rfl dX8_init_32 (fun G72 l73 g74 o75 E76 => ?_)
  have q77 := l73 _ _ q68 rfl
  have q78 := l73 _ _ q69 rfl
  have q79 := l73 _ _ q70 rfl
  have q80 := l73 _ _ s63 rfl
  refine J_aload_n E76 dX8_init_35 0 rfl ?_
  refine J_sipush E76 (150) dX8_init_36 (by decide) ?_
  refine N_arr_byte E76 o75 150 gkbyte z_kbyte wd579 (by decide) (by decide) (by decide) hA0 ⟨Nat.le_of_ble_eq_true rfl, Nat.le_of_ble_eq_true rfl⟩ dX8_init_39 (fun a81 G82 v83 w84 f85 s86 o87 n88 E89 => ?_)
  have t90 : a58 < a81 := n88 _ (by rw [q80]; rfl)
  have q91 := f85 _ _ q77
  have q92 := f85 _ _ q78
  have q93 := f85 _ _ q79
  have q94 := f85 _ _ q80
  have g95 := f85 _ _ g74
  refine N_finR E89 o87 in_X8 rfl g95 4 (by decide) wd939 tyX8 tyX8_ok nmX8 rfl hin rfl [fr a1, fr a18, fr a37, fr a58, fr a81, fq 0 150, fi 0 150, fi 0 150, fi I0 I1, fi 0 999, fi 0 1, fi I0 I1, f0, f0, f0, fl, fl] rfl (Nat.le_of_ble_eq_true rfl) (.array .byte) (by decide +kernel) rfl rfl dX8_init_41 (fun G96 l97 g98 o99 E100 => ?_)
  have q101 := l97 _ _ q91 rfl
  have q102 := l97 _ _ q92 rfl
  have q103 := l97 _ _ q93 rfl
  have q104 := l97 _ _ q94 rfl
  have q105 := l97 _ _ s86 rfl
  refine J_aload_n E100 dX8_init_44 0 rfl ?_
  refine J_sipush E100 (1024) dX8_init_45 (by decide) ?_
  refine N_arr_int E100 o99 1024 gany z_any wd171 (by decide) (by decide) (by decide) hA0 ⟨Nat.le_of_ble_eq_true rfl, Nat.le_of_ble_eq_true rfl⟩ dX8_init_48 (fun a106 G107 v108 w109 f110 s111 o112 n113 E114 => ?_)
  have t115 : a81 < a106 := n113 _ (by rw [q105]; rfl)
  have q116 := f110 _ _ q101
  have q117 := f110 _ _ q102
  have q118 := f110 _ _ q103
  have q119 := f110 _ _ q104
  have q120 := f110 _ _ q105
  have g121 := f110 _ _ g98
  refine N_finR E114 o112 in_X8 rfl g121 12 (by decide) wd947 tyX8 tyX8_ok nmX8 rfl hin rfl [fr a1, fr a18, fr a37, fr a58, fr a81, fq 0 150, fi 0 150, fi 0 150, fi I0 I1, fi 0 999, fi 0 1, fi I0 I1, fr a106, f0, f0, fl, fl] rfl (Nat.le_of_ble_eq_true rfl) (.array .int) (by decide +kernel) rfl rfl dX8_init_50 (fun G122 l123 g124 o125 E126 => ?_)
  have q127 := l123 _ _ q116 rfl
  have q128 := l123 _ _ q117 rfl
  have q129 := l123 _ _ q118 rfl
  have q130 := l123 _ _ q119 rfl
  have q131 := l123 _ _ q120 rfl
  have q132 := l123 _ _ s111 rfl
  refine J_aload_n E126 dX8_init_53 0 rfl ?_
  refine J_sipush E126 (1024) dX8_init_54 (by decide) ?_
  refine N_arr_int E126 o125 1024 gany z_any wd171 (by decide) (by decide) (by decide) hA0 ⟨Nat.le_of_ble_eq_true rfl, Nat.le_of_ble_eq_true rfl⟩ dX8_init_57 (fun a133 G134 v135 w136 f137 s138 o139 n140 E141 => ?_)
  have t142 : a106 < a133 := n140 _ (by rw [q132]; rfl)
  have q143 := f137 _ _ q127
  have q144 := f137 _ _ q128
  have q145 := f137 _ _ q129
  have q146 := f137 _ _ q130
  have q147 := f137 _ _ q131
  have q148 := f137 _ _ q132
  have g149 := f137 _ _ g124
  refine N_finR E141 o139 in_X8 rfl g149 13 (by decide) wd948 tyX8 tyX8_ok nmX8 rfl hin rfl [fr a1, fr a18, fr a37, fr a58, fr a81, fq 0 150, fi 0 150, fi 0 150, fi I0 I1, fi 0 999, fi 0 1, fi I0 I1, fr a106, fr a133, f0, fl, fl] rfl (Nat.le_of_ble_eq_true rfl) (.array .int) (by decide +kernel) rfl rfl dX8_init_59 (fun G150 l151 g152 o153 E154 => ?_)
  have q155 := l151 _ _ q143 rfl
  have q156 := l151 _ _ q144 rfl
  have q157 := l151 _ _ q145 rfl
  have q158 := l151 _ _ q146 rfl
  have q159 := l151 _ _ q147 rfl
  have q160 := l151 _ _ q148 rfl
  have q161 := l151 _ _ s138 rfl
  refine J_aload_n E154 dX8_init_62 0 rfl ?_
  refine J_bipush E154 (7) dX8_init_63 (by decide) ?_
  refine N_arr_int E154 o153 7 gany z_any wd171 (by decide) (by decide) (by decide) hA0 ⟨Nat.le_of_ble_eq_true rfl, Nat.le_of_ble_eq_true rfl⟩ dX8_init_65 (fun a162 G163 v164 w165 f166 s167 o168 n169 E170 => ?_)
  have t171 : a133 < a162 := n169 _ (by rw [q161]; rfl)
  have q172 := f166 _ _ q155
  have q173 := f166 _ _ q156
  have q174 := f166 _ _ q157
  have q175 := f166 _ _ q158
  have q176 := f166 _ _ q159
  have q177 := f166 _ _ q160
  have q178 := f166 _ _ q161
  have g179 := f166 _ _ g152
  refine N_finR E170 o168 in_X8 rfl g179 14 (by decide) wd949 tyX8 tyX8_ok nmX8 rfl hin rfl [fr a1, fr a18, fr a37, fr a58, fr a81, fq 0 150, fi 0 150, fi 0 150, fi I0 I1, fi 0 999, fi 0 1, fi I0 I1, fr a106, fr a133, fr a162, fl, fl] rfl (Nat.le_of_ble_eq_true rfl) (.array .int) (by decide +kernel) rfl rfl dX8_init_67 (fun G180 l181 g182 o183 E184 => ?_)
  have q185 := l181 _ _ q172 rfl
  have q186 := l181 _ _ q173 rfl
  have q187 := l181 _ _ q174 rfl
  have q188 := l181 _ _ q175 rfl
  have q189 := l181 _ _ q176 rfl
  have q190 := l181 _ _ q177 rfl
  have q191 := l181 _ _ q178 rfl
  have q192 := l181 _ _ s167 rfl
  refine J_aload_n E184 dX8_init_70 0 rfl ?_
  refine J_lconst E184 1 dX8_init_71 (by decide) ?_
  refine J_pL E184 in_X8 rfl g182 16 (by decide) wd951 tyX8 tyX8_ok nmX8 rfl rfl .long (by decide +kernel) rfl rfl dX8_init_72 (fun w193 e194 => ?_)
  have o195 : Oz G180 v164 w193 [] := by rw [e194]; exact o183.stw
  refine J_aload_n E184 dX8_init_75 0 rfl ?_
  refine J_iconst E184 (0) dX8_init_76 (by decide) ?_
  have S196 : S_X8 G180 h0 := by
    have r0 : rf G180 h0 0 = a1 := rf_at g182 rfl
    have r1 : rf G180 h0 1 = a18 := rf_at g182 rfl
    have r2 : rf G180 h0 2 = a37 := rf_at g182 rfl
    have r3 : rf G180 h0 3 = a58 := rf_at g182 rfl
    have r4 : rf G180 h0 4 = a81 := rf_at g182 rfl
    have r12 : rf G180 h0 12 = a106 := rf_at g182 rfl
    have r13 : rf G180 h0 13 = a133 := rf_at g182 rfl
    have r14 : rf G180 h0 14 = a162 := rf_at g182 rfl
    unfold S_X8
    simp only [r0, r1, r2, r3, r4, r12, r13, r14]
    exact ⟨g182, q185, q186, q187, q188, q189, q190, q191, q192⟩
  refine J_callVV E184 cal_X8_begin wd931 rfl g182 [.int 0] [] (ct_X8_begin_0 l D dA _ _ _ o195.ok h0 S196) rfl rfl (Nat.le_of_ble_eq_true rfl) ⟨rfl, rfl⟩ ⟨Nat.le_of_ble_eq_true rfl, Nat.le_of_ble_eq_true rfl⟩ dX8_init_77 (fun v197 w198 p199 => ?_)
  have o200 : Oz G180 v197 w198 [] := ⟨p199.1.1, (by rw [p199.2.2.1.2]; exact Kz.begin0 S196 o195.2.1), fun a t n L _ h => p199.1.2 a t n L h⟩
  have S201 : S_X8 G180 h0 := by
    have r0 : rf G180 h0 0 = a1 := rf_at g182 rfl
    have r1 : rf G180 h0 1 = a18 := rf_at g182 rfl
    have r2 : rf G180 h0 2 = a37 := rf_at g182 rfl
    have r3 : rf G180 h0 3 = a58 := rf_at g182 rfl
    have r4 : rf G180 h0 4 = a81 := rf_at g182 rfl
    have r12 : rf G180 h0 12 = a106 := rf_at g182 rfl
    have r13 : rf G180 h0 13 = a133 := rf_at g182 rfl
    have r14 : rf G180 h0 14 = a162 := rf_at g182 rfl
    unfold S_X8
    simp only [r0, r1, r2, r3, r4, r12, r13, r14]
    exact ⟨g182, q185, q186, q187, q188, q189, q190, q191, q192⟩
  have T202 : T_X8 G180 h0 := by
    have r0 : rf G180 h0 0 = a1 := rf_at g182 rfl
    have r1 : rf G180 h0 1 = a18 := rf_at g182 rfl
    have r2 : rf G180 h0 2 = a37 := rf_at g182 rfl
    have r3 : rf G180 h0 3 = a58 := rf_at g182 rfl
    have r4 : rf G180 h0 4 = a81 := rf_at g182 rfl
    have r12 : rf G180 h0 12 = a106 := rf_at g182 rfl
    have r13 : rf G180 h0 13 = a133 := rf_at g182 rfl
    have r14 : rf G180 h0 14 = a162 := rf_at g182 rfl
    refine ⟨S201, ?_⟩
    rw [r1, r2, r4]
    exact ⟨by omega, by omega, by omega⟩
  exact J_vretN E184 hr dX8_init_80 ⟨o200, T202⟩
