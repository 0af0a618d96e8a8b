theorem nfs_X0 (v : Mv) (w : Mw) : ∀ a j, j < 2 → defaultValue (tyX0 j) = fv (zv v a) (zw w a) a j ([f0, fi 0 9] : List Fk)[j]? := fun a j hj => by
  match j, hj with
  | 0, _ => rfl
  | 1, _ => show Value.int 0 = Value.int (if a = a then 0 else _); rw [if_pos rfl]
  | (n + 2), h => exact absurd h (by omega)
theorem nfs_X1 (v : Mv) (w : Mw) : ∀ a j, j < 3 → defaultValue (tyX1 j) = fv (zv v a) (zw w a) a j ([f0, f0, fi 0 7] : List Fk)[j]? := fun a j hj => by
  match j, hj with
  | 0, _ => rfl
  | 1, _ => rfl
  | 2, _ => show Value.int 0 = Value.int (if a = a then 0 else _); rw [if_pos rfl]
  | (n + 3), h => exact absurd h (by omega)
theorem nfs_X2 (v : Mv) (w : Mw) : ∀ a j, j < 4 → defaultValue (tyX2 j) = fv (zv v a) (zw w a) a j ([f0, f0, fi I0 I1, fi I0 I1] : List Fk)[j]? := fun a j hj => by
  match j, hj with
  | 0, _ => rfl
  | 1, _ => rfl
  | 2, _ => show Value.int 0 = Value.int (if a = a then 0 else _); rw [if_pos rfl]
  | 3, _ => show Value.int 0 = Value.int (if a = a then 0 else _); rw [if_pos rfl]
  | (n + 4), h => exact absurd h (by omega)
theorem nfs_X3 (v : Mv) (w : Mw) : ∀ a j, j < 7 → defaultValue (tyX3 j) = fv (zv v a) (zw w a) a j ([f0, fq 0 150, fi 0 150, fi I0 I1, fi 0 150, fi I0 I1, f0] : List Fk)[j]? := fun a j hj => by
  match j, hj with
  | 0, _ => rfl
  | 1, _ => show Value.int 0 = Value.int (if a = a then 0 else _); rw [if_pos rfl]
  | 2, _ => show Value.int 0 = Value.int (if a = a then 0 else _); rw [if_pos rfl]
  | 3, _ => show Value.int 0 = Value.int (if a = a then 0 else _); rw [if_pos rfl]
  | 4, _ => show Value.int 0 = Value.int (if a = a then 0 else _); rw [if_pos rfl]
  | 5, _ => show Value.int 0 = Value.int (if a = a then 0 else _); rw [if_pos rfl]
  | 6, _ => rfl
  | (n + 7), h => exact absurd h (by omega)
theorem nfs_X6 (v : Mv) (w : Mw) : ∀ a j, j < 12 → defaultValue (tyX6 j) = fv (zv v a) (zw w a) a j ([fi 0 7, f0, f0, fi 0 7, f0, f0, f0, f0, fi 0 8, f0, f0, f0] : List Fk)[j]? := fun a j hj => by
  match j, hj with
  | 0, _ => show Value.int 0 = Value.int (if a = a then 0 else _); rw [if_pos rfl]
  | 1, _ => rfl
  | 2, _ => rfl
  | 3, _ => show Value.int 0 = Value.int (if a = a then 0 else _); rw [if_pos rfl]
  | 4, _ => rfl
  | 5, _ => rfl
  | 6, _ => rfl
  | 7, _ => rfl
  | 8, _ => show Value.int 0 = Value.int (if a = a then 0 else _); rw [if_pos rfl]
  | 9, _ => rfl
  | 10, _ => rfl
  | 11, _ => rfl
  | (n + 12), h => exact absurd h (by omega)
theorem nfs_X7 (v : Mv) (w : Mw) : ∀ a j, j < 12 → defaultValue (tyX7 j) = fv (zv v a) (zw w a) a j ([f0, f0, f0, fq I0 I1, f0, f0, f0, fl, fl, fi I0 I1, fi I0 I1, fi I0 I1] : List Fk)[j]? := fun a j hj => by
  match j, hj with
  | 0, _ => rfl
  | 1, _ => rfl
  | 2, _ => rfl
  | 3, _ => show Value.int 0 = Value.int (if a = a then 0 else _); rw [if_pos rfl]
  | 4, _ => rfl
  | 5, _ => rfl
  | 6, _ => rfl
  | 7, _ => show Value.long 0 = Value.long (if a = a then 0 else _); rw [if_pos rfl]
  | 8, _ => show Value.long 0 = Value.long (if a = a then 0 else _); rw [if_pos rfl]
  | 9, _ => show Value.int 0 = Value.int (if a = a then 0 else _); rw [if_pos rfl]
  | 10, _ => show Value.int 0 = Value.int (if a = a then 0 else _); rw [if_pos rfl]
  | 11, _ => show Value.int 0 = Value.int (if a = a then 0 else _); rw [if_pos rfl]
  | (n + 12), h => exact absurd h (by omega)
theorem nfs_X8 (v : Mv) (w : Mw) : ∀ a j, j < 17 → defaultValue (tyX8 j) = fv (zv v a) (zw w a) a j ([f0, f0, f0, f0, f0, fq 0 150, fi 0 150, fi 0 150, fi I0 I1, fi 0 999, fi 0 1, fi I0 I1, f0, f0, f0, fl, fl] : List Fk)[j]? := fun a j hj => by
  match j, hj with
  | 0, _ => rfl
  | 1, _ => rfl
  | 2, _ => rfl
  | 3, _ => rfl
  | 4, _ => rfl
  | 5, _ => show Value.int 0 = Value.int (if a = a then 0 else _); rw [if_pos rfl]
  | 6, _ => show Value.int 0 = Value.int (if a = a then 0 else _); rw [if_pos rfl]
  | 7, _ => show Value.int 0 = Value.int (if a = a then 0 else _); rw [if_pos rfl]
  | 8, _ => show Value.int 0 = Value.int (if a = a then 0 else _); rw [if_pos rfl]
  | 9, _ => show Value.int 0 = Value.int (if a = a then 0 else _); rw [if_pos rfl]
  | 10, _ => show Value.int 0 = Value.int (if a = a then 0 else _); rw [if_pos rfl]
  | 11, _ => show Value.int 0 = Value.int (if a = a then 0 else _); rw [if_pos rfl]
  | 12, _ => rfl
  | 13, _ => rfl
  | 14, _ => rfl
  | 15, _ => show Value.long 0 = Value.long (if a = a then 0 else _); rw [if_pos rfl]
  | 16, _ => show Value.long 0 = Value.long (if a = a then 0 else _); rw [if_pos rfl]
  | (n + 17), h => exact absurd h (by omega)
theorem nfs_X4_5 (v : Mv) (w : Mw) : ∀ a j, j < 3 → defaultValue (tyX4 j) = fv (zv v a) (zw w a) a j ([fi 0 0, f0, fi 0 (5 : Nat)] : List Fk)[j]? := fun a j hj => by
  match j, hj with
  | 0, _ => show Value.int 0 = Value.int (if a = a then 0 else _); rw [if_pos rfl]
  | 1, _ => rfl
  | 2, _ => show Value.int 0 = Value.int (if a = a then 0 else _); rw [if_pos rfl]
  | (n + 3), h => exact absurd h (by omega)
theorem nfs_X4_6 (v : Mv) (w : Mw) : ∀ a j, j < 3 → defaultValue (tyX4 j) = fv (zv v a) (zw w a) a j ([fi 0 0, f0, fi 0 (6 : Nat)] : List Fk)[j]? := fun a j hj => by
  match j, hj with
  | 0, _ => show Value.int 0 = Value.int (if a = a then 0 else _); rw [if_pos rfl]
  | 1, _ => rfl
  | 2, _ => show Value.int 0 = Value.int (if a = a then 0 else _); rw [if_pos rfl]
  | (n + 3), h => exact absurd h (by omega)
theorem Oz.oneN {h0 : Nat} {sh : Sh} (hz : zr sh) (hs : isRA sh = false) : Oz (one h0 sh) vz wz [] := ⟨Oi.oneN hz, fun _ _ _ _ _ _ _ => rfl, fun a t n L _ ha j hj => Orr.oneN hs a t n L ha j hj⟩
theorem cali_X0 : CalI yX0_init cX0_init 1 0 := ⟨wd297, wd121, wd296, rfl, by decide +kernel, by decide +kernel, by decide +kernel⟩
theorem cali_X1 : CalI yX1_init cX1_init 1 0 := ⟨wd281, wd120, wd280, rfl, by decide +kernel, by decide +kernel, by decide +kernel⟩
theorem cali_X2 : CalI yX2_init cX2_init 2 0 := ⟨wd148, wd117, wd147, rfl, by decide +kernel, by decide +kernel, by decide +kernel⟩
theorem cali_X3 : CalI yX3_init cX3_init 1 0 := ⟨wd248, wd119, wd247, rfl, by decide +kernel, by decide +kernel, by decide +kernel⟩
theorem cali_X4 : CalI yX4_init cX4_init 2 1 := ⟨wd177, wd118, wd176, rfl, by decide +kernel, by decide +kernel, by decide +kernel⟩
theorem cali_X6 : CalI yX6_init cX6_init 2 0 := ⟨wd142, wd116, wd141, rfl, by decide +kernel, by decide +kernel, by decide +kernel⟩
theorem cali_X7 : CalI yX7_init cX7_init 2 0 := ⟨wd134, wd115, wd133, rfl, by decide +kernel, by decide +kernel, by decide +kernel⟩
theorem cali_X8 : CalI yX8_init cX8_init 1 0 := ⟨wd929, wd122, wd928, rfl, by decide +kernel, by decide +kernel, by decide +kernel⟩
abbrev rm_X0_init : Room := { frames := 1, cells := 1, slots := 9, locals := 12 }
set_option maxHeartbeats 4000000 in
set_option maxRecDepth 100000 in
theorem ct_X0_init (l : Launch) (D : va_G) (dA : Nat → ClassId) (h0 : Nat) : CtN l yX0_init cX0_init 1 rm_X0_init D dA h0 (.inl (0, [f0, fi 0 9])) [] 1 9 (PoN (fun G => S_X0 G h0)) := by
  refine CtN.of RX0 [(0, .ref h0)] (Nat.le_of_ble_eq_true rfl) rfl (by decide) rfl rfl ?_
  intro p e s m args below meth c E hr hin
  have hA0 : ∀ q, s.heap.size ≤ q → An h0 s.heap.size q := fun q h => Or.inr h
  have hG0 : one h0 (.inl (0, [f0, fi 0 9])) h0 = some (.inl (0, [f0, fi 0 9])) := one_s
  have hO : Oz (one h0 (.inl (0, [f0, fi 0 9]))) vz wz [] := Oz.oneN (zr.obj (by decide)) rfl
  refine J_aload_n E dX0_init_0 0 rfl ?_
  refine J_objInit E wd298 wd136 wd137 ⟨Nat.le_of_ble_eq_true rfl, Nat.le_of_ble_eq_true rfl⟩ dX0_init_1 ?_
  refine J_aload_n E dX0_init_4 0 rfl ?_
  refine J_bipush E (9) dX0_init_5 (by decide) ?_
  refine N_arr_int E hO 9 gany z_any wd171 (by decide) (by decide) (by decide) hA0 ⟨Nat.le_of_ble_eq_true rfl, Nat.le_of_ble_eq_true rfl⟩ dX0_init_7 (fun a1 G2 v3 w4 f5 s6 o7 E8 => ?_)
  have g9 := f5 _ _ hG0
  refine N_finR E8 o7 in_X0 rfl g9 0 (by decide) wd299 tyX0 tyX0_ok nmX0 rfl hin rfl [fr a1, fi 0 9] rfl (Nat.le_of_ble_eq_true rfl) (.array .int) (by decide +kernel) rfl rfl dX0_init_9 (fun G10 l11 g12 o13 E14 => ?_)
  have q15 := l11 _ _ s6 rfl
  have S16 : S_X0 G10 h0 := by
    have r0 : rf G10 h0 0 = a1 := rf_at g12 rfl
    unfold S_X0
    simp only [r0]
    exact ⟨g12, q15⟩
  exact J_vretN E14 hr dX0_init_12 ⟨o13, S16⟩
abbrev rm_X1_init : Room := { frames := 1, cells := 2, slots := 903, locals := 12 }
set_option maxHeartbeats 4000000 in
set_option maxRecDepth 100000 in
theorem ct_X1_init (l : Launch) (D : va_G) (dA : Nat → ClassId) (h0 : Nat) : CtN l yX1_init cX1_init 1 rm_X1_init D dA h0 (.inl (1, [f0, f0, fi 0 7])) [] 2 903 (PoN (fun G => S_X1 G h0)) := by
  refine CtN.of RX1 [(0, .ref h0)] (Nat.le_of_ble_eq_true rfl) rfl (by decide) rfl rfl ?_
  intro p e s m args below meth c E hr hin
  have hA0 : ∀ q, s.heap.size ≤ q → An h0 s.heap.size q := fun q h => Or.inr h
  have hG0 : one h0 (.inl (1, [f0, f0, fi 0 7])) h0 = some (.inl (1, [f0, f0, fi 0 7])) := one_s
  have hO : Oz (one h0 (.inl (1, [f0, f0, fi 0 7]))) vz wz [] := Oz.oneN (zr.obj (by decide)) rfl
  refine J_aload_n E dX1_init_0 0 rfl ?_
  refine J_objInit E wd282 wd136 wd137 ⟨Nat.le_of_ble_eq_true rfl, Nat.le_of_ble_eq_true rfl⟩ dX1_init_1 ?_
  refine J_aload_n E dX1_init_4 0 rfl ?_
  refine J_bipush E (7) dX1_init_5 (by decide) ?_
  refine N_arr_int E hO 7 gany z_any wd171 (by decide) (by decide) (by decide) hA0 ⟨Nat.le_of_ble_eq_true rfl, Nat.le_of_ble_eq_true rfl⟩ dX1_init_7 (fun a1 G2 v3 w4 f5 s6 o7 E8 => ?_)
  have g9 := f5 _ _ hG0
  refine N_finR E8 o7 in_X1 rfl g9 0 (by decide) wd283 tyX1 tyX1_ok nmX1 rfl hin rfl [fr a1, f0, fi 0 7] rfl (Nat.le_of_ble_eq_true rfl) (.array .int) (by decide +kernel) rfl rfl dX1_init_9 (fun G10 l11 g12 o13 E14 => ?_)
  have q15 := l11 _ _ s6 rfl
  refine J_aload_n E14 dX1_init_12 0 rfl ?_
  refine J_sipush E14 (896) dX1_init_13 (by decide) ?_
  refine N_arr_int E14 o13 896 gany z_any wd171 (by decide) (by decide) (by decide) hA0 ⟨Nat.le_of_ble_eq_true rfl, Nat.le_of_ble_eq_true rfl⟩ dX1_init_16 (fun a16 G17 v18 w19 f20 s21 o22 E23 => ?_)
  have q24 := f20 _ _ q15
  have g25 := f20 _ _ g12
  refine N_finR E23 o22 in_X1 rfl g25 1 (by decide) wd284 tyX1 tyX1_ok nmX1 rfl hin rfl [fr a1, fr a16, fi 0 7] rfl (Nat.le_of_ble_eq_true rfl) (.array .int) (by decide +kernel) rfl rfl dX1_init_18 (fun G26 l27 g28 o29 E30 => ?_)
  have q31 := l27 _ _ q24 rfl
  have q32 := l27 _ _ s21 rfl
  have S33 : S_X1 G26 h0 := by
    have r0 : rf G26 h0 0 = a1 := rf_at g28 rfl
    have r1 : rf G26 h0 1 = a16 := rf_at g28 rfl
    unfold S_X1
    simp only [r0, r1]
    exact ⟨g28, q31, q32⟩
  exact J_vretN E30 hr dX1_init_21 ⟨o29, S33⟩
abbrev rm_X2_init : Room := { frames := 1, cells := 2, slots := 14, locals := 12 }
set_option maxHeartbeats 4000000 in
set_option maxRecDepth 100000 in
theorem ct_X2_init (l : Launch) (D : va_G) (dA : Nat → ClassId) (h0 : Nat) : CtN l yX2_init cX2_init 2 rm_X2_init D dA h0 (.inl (2, [f0, f0, fi I0 I1, fi I0 I1])) [] 2 14 (PoN (fun G => S_X2 G h0)) := by
  refine CtN.of RX2 [(0, .ref h0)] (Nat.le_of_ble_eq_true rfl) rfl (by decide) rfl rfl ?_
  intro p e s m args below meth c E hr hin
  have hA0 : ∀ q, s.heap.size ≤ q → An h0 s.heap.size q := fun q h => Or.inr h
  have hG0 : one h0 (.inl (2, [f0, f0, fi I0 I1, fi I0 I1])) h0 = some (.inl (2, [f0, f0, fi I0 I1, fi I0 I1])) := one_s
  have hO : Oz (one h0 (.inl (2, [f0, f0, fi I0 I1, fi I0 I1]))) vz wz [] := Oz.oneN (zr.obj (by decide)) rfl
  refine J_aload_n E dX2_init_0 0 rfl ?_
  refine J_objInit E wd149 wd136 wd137 ⟨Nat.le_of_ble_eq_true rfl, Nat.le_of_ble_eq_true rfl⟩ dX2_init_1 ?_
  refine J_aload_n E dX2_init_4 0 rfl ?_
  refine J_bipush E (7) dX2_init_5 (by decide) ?_
  refine N_arr_int E hO 7 gany z_any wd171 (by decide) (by decide) (by decide) hA0 ⟨Nat.le_of_ble_eq_true rfl, Nat.le_of_ble_eq_true rfl⟩ dX2_init_7 (fun a1 G2 v3 w4 f5 s6 o7 E8 => ?_)
  have g9 := f5 _ _ hG0
  refine N_finR E8 o7 in_X2 rfl g9 0 (by decide) wd150 tyX2 tyX2_ok nmX2 rfl hin rfl [fr a1, f0, fi I0 I1, fi I0 I1] rfl (Nat.le_of_ble_eq_true rfl) (.array .int) (by decide +kernel) rfl rfl dX2_init_9 (fun G10 l11 g12 o13 E14 => ?_)
  have q15 := l11 _ _ s6 rfl
  refine J_aload_n E14 dX2_init_12 0 rfl ?_
  refine J_bipush E14 (7) dX2_init_13 (by decide) ?_
  refine N_arr_int E14 o13 7 gany z_any wd171 (by decide) (by decide) (by decide) hA0 ⟨Nat.le_of_ble_eq_true rfl, Nat.le_of_ble_eq_true rfl⟩ dX2_init_15 (fun a16 G17 v18 w19 f20 s21 o22 E23 => ?_)
  have q24 := f20 _ _ q15
  have g25 := f20 _ _ g12
  refine N_finR E23 o22 in_X2 rfl g25 1 (by decide) wd152 tyX2 tyX2_ok nmX2 rfl hin rfl [fr a1, fr a16, fi I0 I1, fi I0 I1] rfl (Nat.le_of_ble_eq_true rfl) (.array .int) (by decide +kernel) rfl rfl dX2_init_17 (fun G26 l27 g28 o29 E30 => ?_)
  have q31 := l27 _ _ q24 rfl
  have q32 := l27 _ _ s21 rfl
  refine J_iconst E30 (0) dX2_init_20 (by decide) ?_
  refine J_istore_n E30 [(1, .int 0), (0, .ref h0)] dX2_init_21 rfl (by decide) rfl ?_
  refine J_iload_n E30 dX2_init_22 0 rfl ?_
  refine J_bipush E30 (7) dX2_init_23 (by decide) ?_
  refine J_icmp_ge E30 41 dX2_init_25 (by decide) (fun c => absurd c (by decide)) (fun _ => ?_)
  refine J_aload_n E30 dX2_init_28 1 rfl ?_
  refine J_getR E30 in_X2 rfl g28 1 (by decide) wd152 rfl dX2_init_29 ?_
  refine J_iload_n E30 dX2_init_32 0 rfl ?_
  refine J_iconst E30 (-1) dX2_init_33 (by decide) ?_
  refine J_iast1 E30 q32 (Bd.in (Bd.lit 0 0 (by decide)) (by decide)) dX2_init_34 (fun v33 e34 => ?_)
  have o35 : Oz G26 v33 w19 [] := by rw [e34]; exact o29.any q32
  refine J_iinc E30 0 1 (fun z => [(1, .int z), (0, .ref h0)]) dX2_init_35 rfl (by decide) (by decide) (fun _ => rfl) (fun z36 e37 => ?_)
  have e37b : z36 = 1 := by rw [e37]; decide
  subst e37b
  refine J_goto E30 22 dX2_init_38 (by decide) ?_
  refine J_iload_n E30 dX2_init_22 0 rfl ?_
  refine J_bipush E30 (7) dX2_init_23 (by decide) ?_
  refine J_icmp_ge E30 41 dX2_init_25 (by decide) (fun c => absurd c (by decide)) (fun _ => ?_)
  refine J_aload_n E30 dX2_init_28 1 rfl ?_
  refine J_getR E30 in_X2 rfl g28 1 (by decide) wd152 rfl dX2_init_29 ?_
  refine J_iload_n E30 dX2_init_32 0 rfl ?_
  refine J_iconst E30 (-1) dX2_init_33 (by decide) ?_
  refine J_iast1 E30 q32 (Bd.in (Bd.lit 1 1 (by decide)) (by decide)) dX2_init_34 (fun v38 e39 => ?_)
  have o40 : Oz G26 v38 w19 [] := by rw [e39]; exact o35.any q32
  refine J_iinc E30 0 1 (fun z => [(1, .int z), (0, .ref h0)]) dX2_init_35 rfl (by decide) (by decide) (fun _ => rfl) (fun z41 e42 => ?_)
  have e42b : z41 = 2 := by rw [e42]; decide
  subst e42b
  refine J_goto E30 22 dX2_init_38 (by decide) ?_
  refine J_iload_n E30 dX2_init_22 0 rfl ?_
  refine J_bipush E30 (7) dX2_init_23 (by decide) ?_
  refine J_icmp_ge E30 41 dX2_init_25 (by decide) (fun c => absurd c (by decide)) (fun _ => ?_)
  refine J_aload_n E30 dX2_init_28 1 rfl ?_
  refine J_getR E30 in_X2 rfl g28 1 (by decide) wd152 rfl dX2_init_29 ?_
  refine J_iload_n E30 dX2_init_32 0 rfl ?_
  refine J_iconst E30 (-1) dX2_init_33 (by decide) ?_
  refine J_iast1 E30 q32 (Bd.in (Bd.lit 2 2 (by decide)) (by decide)) dX2_init_34 (fun v43 e44 => ?_)
  have o45 : Oz G26 v43 w19 [] := by rw [e44]; exact o40.any q32
  refine J_iinc E30 0 1 (fun z => [(1, .int z), (0, .ref h0)]) dX2_init_35 rfl (by decide) (by decide) (fun _ => rfl) (fun z46 e47 => ?_)
  have e47b : z46 = 3 := by rw [e47]; decide
  subst e47b
  refine J_goto E30 22 dX2_init_38 (by decide) ?_
  refine J_iload_n E30 dX2_init_22 0 rfl ?_
  refine J_bipush E30 (7) dX2_init_23 (by decide) ?_
  refine J_icmp_ge E30 41 dX2_init_25 (by decide) (fun c => absurd c (by decide)) (fun _ => ?_)
  refine J_aload_n E30 dX2_init_28 1 rfl ?_
  refine J_getR E30 in_X2 rfl g28 1 (by decide) wd152 rfl dX2_init_29 ?_
  refine J_iload_n E30 dX2_init_32 0 rfl ?_
  refine J_iconst E30 (-1) dX2_init_33 (by decide) ?_
  refine J_iast1 E30 q32 (Bd.in (Bd.lit 3 3 (by decide)) (by decide)) dX2_init_34 (fun v48 e49 => ?_)
  have o50 : Oz G26 v48 w19 [] := by rw [e49]; exact o45.any q32
  refine J_iinc E30 0 1 (fun z => [(1, .int z), (0, .ref h0)]) dX2_init_35 rfl (by decide) (by decide) (fun _ => rfl) (fun z51 e52 => ?_)
  have e52b : z51 = 4 := by rw [e52]; decide
  subst e52b
  refine J_goto E30 22 dX2_init_38 (by decide) ?_
  refine J_iload_n E30 dX2_init_22 0 rfl ?_
  refine J_bipush E30 (7) dX2_init_23 (by decide) ?_
  refine J_icmp_ge E30 41 dX2_init_25 (by decide) (fun c => absurd c (by decide)) (fun _ => ?_)
  refine J_aload_n E30 dX2_init_28 1 rfl ?_
  refine J_getR E30 in_X2 rfl g28 1 (by decide) wd152 rfl dX2_init_29 ?_
  refine J_iload_n E30 dX2_init_32 0 rfl ?_
  refine J_iconst E30 (-1) dX2_init_33 (by decide) ?_
  refine J_iast1 E30 q32 (Bd.in (Bd.lit 4 4 (by decide)) (by decide)) dX2_init_34 (fun v53 e54 => ?_)
  have o55 : Oz G26 v53 w19 [] := by rw [e54]; exact o50.any q32
  refine J_iinc E30 0 1 (fun z => [(1, .int z), (0, .ref h0)]) dX2_init_35 rfl (by decide) (by decide) (fun _ => rfl) (fun z56 e57 => ?_)
  have e57b : z56 = 5 := by rw [e57]; decide
  subst e57b
  refine J_goto E30 22 dX2_init_38 (by decide) ?_
  refine J_iload_n E30 dX2_init_22 0 rfl ?_
  refine J_bipush E30 (7) dX2_init_23 (by decide) ?_
  refine J_icmp_ge E30 41 dX2_init_25 (by decide) (fun c => absurd c (by decide)) (fun _ => ?_)
  refine J_aload_n E30 dX2_init_28 1 rfl ?_
  refine J_getR E30 in_X2 rfl g28 1 (by decide) wd152 rfl dX2_init_29 ?_
  refine J_iload_n E30 dX2_init_32 0 rfl ?_
  refine J_iconst E30 (-1) dX2_init_33 (by decide) ?_
  refine J_iast1 E30 q32 (Bd.in (Bd.lit 5 5 (by decide)) (by decide)) dX2_init_34 (fun v58 e59 => ?_)
  have o60 : Oz G26 v58 w19 [] := by rw [e59]; exact o55.any q32
  refine J_iinc E30 0 1 (fun z => [(1, .int z), (0, .ref h0)]) dX2_init_35 rfl (by decide) (by decide) (fun _ => rfl) (fun z61 e62 => ?_)
  have e62b : z61 = 6 := by rw [e62]; decide
  subst e62b
  refine J_goto E30 22 dX2_init_38 (by decide) ?_
  refine J_iload_n E30 dX2_init_22 0 rfl ?_
  refine J_bipush E30 (7) dX2_init_23 (by decide) ?_
  refine J_icmp_ge E30 41 dX2_init_25 (by decide) (fun c => absurd c (by decide)) (fun _ => ?_)
  refine J_aload_n E30 dX2_init_28 1 rfl ?_
  refine J_getR E30 in_X2 rfl g28 1 (by decide) wd152 rfl dX2_init_29 ?_
  refine J_iload_n E30 dX2_init_32 0 rfl ?_
  refine J_iconst E30 (-1) dX2_init_33 (by decide) ?_
  refine J_iast1 E30 q32 (Bd.in (Bd.lit 6 6 (by decide)) (by decide)) dX2_init_34 (fun v63 e64 => ?_)
  have o65 : Oz G26 v63 w19 [] := by rw [e64]; exact o60.any q32
  refine J_iinc E30 0 1 (fun z => [(1, .int z), (0, .ref h0)]) dX2_init_35 rfl (by decide) (by decide) (fun _ => rfl) (fun z66 e67 => ?_)
  have e67b : z66 = 7 := by rw [e67]; decide
  subst e67b
  refine J_goto E30 22 dX2_init_38 (by decide) ?_
  refine J_iload_n E30 dX2_init_22 0 rfl ?_
  refine J_bipush E30 (7) dX2_init_23 (by decide) ?_
  refine J_icmp_ge E30 41 dX2_init_25 (by decide) (fun _ => ?_) (fun c => absurd c (by decide))
  have S68 : S_X2 G26 h0 := by
    have r0 : rf G26 h0 0 = a1 := rf_at g28 rfl
    have r1 : rf G26 h0 1 = a16 := rf_at g28 rfl
    unfold S_X2
    simp only [r0, r1]
    exact ⟨g28, q31, q32⟩
  exact J_vretN E30 hr dX2_init_41 ⟨o65, S68⟩
abbrev rm_X4_5_init : Room := { frames := 1, cells := 1, slots := 20, locals := 12 }
set_option maxHeartbeats 4000000 in
set_option maxRecDepth 100000 in
theorem ct_X4_5_init (l : Launch) (D : va_G) (dA : Nat → ClassId) (h0 : Nat) : CtN l yX4_init cX4_init 2 rm_X4_5_init D dA h0 (.inl (4, [fi 0 0, f0, fi 0 (5 : Nat)])) [.int 5] 1 20 (PoN (fun G => S_X4 G h0 5)) := by
  refine CtN.of RX4 [(0, .ref h0), (1, .int 5)] (Nat.le_of_ble_eq_true rfl) rfl (by decide) rfl rfl ?_
  intro p e s m args below meth c E hr hin
  have hA0 : ∀ q, s.heap.size ≤ q → An h0 s.heap.size q := fun q h => Or.inr h
  have hG0 : one h0 (.inl (4, [fi 0 0, f0, fi 0 (5 : Nat)])) h0 = some (.inl (4, [fi 0 0, f0, fi 0 (5 : Nat)])) := one_s
  have hO : Oz (one h0 (.inl (4, [fi 0 0, f0, fi 0 (5 : Nat)]))) vz wz [] := Oz.oneN (zr.obj (by decide)) rfl
  refine J_aload_n E dX4_init_0 0 rfl ?_
  refine J_objInit E wd178 wd136 wd137 ⟨Nat.le_of_ble_eq_true rfl, Nat.le_of_ble_eq_true rfl⟩ dX4_init_1 ?_
  refine J_aload_n E dX4_init_4 0 rfl ?_
  refine J_iload_n E dX4_init_5 1 rfl ?_
  refine N_finI E hO in_X4 rfl hG0 0 (by decide) wd179 tyX4 tyX4_ok nmX4 rfl hin rfl ((5 : Nat), (5 : Nat), false) ⟨by unfold Bd; decide, rfl⟩ [fi (5 : Nat) (5 : Nat), f0, fi 0 (5 : Nat)] rfl (Nat.le_of_ble_eq_true rfl) .int (by decide +kernel) rfl rfl dX4_init_6 (fun G1 v2 l3 g4 o5 E6 => ?_)
  refine J_aload_n E6 dX4_init_9 0 rfl ?_
  refine J_iconst E6 (4) dX4_init_10 (by decide) ?_
  refine J_iload_n E6 dX4_init_11 1 rfl ?_
  refine J_imul E6 dX4_init_12 (fun z7 e8 => ?_)
  have e8b : z7 = 20 := by rw [e8]; decide
  subst e8b
  refine N_arr_int E6 o5 20 gany z_any wd171 (by decide) (by decide) (by decide) hA0 ⟨Nat.le_of_ble_eq_true rfl, Nat.le_of_ble_eq_true rfl⟩ dX4_init_13 (fun a9 G10 v11 w12 f13 s14 o15 E16 => ?_)
  have g17 := f13 _ _ g4
  refine N_finR E16 o15 in_X4 rfl g17 1 (by decide) wd180 tyX4 tyX4_ok nmX4 rfl hin rfl [fi (5 : Nat) (5 : Nat), fr a9, fi 0 (5 : Nat)] rfl (Nat.le_of_ble_eq_true rfl) (.array .int) (by decide +kernel) rfl rfl dX4_init_15 (fun G18 l19 g20 o21 E22 => ?_)
  have q23 := l19 _ _ s14 rfl
  have S24 : S_X4 G18 h0 5 := by
    have r1 : rf G18 h0 1 = a9 := rf_at g20 rfl
    unfold S_X4
    simp only [r1]
    exact ⟨g20, q23⟩
  exact J_vretN E22 hr dX4_init_18 ⟨o21, S24⟩
abbrev rm_X4_6_init : Room := { frames := 1, cells := 1, slots := 24, locals := 12 }
set_option maxHeartbeats 4000000 in
set_option maxRecDepth 100000 in
theorem ct_X4_6_init (l : Launch) (D : va_G) (dA : Nat → ClassId) (h0 : Nat) : CtN l yX4_init cX4_init 2 rm_X4_6_init D dA h0 (.inl (4, [fi 0 0, f0, fi 0 (6 : Nat)])) [.int 6] 1 24 (PoN (fun G => S_X4 G h0 6)) := by
  refine CtN.of RX4 [(0, .ref h0), (1, .int 6)] (Nat.le_of_ble_eq_true rfl) rfl (by decide) rfl rfl ?_
  intro p e s m args below meth c E hr hin
  have hA0 : ∀ q, s.heap.size ≤ q → An h0 s.heap.size q := fun q h => Or.inr h
  have hG0 : one h0 (.inl (4, [fi 0 0, f0, fi 0 (6 : Nat)])) h0 = some (.inl (4, [fi 0 0, f0, fi 0 (6 : Nat)])) := one_s
  have hO : Oz (one h0 (.inl (4, [fi 0 0, f0, fi 0 (6 : Nat)]))) vz wz [] := Oz.oneN (zr.obj (by decide)) rfl
  refine J_aload_n E dX4_init_0 0 rfl ?_
  refine J_objInit E wd178 wd136 wd137 ⟨Nat.le_of_ble_eq_true rfl, Nat.le_of_ble_eq_true rfl⟩ dX4_init_1 ?_
  refine J_aload_n E dX4_init_4 0 rfl ?_
  refine J_iload_n E dX4_init_5 1 rfl ?_
  refine N_finI E hO in_X4 rfl hG0 0 (by decide) wd179 tyX4 tyX4_ok nmX4 rfl hin rfl ((6 : Nat), (6 : Nat), false) ⟨by unfold Bd; decide, rfl⟩ [fi (6 : Nat) (6 : Nat), f0, fi 0 (6 : Nat)] rfl (Nat.le_of_ble_eq_true rfl) .int (by decide +kernel) rfl rfl dX4_init_6 (fun G1 v2 l3 g4 o5 E6 => ?_)
  refine J_aload_n E6 dX4_init_9 0 rfl ?_
  refine J_iconst E6 (4) dX4_init_10 (by decide) ?_
  refine J_iload_n E6 dX4_init_11 1 rfl ?_
  refine J_imul E6 dX4_init_12 (fun z7 e8 => ?_)
  have e8b : z7 = 24 := by rw [e8]; decide
  subst e8b
  refine N_arr_int E6 o5 24 gany z_any wd171 (by decide) (by decide) (by decide) hA0 ⟨Nat.le_of_ble_eq_true rfl, Nat.le_of_ble_eq_true rfl⟩ dX4_init_13 (fun a9 G10 v11 w12 f13 s14 o15 E16 => ?_)
  have g17 := f13 _ _ g4
  refine N_finR E16 o15 in_X4 rfl g17 1 (by decide) wd180 tyX4 tyX4_ok nmX4 rfl hin rfl [fi (6 : Nat) (6 : Nat), fr a9, fi 0 (6 : Nat)] rfl (Nat.le_of_ble_eq_true rfl) (.array .int) (by decide +kernel) rfl rfl dX4_init_15 (fun G18 l19 g20 o21 E22 => ?_)
  have q23 := l19 _ _ s14 rfl
  have S24 : S_X4 G18 h0 6 := by
    have r1 : rf G18 h0 1 = a9 := rf_at g20 rfl
    unfold S_X4
    simp only [r1]
    exact ⟨g20, q23⟩
  exact J_vretN E22 hr dX4_init_18 ⟨o21, S24⟩
abbrev rm_X6_init : Room := { frames := 2, cells := 38, slots := 275, locals := 33 }
set_option maxHeartbeats 4000000 in
set_option maxRecDepth 100000 in
theorem ct_X6_init (l : Launch) (D : va_G) (dA : Nat → ClassId) (h0 : Nat) : CtN l yX6_init cX6_init 2 rm_X6_init D dA h0 (.inl (6, [fi 0 7, f0, f0, fi 0 7, f0, f0, f0, f0, fi 0 8, f0, f0, f0])) [] 38 275 (PoN (fun G => S_X6 G h0)) := by
  refine CtN.of RX6 [(0, .ref h0)] (Nat.le_of_ble_eq_true rfl) rfl (by decide) rfl rfl ?_
  intro p e s m args below meth c E hr hin
  have hA0 : ∀ q, s.heap.size ≤ q → An h0 s.heap.size q := fun q h => Or.inr h
  have hG0 : one h0 (.inl (6, [fi 0 7, f0, f0, fi 0 7, f0, f0, f0, f0, fi 0 8, f0, f0, f0])) h0 = some (.inl (6, [fi 0 7, f0, f0, fi 0 7, f0, f0, f0, f0, fi 0 8, f0, f0, f0])) := one_s
  have hO : Oz (one h0 (.inl (6, [fi 0 7, f0, f0, fi 0 7, f0, f0, f0, f0, fi 0 8, f0, f0, f0]))) vz wz [] := Oz.oneN (zr.obj (by decide)) rfl
  refine J_aload_n E dX6_init_0 0 rfl ?_
  refine J_objInit E wd143 wd136 wd137 ⟨Nat.le_of_ble_eq_true rfl, Nat.le_of_ble_eq_true rfl⟩ dX6_init_1 ?_
  refine J_aload_n E dX6_init_4 0 rfl ?_
  refine J_bipush E (7) dX6_init_5 (by decide) ?_
  refine N_arr_int E hO 7 gany z_any wd171 (by decide) (by decide) (by decide) hA0 ⟨Nat.le_of_ble_eq_true rfl, Nat.le_of_ble_eq_true rfl⟩ dX6_init_7 (fun a1 G2 v3 w4 f5 s6 o7 E8 => ?_)
  have g9 := f5 _ _ hG0
  refine N_finR E8 o7 in_X6 rfl g9 1 (by decide) wd195 tyX6 tyX6_ok nmX6 rfl hin rfl [fi 0 7, fr a1, f0, fi 0 7, f0, f0, f0, f0, fi 0 8, f0, f0, f0] rfl (Nat.le_of_ble_eq_true rfl) (.array .int) (by decide +kernel) rfl rfl dX6_init_9 (fun G10 l11 g12 o13 E14 => ?_)
  have q15 := l11 _ _ s6 rfl
  refine J_aload_n E14 dX6_init_12 0 rfl ?_
  refine J_bipush E14 (7) dX6_init_13 (by decide) ?_
  refine N_arr_int E14 o13 7 gany z_any wd171 (by decide) (by decide) (by decide) hA0 ⟨Nat.le_of_ble_eq_true rfl, Nat.le_of_ble_eq_true rfl⟩ dX6_init_15 (fun a16 G17 v18 w19 f20 s21 o22 E23 => ?_)
  have q24 := f20 _ _ q15
  have g25 := f20 _ _ g12
  refine N_finR E23 o22 in_X6 rfl g25 2 (by decide) wd197 tyX6 tyX6_ok nmX6 rfl hin rfl [fi 0 7, fr a1, fr a16, fi 0 7, f0, f0, f0, f0, fi 0 8, f0, f0, f0] rfl (Nat.le_of_ble_eq_true rfl) (.array .int) (by decide +kernel) rfl rfl dX6_init_17 (fun G26 l27 g28 o29 E30 => ?_)
  have q31 := l27 _ _ q24 rfl
  have q32 := l27 _ _ s21 rfl
  refine J_aload_n E30 dX6_init_20 0 rfl ?_
  refine J_bipush E30 (7) dX6_init_21 (by decide) ?_
  refine N_arr_int E30 o29 7 gany z_any wd171 (by decide) (by decide) (by decide) hA0 ⟨Nat.le_of_ble_eq_true rfl, Nat.le_of_ble_eq_true rfl⟩ dX6_init_23 (fun a33 G34 v35 w36 f37 s38 o39 E40 => ?_)
  have q41 := f37 _ _ q31
  have q42 := f37 _ _ q32
  have g43 := f37 _ _ g28
  refine N_finR E40 o39 in_X6 rfl g43 4 (by decide) wd203 tyX6 tyX6_ok nmX6 rfl hin rfl [fi 0 7, fr a1, fr a16, fi 0 7, fr a33, f0, f0, f0, fi 0 8, f0, f0, f0] rfl (Nat.le_of_ble_eq_true rfl) (.array .int) (by decide +kernel) rfl rfl dX6_init_25 (fun G44 l45 g46 o47 E48 => ?_)
  have q49 := l45 _ _ q41 rfl
  have q50 := l45 _ _ q42 rfl
  have q51 := l45 _ _ s38 rfl
  refine J_aload_n E48 dX6_init_28 0 rfl ?_
  refine J_bipush E48 (7) dX6_init_29 (by decide) ?_
  refine N_arr_int E48 o47 7 gany z_any wd171 (by decide) (by decide) (by decide) hA0 ⟨Nat.le_of_ble_eq_true rfl, Nat.le_of_ble_eq_true rfl⟩ dX6_init_31 (fun a52 G53 v54 w55 f56 s57 o58 E59 => ?_)
  have q60 := f56 _ _ q49
  have q61 := f56 _ _ q50
  have q62 := f56 _ _ q51
  have g63 := f56 _ _ g46
  refine N_finR E59 o58 in_X6 rfl g63 5 (by decide) wd205 tyX6 tyX6_ok nmX6 rfl hin rfl [fi 0 7, fr a1, fr a16, fi 0 7, fr a33, fr a52, f0, f0, fi 0 8, f0, f0, f0] rfl (Nat.le_of_ble_eq_true rfl) (.array .int) (by decide +kernel) rfl rfl dX6_init_33 (fun G64 l65 g66 o67 E68 => ?_)
  have q69 := l65 _ _ q60 rfl
  have q70 := l65 _ _ q61 rfl
  have q71 := l65 _ _ q62 rfl
  have q72 := l65 _ _ s57 rfl
  refine J_aload_n E68 dX6_init_36 0 rfl ?_
  refine N_new (ci := 2) E68 o67 in_X2 tyX2 tyX2_ok wd144 wd145 wd117 rfl [f0, f0, fi I0 I1, fi I0 I1] (by decide) (nfs_X2 _ _) hA0 ⟨Nat.le_of_ble_eq_true rfl, Nat.le_of_ble_eq_true rfl⟩ dX6_init_37 (fun a73 G74 v75 w76 f77 s78 o79 z80 n81 k82 E83 => ?_)
  refine J_dup E83 dX6_init_40 rfl ?_
  refine N_callIN E83 o79 cali_X2 wd146 [] [.ref a73, .ref h0] (fun G => S_X2 G a73) (fun h q => q.lf h) (ct_X2_init l D dA a73) (fun G q => by rw [q.1]; rfl) s78 z80 hA0 rfl rfl (Nat.le_of_ble_eq_true rfl) ⟨rfl, rfl⟩ ⟨Nat.le_of_ble_eq_true rfl, Nat.le_of_ble_eq_true rfl⟩ ⟨Nat.le_of_ble_eq_true rfl, Nat.le_of_ble_eq_true rfl⟩ dX6_init_41 (fun G84 v85 w86 b87 S88 o89 k90 E91 => ?_)
  have f92 := f77.but n81 b87
  have q93 := f92 _ _ q69
  have q94 := f92 _ _ q70
  have q95 := f92 _ _ q71
  have q96 := f92 _ _ q72
  have g97 := f92 _ _ g66
  refine N_finR E91 o89 in_X6 rfl g97 6 (by decide) wd207 tyX6 tyX6_ok nmX6 rfl hin rfl [fi 0 7, fr a1, fr a16, fi 0 7, fr a33, fr a52, fr a73, f0, fi 0 8, f0, f0, f0] rfl (Nat.le_of_ble_eq_true rfl) (.object RX2) (by decide +kernel) rfl rfl dX6_init_44 (fun G98 l99 g100 o101 E102 => ?_)
  have q103 := l99 _ _ q93 rfl
  have q104 := l99 _ _ q94 rfl
  have q105 := l99 _ _ q95 rfl
  have q106 := l99 _ _ q96 rfl
  have q107 := S88.lt l99 rfl rfl
  refine J_aload_n E102 dX6_init_47 0 rfl ?_
  refine J_bipush E102 (8) dX6_init_48 (by decide) ?_
  refine N_anew4 E102 o101 8 wd144 wd172 (by decide) (by decide) (by decide) hA0 ⟨Nat.le_of_ble_eq_true rfl, Nat.le_of_ble_eq_true rfl⟩ dX6_init_50 (fun a108 G109 v110 w111 f112 s113 o114 E115 => ?_)
  have q116 := f112 _ _ q103
  have q117 := f112 _ _ q104
  have q118 := f112 _ _ q105
  have q119 := f112 _ _ q106
  have q120 := q107.lf f112
  have g121 := f112 _ _ g100
  refine N_finR E115 o114 in_X6 rfl g121 7 (by decide) wd210 tyX6 tyX6_ok nmX6 rfl hin rfl [fi 0 7, fr a1, fr a16, fi 0 7, fr a33, fr a52, fr a73, fr a108, fi 0 8, f0, f0, f0] rfl (Nat.le_of_ble_eq_true rfl) (.array (.object RX2)) (by decide +kernel) rfl rfl dX6_init_53 (fun G122 l123 g124 o125 E126 => ?_)
  have q127 := l123 _ _ q116 rfl
  have q128 := l123 _ _ q117 rfl
  have q129 := l123 _ _ q118 rfl
  have q130 := l123 _ _ q119 rfl
  have q131 := q120.lt l123 rfl rfl
  have q132 := l123 _ _ s113 rfl
  refine J_aload_n E126 dX6_init_56 0 rfl ?_
  refine N_new (ci := 4) E126 o125 in_X4 tyX4 tyX4_ok wd173 wd174 wd118 rfl [fi 0 0, f0, fi 0 (5 : Nat)] (by decide) (nfs_X4_5 _ _) hA0 ⟨Nat.le_of_ble_eq_true rfl, Nat.le_of_ble_eq_true rfl⟩ dX6_init_57 (fun a133 G134 v135 w136 f137 s138 o139 z140 n141 k142 E143 => ?_)
  refine J_dup E143 dX6_init_60 rfl ?_
  refine J_iconst E143 (5) dX6_init_61 (by decide) ?_
  refine N_callIN E143 o139 cali_X4 wd175 [.int 5] [.ref a133, .ref h0] (fun G => S_X4 G a133 5) (fun h q => q.lf5 h) (ct_X4_5_init l D dA a133) (fun G q => by rw [q.1]; rfl) s138 z140 hA0 rfl rfl (Nat.le_of_ble_eq_true rfl) ⟨rfl, rfl⟩ ⟨Nat.le_of_ble_eq_true rfl, Nat.le_of_ble_eq_true rfl⟩ ⟨Nat.le_of_ble_eq_true rfl, Nat.le_of_ble_eq_true rfl⟩ dX6_init_62 (fun G144 v145 w146 b147 S148 o149 k150 E151 => ?_)
  have f152 := f137.but n141 b147
  have q153 := f152 _ _ q127
  have q154 := f152 _ _ q128
  have q155 := f152 _ _ q129
  have q156 := f152 _ _ q130
  have q157 := q131.lf f152
  have q158 := f152 _ _ q132
  have g159 := f152 _ _ g124
  refine N_finR E151 o149 in_X6 rfl g159 9 (by decide) wd213 tyX6 tyX6_ok nmX6 rfl hin rfl [fi 0 7, fr a1, fr a16, fi 0 7, fr a33, fr a52, fr a73, fr a108, fi 0 8, fr a133, f0, f0] rfl (Nat.le_of_ble_eq_true rfl) (.object RX4) (by decide +kernel) rfl rfl dX6_init_65 (fun G160 l161 g162 o163 E164 => ?_)
  have q165 := l161 _ _ q153 rfl
  have q166 := l161 _ _ q154 rfl
  have q167 := l161 _ _ q155 rfl
  have q168 := l161 _ _ q156 rfl
  have q169 := q157.lt l161 rfl rfl
  have q170 := l161 _ _ q158 rfl
  have q171 := S148.lt l161 rfl rfl
  refine J_aload_n E164 dX6_init_68 0 rfl ?_
  refine N_new (ci := 4) E164 o163 in_X4 tyX4 tyX4_ok wd173 wd174 wd118 rfl [fi 0 0, f0, fi 0 (6 : Nat)] (by decide) (nfs_X4_6 _ _) hA0 ⟨Nat.le_of_ble_eq_true rfl, Nat.le_of_ble_eq_true rfl⟩ dX6_init_69 (fun a172 G173 v174 w175 f176 s177 o178 z179 n180 k181 E182 => ?_)
  refine J_dup E182 dX6_init_72 rfl ?_
  refine J_bipush E182 (6) dX6_init_73 (by decide) ?_
  refine N_callIN E182 o178 cali_X4 wd175 [.int 6] [.ref a172, .ref h0] (fun G => S_X4 G a172 6) (fun h q => q.lf6 h) (ct_X4_6_init l D dA a172) (fun G q => by rw [q.1]; rfl) s177 z179 hA0 rfl rfl (Nat.le_of_ble_eq_true rfl) ⟨rfl, rfl⟩ ⟨Nat.le_of_ble_eq_true rfl, Nat.le_of_ble_eq_true rfl⟩ ⟨Nat.le_of_ble_eq_true rfl, Nat.le_of_ble_eq_true rfl⟩ dX6_init_75 (fun G183 v184 w185 b186 S187 o188 k189 E190 => ?_)
  have f191 := f176.but n180 b186
  have q192 := f191 _ _ q165
  have q193 := f191 _ _ q166
  have q194 := f191 _ _ q167
  have q195 := f191 _ _ q168
  have q196 := q169.lf f191
  have q197 := f191 _ _ q170
  have q198 := q171.lf5 f191
  have g199 := f191 _ _ g162
  refine N_finR E190 o188 in_X6 rfl g199 10 (by decide) wd215 tyX6 tyX6_ok nmX6 rfl hin rfl [fi 0 7, fr a1, fr a16, fi 0 7, fr a33, fr a52, fr a73, fr a108, fi 0 8, fr a133, fr a172, f0] rfl (Nat.le_of_ble_eq_true rfl) (.object RX4) (by decide +kernel) rfl rfl dX6_init_78 (fun G200 l201 g202 o203 E204 => ?_)
  have q205 := l201 _ _ q192 rfl
  have q206 := l201 _ _ q193 rfl
  have q207 := l201 _ _ q194 rfl
  have q208 := l201 _ _ q195 rfl
  have q209 := q196.lt l201 rfl rfl
  have q210 := l201 _ _ q197 rfl
  have q211 := q198.lt l201 rfl rfl
  have q212 := S187.lt l201 rfl rfl
  refine J_aload_n E204 dX6_init_81 0 rfl ?_
  refine N_new (ci := 4) E204 o203 in_X4 tyX4 tyX4_ok wd173 wd174 wd118 rfl [fi 0 0, f0, fi 0 (6 : Nat)] (by decide) (nfs_X4_6 _ _) hA0 ⟨Nat.le_of_ble_eq_true rfl, Nat.le_of_ble_eq_true rfl⟩ dX6_init_82 (fun a213 G214 v215 w216 f217 s218 o219 z220 n221 k222 E223 => ?_)
  refine J_dup E223 dX6_init_85 rfl ?_
  refine J_bipush E223 (6) dX6_init_86 (by decide) ?_
  refine N_callIN E223 o219 cali_X4 wd175 [.int 6] [.ref a213, .ref h0] (fun G => S_X4 G a213 6) (fun h q => q.lf6 h) (ct_X4_6_init l D dA a213) (fun G q => by rw [q.1]; rfl) s218 z220 hA0 rfl rfl (Nat.le_of_ble_eq_true rfl) ⟨rfl, rfl⟩ ⟨Nat.le_of_ble_eq_true rfl, Nat.le_of_ble_eq_true rfl⟩ ⟨Nat.le_of_ble_eq_true rfl, Nat.le_of_ble_eq_true rfl⟩ dX6_init_88 (fun G224 v225 w226 b227 S228 o229 k230 E231 => ?_)
  have f232 := f217.but n221 b227
  have q233 := f232 _ _ q205
  have q234 := f232 _ _ q206
  have q235 := f232 _ _ q207
  have q236 := f232 _ _ q208
  have q237 := q209.lf f232
  have q238 := f232 _ _ q210
  have q239 := q211.lf5 f232
  have q240 := q212.lf6 f232
  have g241 := f232 _ _ g202
  refine N_finR E231 o229 in_X6 rfl g241 11 (by decide) wd217 tyX6 tyX6_ok nmX6 rfl hin rfl [fi 0 7, fr a1, fr a16, fi 0 7, fr a33, fr a52, fr a73, fr a108, fi 0 8, fr a133, fr a172, fr a213] rfl (Nat.le_of_ble_eq_true rfl) (.object RX4) (by decide +kernel) rfl rfl dX6_init_91 (fun G242 l243 g244 o245 E246 => ?_)
  have q247 := l243 _ _ q233 rfl
  have q248 := l243 _ _ q234 rfl
  have q249 := l243 _ _ q235 rfl
  have q250 := l243 _ _ q236 rfl
  have q251 := q237.lt l243 rfl rfl
  have q252 := l243 _ _ q238 rfl
  have q253 := q239.lt l243 rfl rfl
  have q254 := q240.lt l243 rfl rfl
  have q255 := S228.lt l243 rfl rfl
  refine J_iconst E246 (0) dX6_init_94 (by decide) ?_
  refine J_istore_n E246 [(1, .int 0), (0, .ref h0)] dX6_init_95 rfl (by decide) rfl ?_
  refine J_iload_n E246 dX6_init_96 0 rfl ?_
  refine J_bipush E246 (8) dX6_init_97 (by decide) ?_
  refine J_icmp_ge E246 121 dX6_init_99 (by decide) (fun c => absurd c (by decide)) (fun _ => ?_)
  refine J_aload_n E246 dX6_init_102 1 rfl ?_
  refine J_getR E246 in_X6 rfl g244 7 (by decide) wd210 rfl dX6_init_103 ?_
  refine J_iload_n E246 dX6_init_106 0 rfl ?_
  refine N_new (ci := 2) E246 o245 in_X2 tyX2 tyX2_ok wd144 wd145 wd117 rfl [f0, f0, fi I0 I1, fi I0 I1] (by decide) (nfs_X2 _ _) hA0 ⟨Nat.le_of_ble_eq_true rfl, Nat.le_of_ble_eq_true rfl⟩ dX6_init_107 (fun a256 G257 v258 w259 f260 s261 o262 z263 n264 k265 E266 => ?_)
  refine J_dup E266 dX6_init_110 rfl ?_
  refine N_callIN E266 o262 cali_X2 wd146 [] [.ref a256, .int 0, .ref a108] (fun G => S_X2 G a256) (fun h q => q.lf h) (ct_X2_init l D dA a256) (fun G q => by rw [q.1]; rfl) s261 z263 hA0 rfl rfl (Nat.le_of_ble_eq_true rfl) ⟨rfl, rfl⟩ ⟨Nat.le_of_ble_eq_true rfl, Nat.le_of_ble_eq_true rfl⟩ ⟨Nat.le_of_ble_eq_true rfl, Nat.le_of_ble_eq_true rfl⟩ dX6_init_111 (fun G267 v268 w269 b270 S271 o272 k273 E274 => ?_)
  have f275 := f260.but n264 b270
  have q276 := f275 _ _ q247
  have q277 := f275 _ _ q248
  have q278 := f275 _ _ q249
  have q279 := f275 _ _ q250
  have q280 := q251.lf f275
  have q281 := f275 _ _ q252
  have q282 := q253.lf5 f275
  have q283 := q254.lf6 f275
  have q284 := q255.lf6 f275
  have g285 := f275 _ _ g244
  refine J_aast4 E274 q281 S271.1 (Bd.in (Bd.lit 0 0 (by decide)) (by decide)) dX6_init_114 ?_
  rw [show Int32.toNatClampNeg (0 : Int32) = 0 from by decide]
  generalize e287 : stu w269 a108 0 (some a256) = w286
  have o288 : Oz G267 v268 w286 [a108] := by rw [← e287]; exact o272.stu List.mem_cons_self
  have u289 : w286.2 a108 0 = some a256 := by rw [← e287]; exact stu_s
  refine J_iinc E274 0 1 (fun z => [(1, .int z), (0, .ref h0)]) dX6_init_115 rfl (by decide) (by decide) (fun _ => rfl) (fun z290 e291 => ?_)
  have e291b : z290 = 1 := by rw [e291]; decide
  subst e291b
  refine J_goto E274 96 dX6_init_118 (by decide) ?_
  refine J_iload_n E274 dX6_init_96 0 rfl ?_
  refine J_bipush E274 (8) dX6_init_97 (by decide) ?_
  refine J_icmp_ge E274 121 dX6_init_99 (by decide) (fun c => absurd c (by decide)) (fun _ => ?_)
  refine J_aload_n E274 dX6_init_102 1 rfl ?_
  refine J_getR E274 in_X6 rfl g285 7 (by decide) wd210 rfl dX6_init_103 ?_
  refine J_iload_n E274 dX6_init_106 0 rfl ?_
  refine N_new (ci := 2) E274 o288 in_X2 tyX2 tyX2_ok wd144 wd145 wd117 rfl [f0, f0, fi I0 I1, fi I0 I1] (by decide) (nfs_X2 _ _) hA0 ⟨Nat.le_of_ble_eq_true rfl, Nat.le_of_ble_eq_true rfl⟩ dX6_init_107 (fun a292 G293 v294 w295 f296 s297 o298 z299 n300 k301 E302 => ?_)
  refine J_dup E302 dX6_init_110 rfl ?_
  refine N_callIN E302 o298 cali_X2 wd146 [] [.ref a292, .int 1, .ref a108] (fun G => S_X2 G a292) (fun h q => q.lf h) (ct_X2_init l D dA a292) (fun G q => by rw [q.1]; rfl) s297 z299 hA0 rfl rfl (Nat.le_of_ble_eq_true rfl) ⟨rfl, rfl⟩ ⟨Nat.le_of_ble_eq_true rfl, Nat.le_of_ble_eq_true rfl⟩ ⟨Nat.le_of_ble_eq_true rfl, Nat.le_of_ble_eq_true rfl⟩ dX6_init_111 (fun G303 v304 w305 b306 S307 o308 k309 E310 => ?_)
  have f311 := f296.but n300 b306
  have u312 := (k309 a108 0 (fun q => by rw [q, n300] at q281; cases q281) (by rw [f296 _ _ q281]; rfl)).trans ((k301 a108 0 (by rw [q281]; rfl)).trans u289)
  have q313 := f311 _ _ q276
  have q314 := f311 _ _ q277
  have q315 := f311 _ _ q278
  have q316 := f311 _ _ q279
  have q317 := q280.lf f311
  have q318 := f311 _ _ q281
  have q319 := q282.lf5 f311
  have q320 := q283.lf6 f311
  have q321 := q284.lf6 f311
  have q322 := S271.lf f311
  have g323 := f311 _ _ g285
  refine J_aast4 E310 q318 S307.1 (Bd.in (Bd.lit 1 1 (by decide)) (by decide)) dX6_init_114 ?_
  rw [show Int32.toNatClampNeg (1 : Int32) = 1 from by decide]
  generalize e325 : stu w305 a108 1 (some a292) = w324
  have o326 : Oz G303 v304 w324 [a108] := by rw [← e325]; exact o308.stu List.mem_cons_self
  have u328 : w324.2 a108 0 = some a256 := by rw [← e325]; exact (stu_k (by decide)).trans u312
  have u327 : w324.2 a108 1 = some a292 := by rw [← e325]; exact stu_s
  refine J_iinc E310 0 1 (fun z => [(1, .int z), (0, .ref h0)]) dX6_init_115 rfl (by decide) (by decide) (fun _ => rfl) (fun z329 e330 => ?_)
  have e330b : z329 = 2 := by rw [e330]; decide
  subst e330b
  refine J_goto E310 96 dX6_init_118 (by decide) ?_
  refine J_iload_n E310 dX6_init_96 0 rfl ?_
  refine J_bipush E310 (8) dX6_init_97 (by decide) ?_
  refine J_icmp_ge E310 121 dX6_init_99 (by decide) (fun c => absurd c (by decide)) (fun _ => ?_)
  refine J_aload_n E310 dX6_init_102 1 rfl ?_
  refine J_getR E310 in_X6 rfl g323 7 (by decide) wd210 rfl dX6_init_103 ?_
  refine J_iload_n E310 dX6_init_106 0 rfl ?_
  refine N_new (ci := 2) E310 o326 in_X2 tyX2 tyX2_ok wd144 wd145 wd117 rfl [f0, f0, fi I0 I1, fi I0 I1] (by decide) (nfs_X2 _ _) hA0 ⟨Nat.le_of_ble_eq_true rfl, Nat.le_of_ble_eq_true rfl⟩ dX6_init_107 (fun a331 G332 v333 w334 f335 s336 o337 z338 n339 k340 E341 => ?_)
  refine J_dup E341 dX6_init_110 rfl ?_
  refine N_callIN E341 o337 cali_X2 wd146 [] [.ref a331, .int 2, .ref a108] (fun G => S_X2 G a331) (fun h q => q.lf h) (ct_X2_init l D dA a331) (fun G q => by rw [q.1]; rfl) s336 z338 hA0 rfl rfl (Nat.le_of_ble_eq_true rfl) ⟨rfl, rfl⟩ ⟨Nat.le_of_ble_eq_true rfl, Nat.le_of_ble_eq_true rfl⟩ ⟨Nat.le_of_ble_eq_true rfl, Nat.le_of_ble_eq_true rfl⟩ dX6_init_111 (fun G342 v343 w344 b345 S346 o347 k348 E349 => ?_)
  have f350 := f335.but n339 b345
  have u351 := (k348 a108 0 (fun q => by rw [q, n339] at q318; cases q318) (by rw [f335 _ _ q318]; rfl)).trans ((k340 a108 0 (by rw [q318]; rfl)).trans u328)
  have u352 := (k348 a108 1 (fun q => by rw [q, n339] at q318; cases q318) (by rw [f335 _ _ q318]; rfl)).trans ((k340 a108 1 (by rw [q318]; rfl)).trans u327)
  have q353 := f350 _ _ q313
  have q354 := f350 _ _ q314
  have q355 := f350 _ _ q315
  have q356 := f350 _ _ q316
  have q357 := q317.lf f350
  have q358 := f350 _ _ q318
  have q359 := q319.lf5 f350
  have q360 := q320.lf6 f350
  have q361 := q321.lf6 f350
  have q362 := q322.lf f350
  have q363 := S307.lf f350
  have g364 := f350 _ _ g323
  refine J_aast4 E349 q358 S346.1 (Bd.in (Bd.lit 2 2 (by decide)) (by decide)) dX6_init_114 ?_
  rw [show Int32.toNatClampNeg (2 : Int32) = 2 from by decide]
  generalize e366 : stu w344 a108 2 (some a331) = w365
  have o367 : Oz G342 v343 w365 [a108] := by rw [← e366]; exact o347.stu List.mem_cons_self
  have u369 : w365.2 a108 0 = some a256 := by rw [← e366]; exact (stu_k (by decide)).trans u351
  have u370 : w365.2 a108 1 = some a292 := by rw [← e366]; exact (stu_k (by decide)).trans u352
  have u368 : w365.2 a108 2 = some a331 := by rw [← e366]; exact stu_s
  refine J_iinc E349 0 1 (fun z => [(1, .int z), (0, .ref h0)]) dX6_init_115 rfl (by decide) (by decide) (fun _ => rfl) (fun z371 e372 => ?_)
  have e372b : z371 = 3 := by rw [e372]; decide
  subst e372b
  refine J_goto E349 96 dX6_init_118 (by decide) ?_
  refine J_iload_n E349 dX6_init_96 0 rfl ?_
  refine J_bipush E349 (8) dX6_init_97 (by decide) ?_
  refine J_icmp_ge E349 121 dX6_init_99 (by decide) (fun c => absurd c (by decide)) (fun _ => ?_)
  refine J_aload_n E349 dX6_init_102 1 rfl ?_
  refine J_getR E349 in_X6 rfl g364 7 (by decide) wd210 rfl dX6_init_103 ?_
  refine J_iload_n E349 dX6_init_106 0 rfl ?_
  refine N_new (ci := 2) E349 o367 in_X2 tyX2 tyX2_ok wd144 wd145 wd117 rfl [f0, f0, fi I0 I1, fi I0 I1] (by decide) (nfs_X2 _ _) hA0 ⟨Nat.le_of_ble_eq_true rfl, Nat.le_of_ble_eq_true rfl⟩ dX6_init_107 (fun a373 G374 v375 w376 f377 s378 o379 z380 n381 k382 E383 => ?_)
  refine J_dup E383 dX6_init_110 rfl ?_
  refine N_callIN E383 o379 cali_X2 wd146 [] [.ref a373, .int 3, .ref a108] (fun G => S_X2 G a373) (fun h q => q.lf h) (ct_X2_init l D dA a373) (fun G q => by rw [q.1]; rfl) s378 z380 hA0 rfl rfl (Nat.le_of_ble_eq_true rfl) ⟨rfl, rfl⟩ ⟨Nat.le_of_ble_eq_true rfl, Nat.le_of_ble_eq_true rfl⟩ ⟨Nat.le_of_ble_eq_true rfl, Nat.le_of_ble_eq_true rfl⟩ dX6_init_111 (fun G384 v385 w386 b387 S388 o389 k390 E391 => ?_)
  have f392 := f377.but n381 b387
  have u393 := (k390 a108 0 (fun q => by rw [q, n381] at q358; cases q358) (by rw [f377 _ _ q358]; rfl)).trans ((k382 a108 0 (by rw [q358]; rfl)).trans u369)
  have u394 := (k390 a108 1 (fun q => by rw [q, n381] at q358; cases q358) (by rw [f377 _ _ q358]; rfl)).trans ((k382 a108 1 (by rw [q358]; rfl)).trans u370)
  have u395 := (k390 a108 2 (fun q => by rw [q, n381] at q358; cases q358) (by rw [f377 _ _ q358]; rfl)).trans ((k382 a108 2 (by rw [q358]; rfl)).trans u368)
  have q396 := f392 _ _ q353
  have q397 := f392 _ _ q354
  have q398 := f392 _ _ q355
  have q399 := f392 _ _ q356
  have q400 := q357.lf f392
  have q401 := f392 _ _ q358
  have q402 := q359.lf5 f392
  have q403 := q360.lf6 f392
  have q404 := q361.lf6 f392
  have q405 := q362.lf f392
  have q406 := q363.lf f392
  have q407 := S346.lf f392
  have g408 := f392 _ _ g364
  refine J_aast4 E391 q401 S388.1 (Bd.in (Bd.lit 3 3 (by decide)) (by decide)) dX6_init_114 ?_
  rw [show Int32.toNatClampNeg (3 : Int32) = 3 from by decide]
  generalize e410 : stu w386 a108 3 (some a373) = w409
  have o411 : Oz G384 v385 w409 [a108] := by rw [← e410]; exact o389.stu List.mem_cons_self
  have u413 : w409.2 a108 0 = some a256 := by rw [← e410]; exact (stu_k (by decide)).trans u393
  have u414 : w409.2 a108 1 = some a292 := by rw [← e410]; exact (stu_k (by decide)).trans u394
  have u415 : w409.2 a108 2 = some a331 := by rw [← e410]; exact (stu_k (by decide)).trans u395
  have u412 : w409.2 a108 3 = some a373 := by rw [← e410]; exact stu_s
  refine J_iinc E391 0 1 (fun z => [(1, .int z), (0, .ref h0)]) dX6_init_115 rfl (by decide) (by decide) (fun _ => rfl) (fun z416 e417 => ?_)
  have e417b : z416 = 4 := by rw [e417]; decide
  subst e417b
  refine J_goto E391 96 dX6_init_118 (by decide) ?_
  refine J_iload_n E391 dX6_init_96 0 rfl ?_
  refine J_bipush E391 (8) dX6_init_97 (by decide) ?_
  refine J_icmp_ge E391 121 dX6_init_99 (by decide) (fun c => absurd c (by decide)) (fun _ => ?_)
  refine J_aload_n E391 dX6_init_102 1 rfl ?_
  refine J_getR E391 in_X6 rfl g408 7 (by decide) wd210 rfl dX6_init_103 ?_
  refine J_iload_n E391 dX6_init_106 0 rfl ?_
  refine N_new (ci := 2) E391 o411 in_X2 tyX2 tyX2_ok wd144 wd145 wd117 rfl [f0, f0, fi I0 I1, fi I0 I1] (by decide) (nfs_X2 _ _) hA0 ⟨Nat.le_of_ble_eq_true rfl, Nat.le_of_ble_eq_true rfl⟩ dX6_init_107 (fun a418 G419 v420 w421 f422 s423 o424 z425 n426 k427 E428 => ?_)
  refine J_dup E428 dX6_init_110 rfl ?_
  refine N_callIN E428 o424 cali_X2 wd146 [] [.ref a418, .int 4, .ref a108] (fun G => S_X2 G a418) (fun h q => q.lf h) (ct_X2_init l D dA a418) (fun G q => by rw [q.1]; rfl) s423 z425 hA0 rfl rfl (Nat.le_of_ble_eq_true rfl) ⟨rfl, rfl⟩ ⟨Nat.le_of_ble_eq_true rfl, Nat.le_of_ble_eq_true rfl⟩ ⟨Nat.le_of_ble_eq_true rfl, Nat.le_of_ble_eq_true rfl⟩ dX6_init_111 (fun G429 v430 w431 b432 S433 o434 k435 E436 => ?_)
  have f437 := f422.but n426 b432
  have u438 := (k435 a108 0 (fun q => by rw [q, n426] at q401; cases q401) (by rw [f422 _ _ q401]; rfl)).trans ((k427 a108 0 (by rw [q401]; rfl)).trans u413)
  have u439 := (k435 a108 1 (fun q => by rw [q, n426] at q401; cases q401) (by rw [f422 _ _ q401]; rfl)).trans ((k427 a108 1 (by rw [q401]; rfl)).trans u414)
  have u440 := (k435 a108 2 (fun q => by rw [q, n426] at q401; cases q401) (by rw [f422 _ _ q401]; rfl)).trans ((k427 a108 2 (by rw [q401]; rfl)).trans u415)
  have u441 := (k435 a108 3 (fun q => by rw [q, n426] at q401; cases q401) (by rw [f422 _ _ q401]; rfl)).trans ((k427 a108 3 (by rw [q401]; rfl)).trans u412)
  have q442 := f437 _ _ q396
  have q443 := f437 _ _ q397
  have q444 := f437 _ _ q398
  have q445 := f437 _ _ q399
  have q446 := q400.lf f437
  have q447 := f437 _ _ q401
  have q448 := q402.lf5 f437
  have q449 := q403.lf6 f437
  have q450 := q404.lf6 f437
  have q451 := q405.lf f437
  have q452 := q406.lf f437
  have q453 := q407.lf f437
  have q454 := S388.lf f437
  have g455 := f437 _ _ g408
  refine J_aast4 E436 q447 S433.1 (Bd.in (Bd.lit 4 4 (by decide)) (by decide)) dX6_init_114 ?_
  rw [show Int32.toNatClampNeg (4 : Int32) = 4 from by decide]
  generalize e457 : stu w431 a108 4 (some a418) = w456
  have o458 : Oz G429 v430 w456 [a108] := by rw [← e457]; exact o434.stu List.mem_cons_self
  have u460 : w456.2 a108 0 = some a256 := by rw [← e457]; exact (stu_k (by decide)).trans u438
  have u461 : w456.2 a108 1 = some a292 := by rw [← e457]; exact (stu_k (by decide)).trans u439
  have u462 : w456.2 a108 2 = some a331 := by rw [← e457]; exact (stu_k (by decide)).trans u440
  have u463 : w456.2 a108 3 = some a373 := by rw [← e457]; exact (stu_k (by decide)).trans u441
  have u459 : w456.2 a108 4 = some a418 := by rw [← e457]; exact stu_s
  refine J_iinc E436 0 1 (fun z => [(1, .int z), (0, .ref h0)]) dX6_init_115 rfl (by decide) (by decide) (fun _ => rfl) (fun z464 e465 => ?_)
  have e465b : z464 = 5 := by rw [e465]; decide
  subst e465b
  refine J_goto E436 96 dX6_init_118 (by decide) ?_
  refine J_iload_n E436 dX6_init_96 0 rfl ?_
  refine J_bipush E436 (8) dX6_init_97 (by decide) ?_
  refine J_icmp_ge E436 121 dX6_init_99 (by decide) (fun c => absurd c (by decide)) (fun _ => ?_)
  refine J_aload_n E436 dX6_init_102 1 rfl ?_
  refine J_getR E436 in_X6 rfl g455 7 (by decide) wd210 rfl dX6_init_103 ?_
  refine J_iload_n E436 dX6_init_106 0 rfl ?_
  refine N_new (ci := 2) E436 o458 in_X2 tyX2 tyX2_ok wd144 wd145 wd117 rfl [f0, f0, fi I0 I1, fi I0 I1] (by decide) (nfs_X2 _ _) hA0 ⟨Nat.le_of_ble_eq_true rfl, Nat.le_of_ble_eq_true rfl⟩ dX6_init_107 (fun a466 G467 v468 w469 f470 s471 o472 z473 n474 k475 E476 => ?_)
  refine J_dup E476 dX6_init_110 rfl ?_
  refine N_callIN E476 o472 cali_X2 wd146 [] [.ref a466, .int 5, .ref a108] (fun G => S_X2 G a466) (fun h q => q.lf h) (ct_X2_init l D dA a466) (fun G q => by rw [q.1]; rfl) s471 z473 hA0 rfl rfl (Nat.le_of_ble_eq_true rfl) ⟨rfl, rfl⟩ ⟨Nat.le_of_ble_eq_true rfl, Nat.le_of_ble_eq_true rfl⟩ ⟨Nat.le_of_ble_eq_true rfl, Nat.le_of_ble_eq_true rfl⟩ dX6_init_111 (fun G477 v478 w479 b480 S481 o482 k483 E484 => ?_)
  have f485 := f470.but n474 b480
  have u486 := (k483 a108 0 (fun q => by rw [q, n474] at q447; cases q447) (by rw [f470 _ _ q447]; rfl)).trans ((k475 a108 0 (by rw [q447]; rfl)).trans u460)
  have u487 := (k483 a108 1 (fun q => by rw [q, n474] at q447; cases q447) (by rw [f470 _ _ q447]; rfl)).trans ((k475 a108 1 (by rw [q447]; rfl)).trans u461)
  have u488 := (k483 a108 2 (fun q => by rw [q, n474] at q447; cases q447) (by rw [f470 _ _ q447]; rfl)).trans ((k475 a108 2 (by rw [q447]; rfl)).trans u462)
  have u489 := (k483 a108 3 (fun q => by rw [q, n474] at q447; cases q447) (by rw [f470 _ _ q447]; rfl)).trans ((k475 a108 3 (by rw [q447]; rfl)).trans u463)
  have u490 := (k483 a108 4 (fun q => by rw [q, n474] at q447; cases q447) (by rw [f470 _ _ q447]; rfl)).trans ((k475 a108 4 (by rw [q447]; rfl)).trans u459)
  have q491 := f485 _ _ q442
  have q492 := f485 _ _ q443
  have q493 := f485 _ _ q444
  have q494 := f485 _ _ q445
  have q495 := q446.lf f485
  have q496 := f485 _ _ q447
  have q497 := q448.lf5 f485
  have q498 := q449.lf6 f485
  have q499 := q450.lf6 f485
  have q500 := q451.lf f485
  have q501 := q452.lf f485
  have q502 := q453.lf f485
  have q503 := q454.lf f485
  have q504 := S433.lf f485
  have g505 := f485 _ _ g455
  refine J_aast4 E484 q496 S481.1 (Bd.in (Bd.lit 5 5 (by decide)) (by decide)) dX6_init_114 ?_
  rw [show Int32.toNatClampNeg (5 : Int32) = 5 from by decide]
  generalize e507 : stu w479 a108 5 (some a466) = w506
  have o508 : Oz G477 v478 w506 [a108] := by rw [← e507]; exact o482.stu List.mem_cons_self
  have u510 : w506.2 a108 0 = some a256 := by rw [← e507]; exact (stu_k (by decide)).trans u486
  have u511 : w506.2 a108 1 = some a292 := by rw [← e507]; exact (stu_k (by decide)).trans u487
  have u512 : w506.2 a108 2 = some a331 := by rw [← e507]; exact (stu_k (by decide)).trans u488
  have u513 : w506.2 a108 3 = some a373 := by rw [← e507]; exact (stu_k (by decide)).trans u489
  have u514 : w506.2 a108 4 = some a418 := by rw [← e507]; exact (stu_k (by decide)).trans u490
  have u509 : w506.2 a108 5 = some a466 := by rw [← e507]; exact stu_s
  refine J_iinc E484 0 1 (fun z => [(1, .int z), (0, .ref h0)]) dX6_init_115 rfl (by decide) (by decide) (fun _ => rfl) (fun z515 e516 => ?_)
  have e516b : z515 = 6 := by rw [e516]; decide
  subst e516b
  refine J_goto E484 96 dX6_init_118 (by decide) ?_
  refine J_iload_n E484 dX6_init_96 0 rfl ?_
  refine J_bipush E484 (8) dX6_init_97 (by decide) ?_
  refine J_icmp_ge E484 121 dX6_init_99 (by decide) (fun c => absurd c (by decide)) (fun _ => ?_)
  refine J_aload_n E484 dX6_init_102 1 rfl ?_
  refine J_getR E484 in_X6 rfl g505 7 (by decide) wd210 rfl dX6_init_103 ?_
  refine J_iload_n E484 dX6_init_106 0 rfl ?_
  refine N_new (ci := 2) E484 o508 in_X2 tyX2 tyX2_ok wd144 wd145 wd117 rfl [f0, f0, fi I0 I1, fi I0 I1] (by decide) (nfs_X2 _ _) hA0 ⟨Nat.le_of_ble_eq_true rfl, Nat.le_of_ble_eq_true rfl⟩ dX6_init_107 (fun a517 G518 v519 w520 f521 s522 o523 z524 n525 k526 E527 => ?_)
  refine J_dup E527 dX6_init_110 rfl ?_
  refine N_callIN E527 o523 cali_X2 wd146 [] [.ref a517, .int 6, .ref a108] (fun G => S_X2 G a517) (fun h q => q.lf h) (ct_X2_init l D dA a517) (fun G q => by rw [q.1]; rfl) s522 z524 hA0 rfl rfl (Nat.le_of_ble_eq_true rfl) ⟨rfl, rfl⟩ ⟨Nat.le_of_ble_eq_true rfl, Nat.le_of_ble_eq_true rfl⟩ ⟨Nat.le_of_ble_eq_true rfl, Nat.le_of_ble_eq_true rfl⟩ dX6_init_111 (fun G528 v529 w530 b531 S532 o533 k534 E535 => ?_)
  have f536 := f521.but n525 b531
  have u537 := (k534 a108 0 (fun q => by rw [q, n525] at q496; cases q496) (by rw [f521 _ _ q496]; rfl)).trans ((k526 a108 0 (by rw [q496]; rfl)).trans u510)
  have u538 := (k534 a108 1 (fun q => by rw [q, n525] at q496; cases q496) (by rw [f521 _ _ q496]; rfl)).trans ((k526 a108 1 (by rw [q496]; rfl)).trans u511)
  have u539 := (k534 a108 2 (fun q => by rw [q, n525] at q496; cases q496) (by rw [f521 _ _ q496]; rfl)).trans ((k526 a108 2 (by rw [q496]; rfl)).trans u512)
  have u540 := (k534 a108 3 (fun q => by rw [q, n525] at q496; cases q496) (by rw [f521 _ _ q496]; rfl)).trans ((k526 a108 3 (by rw [q496]; rfl)).trans u513)
  have u541 := (k534 a108 4 (fun q => by rw [q, n525] at q496; cases q496) (by rw [f521 _ _ q496]; rfl)).trans ((k526 a108 4 (by rw [q496]; rfl)).trans u514)
  have u542 := (k534 a108 5 (fun q => by rw [q, n525] at q496; cases q496) (by rw [f521 _ _ q496]; rfl)).trans ((k526 a108 5 (by rw [q496]; rfl)).trans u509)
  have q543 := f536 _ _ q491
  have q544 := f536 _ _ q492
  have q545 := f536 _ _ q493
  have q546 := f536 _ _ q494
  have q547 := q495.lf f536
  have q548 := f536 _ _ q496
  have q549 := q497.lf5 f536
  have q550 := q498.lf6 f536
  have q551 := q499.lf6 f536
  have q552 := q500.lf f536
  have q553 := q501.lf f536
  have q554 := q502.lf f536
  have q555 := q503.lf f536
  have q556 := q504.lf f536
  have q557 := S481.lf f536
  have g558 := f536 _ _ g505
  refine J_aast4 E535 q548 S532.1 (Bd.in (Bd.lit 6 6 (by decide)) (by decide)) dX6_init_114 ?_
  rw [show Int32.toNatClampNeg (6 : Int32) = 6 from by decide]
  generalize e560 : stu w530 a108 6 (some a517) = w559
  have o561 : Oz G528 v529 w559 [a108] := by rw [← e560]; exact o533.stu List.mem_cons_self
  have u563 : w559.2 a108 0 = some a256 := by rw [← e560]; exact (stu_k (by decide)).trans u537
  have u564 : w559.2 a108 1 = some a292 := by rw [← e560]; exact (stu_k (by decide)).trans u538
  have u565 : w559.2 a108 2 = some a331 := by rw [← e560]; exact (stu_k (by decide)).trans u539
  have u566 : w559.2 a108 3 = some a373 := by rw [← e560]; exact (stu_k (by decide)).trans u540
  have u567 : w559.2 a108 4 = some a418 := by rw [← e560]; exact (stu_k (by decide)).trans u541
  have u568 : w559.2 a108 5 = some a466 := by rw [← e560]; exact (stu_k (by decide)).trans u542
  have u562 : w559.2 a108 6 = some a517 := by rw [← e560]; exact stu_s
  refine J_iinc E535 0 1 (fun z => [(1, .int z), (0, .ref h0)]) dX6_init_115 rfl (by decide) (by decide) (fun _ => rfl) (fun z569 e570 => ?_)
  have e570b : z569 = 7 := by rw [e570]; decide
  subst e570b
  refine J_goto E535 96 dX6_init_118 (by decide) ?_
  refine J_iload_n E535 dX6_init_96 0 rfl ?_
  refine J_bipush E535 (8) dX6_init_97 (by decide) ?_
  refine J_icmp_ge E535 121 dX6_init_99 (by decide) (fun c => absurd c (by decide)) (fun _ => ?_)
  refine J_aload_n E535 dX6_init_102 1 rfl ?_
  refine J_getR E535 in_X6 rfl g558 7 (by decide) wd210 rfl dX6_init_103 ?_
  refine J_iload_n E535 dX6_init_106 0 rfl ?_
  refine N_new (ci := 2) E535 o561 in_X2 tyX2 tyX2_ok wd144 wd145 wd117 rfl [f0, f0, fi I0 I1, fi I0 I1] (by decide) (nfs_X2 _ _) hA0 ⟨Nat.le_of_ble_eq_true rfl, Nat.le_of_ble_eq_true rfl⟩ dX6_init_107 (fun a571 G572 v573 w574 f575 s576 o577 z578 n579 k580 E581 => ?_)
  refine J_dup E581 dX6_init_110 rfl ?_
  refine N_callIN E581 o577 cali_X2 wd146 [] [.ref a571, .int 7, .ref a108] (fun G => S_X2 G a571) (fun h q => q.lf h) (ct_X2_init l D dA a571) (fun G q => by rw [q.1]; rfl) s576 z578 hA0 rfl rfl (Nat.le_of_ble_eq_true rfl) ⟨rfl, rfl⟩ ⟨Nat.le_of_ble_eq_true rfl, Nat.le_of_ble_eq_true rfl⟩ ⟨Nat.le_of_ble_eq_true rfl, Nat.le_of_ble_eq_true rfl⟩ dX6_init_111 (fun G582 v583 w584 b585 S586 o587 k588 E589 => ?_)
  have f590 := f575.but n579 b585
  have u591 := (k588 a108 0 (fun q => by rw [q, n579] at q548; cases q548) (by rw [f575 _ _ q548]; rfl)).trans ((k580 a108 0 (by rw [q548]; rfl)).trans u563)
  have u592 := (k588 a108 1 (fun q => by rw [q, n579] at q548; cases q548) (by rw [f575 _ _ q548]; rfl)).trans ((k580 a108 1 (by rw [q548]; rfl)).trans u564)
  have u593 := (k588 a108 2 (fun q => by rw [q, n579] at q548; cases q548) (by rw [f575 _ _ q548]; rfl)).trans ((k580 a108 2 (by rw [q548]; rfl)).trans u565)
  have u594 := (k588 a108 3 (fun q => by rw [q, n579] at q548; cases q548) (by rw [f575 _ _ q548]; rfl)).trans ((k580 a108 3 (by rw [q548]; rfl)).trans u566)
  have u595 := (k588 a108 4 (fun q => by rw [q, n579] at q548; cases q548) (by rw [f575 _ _ q548]; rfl)).trans ((k580 a108 4 (by rw [q548]; rfl)).trans u567)
  have u596 := (k588 a108 5 (fun q => by rw [q, n579] at q548; cases q548) (by rw [f575 _ _ q548]; rfl)).trans ((k580 a108 5 (by rw [q548]; rfl)).trans u568)
  have u597 := (k588 a108 6 (fun q => by rw [q, n579] at q548; cases q548) (by rw [f575 _ _ q548]; rfl)).trans ((k580 a108 6 (by rw [q548]; rfl)).trans u562)
  have q598 := f590 _ _ q543
  have q599 := f590 _ _ q544
  have q600 := f590 _ _ q545
  have q601 := f590 _ _ q546
  have q602 := q547.lf f590
  have q603 := f590 _ _ q548
  have q604 := q549.lf5 f590
  have q605 := q550.lf6 f590
  have q606 := q551.lf6 f590
  have q607 := q552.lf f590
  have q608 := q553.lf f590
  have q609 := q554.lf f590
  have q610 := q555.lf f590
  have q611 := q556.lf f590
  have q612 := q557.lf f590
  have q613 := S532.lf f590
  have g614 := f590 _ _ g558
  refine J_aast4 E589 q603 S586.1 (Bd.in (Bd.lit 7 7 (by decide)) (by decide)) dX6_init_114 ?_
  rw [show Int32.toNatClampNeg (7 : Int32) = 7 from by decide]
  generalize e616 : stu w584 a108 7 (some a571) = w615
  have o617 : Oz G582 v583 w615 [a108] := by rw [← e616]; exact o587.stu List.mem_cons_self
  have u619 : w615.2 a108 0 = some a256 := by rw [← e616]; exact (stu_k (by decide)).trans u591
  have u620 : w615.2 a108 1 = some a292 := by rw [← e616]; exact (stu_k (by decide)).trans u592
  have u621 : w615.2 a108 2 = some a331 := by rw [← e616]; exact (stu_k (by decide)).trans u593
  have u622 : w615.2 a108 3 = some a373 := by rw [← e616]; exact (stu_k (by decide)).trans u594
  have u623 : w615.2 a108 4 = some a418 := by rw [← e616]; exact (stu_k (by decide)).trans u595
  have u624 : w615.2 a108 5 = some a466 := by rw [← e616]; exact (stu_k (by decide)).trans u596
  have u625 : w615.2 a108 6 = some a517 := by rw [← e616]; exact (stu_k (by decide)).trans u597
  have u618 : w615.2 a108 7 = some a571 := by rw [← e616]; exact stu_s
  refine J_iinc E589 0 1 (fun z => [(1, .int z), (0, .ref h0)]) dX6_init_115 rfl (by decide) (by decide) (fun _ => rfl) (fun z626 e627 => ?_)
  have e627b : z626 = 8 := by rw [e627]; decide
  subst e627b
  refine J_goto E589 96 dX6_init_118 (by decide) ?_
  refine J_iload_n E589 dX6_init_96 0 rfl ?_
  refine J_bipush E589 (8) dX6_init_97 (by decide) ?_
  refine J_icmp_ge E589 121 dX6_init_99 (by decide) (fun _ => ?_) (fun c => absurd c (by decide))
  have h628 : ∀ j, j < 8 → ∃ b, b ∈ [a256, a292, a331, a373, a418, a466, a517, a571] ∧ w615.2 a108 j = some b := fun j hj => by
    match j, hj with
    | 0, _ => exact ⟨a256, by simp, u619⟩
    | 1, _ => exact ⟨a292, by simp, u620⟩
    | 2, _ => exact ⟨a331, by simp, u621⟩
    | 3, _ => exact ⟨a373, by simp, u622⟩
    | 4, _ => exact ⟨a418, by simp, u623⟩
    | 5, _ => exact ⟨a466, by simp, u624⟩
    | 6, _ => exact ⟨a517, by simp, u625⟩
    | 7, _ => exact ⟨a571, by simp, u618⟩
    | (n + 8), h => exact absurd h (by omega)
  refine J.full E589 o617 q603 h628 (fun G629 l630 g631 o632 E633 => ?_)
  have q634 := l630 _ _ q598 rfl
  have q635 := l630 _ _ q599 rfl
  have q636 := l630 _ _ q600 rfl
  have q637 := l630 _ _ q601 rfl
  have q638 := q602.lt l630 rfl rfl
  have q639 := q604.lt l630 rfl rfl
  have q640 := q605.lt l630 rfl rfl
  have q641 := q606.lt l630 rfl rfl
  have q642 := q607.lt l630 rfl rfl
  have q643 := q608.lt l630 rfl rfl
  have q644 := q609.lt l630 rfl rfl
  have q645 := q610.lt l630 rfl rfl
  have q646 := q611.lt l630 rfl rfl
  have q647 := q612.lt l630 rfl rfl
  have q648 := q613.lt l630 rfl rfl
  have q649 := S586.lt l630 rfl rfl
  have gz := l630 _ _ g614 rfl
  have S650 : S_X6 G629 h0 := by
    have r1 : rf G629 h0 1 = a1 := rf_at gz rfl
    have r2 : rf G629 h0 2 = a16 := rf_at gz rfl
    have r4 : rf G629 h0 4 = a33 := rf_at gz rfl
    have r5 : rf G629 h0 5 = a52 := rf_at gz rfl
    have r6 : rf G629 h0 6 = a73 := rf_at gz rfl
    have r7 : rf G629 h0 7 = a108 := rf_at gz rfl
    have r9 : rf G629 h0 9 = a133 := rf_at gz rfl
    have r10 : rf G629 h0 10 = a172 := rf_at gz rfl
    have r11 : rf G629 h0 11 = a213 := rf_at gz rfl
    have e7 : rl G629 a108 = [a256, a292, a331, a373, a418, a466, a517, a571] := rl_at g631
    have m651 : ∀ b ∈ [a256, a292, a331, a373, a418, a466, a517, a571], S_X2 G629 b := by
      intro b hb
      simp only [List.mem_cons, List.not_mem_nil, or_false] at hb
      rcases hb with rfl | rfl | rfl | rfl | rfl | rfl | rfl | rfl
      · exact q642
      · exact q643
      · exact q644
      · exact q645
      · exact q646
      · exact q647
      · exact q648
      · exact q649
    unfold S_X6
    simp only [r1, r2, r4, r5, r6, r7, r9, r10, r11, e7]
    exact ⟨gz, q634, q635, q636, q637, q638, ⟨g631, m651⟩, q639, q640, q641⟩
  exact J_vretN E633 hr dX6_init_121 ⟨o632, S650⟩
abbrev rm_X3_init : Room := { frames := 3, cells := 40, slots := 437, locals := 54 }
set_option maxHeartbeats 4000000 in
set_option maxRecDepth 100000 in
theorem ct_X3_init (l : Launch) (D : va_G) (dA : Nat → ClassId) (h0 : Nat) : CtN l yX3_init cX3_init 1 rm_X3_init D dA h0 (.inl (3, [f0, fq 0 150, fi 0 150, fi I0 I1, fi 0 150, fi I0 I1, f0])) [] 40 437 (PoN (fun G => S_X3 G h0)) := by
  refine CtN.of RX3 [(0, .ref h0)] (Nat.le_of_ble_eq_true rfl) rfl (by decide) rfl rfl ?_
  intro p e s m args below meth c E hr hin
  have hA0 : ∀ q, s.heap.size ≤ q → An h0 s.heap.size q := fun q h => Or.inr h
  have hG0 : one h0 (.inl (3, [f0, fq 0 150, fi 0 150, fi I0 I1, fi 0 150, fi I0 I1, f0])) h0 = some (.inl (3, [f0, fq 0 150, fi 0 150, fi I0 I1, fi 0 150, fi I0 I1, f0])) := one_s
  have hO : Oz (one h0 (.inl (3, [f0, fq 0 150, fi 0 150, fi I0 I1, fi 0 150, fi I0 I1, f0]))) vz wz [] := Oz.oneN (zr.obj (by decide)) rfl
  refine J_aload_n E dX3_init_0 0 rfl ?_
  refine J_objInit E wd249 wd136 wd137 ⟨Nat.le_of_ble_eq_true rfl, Nat.le_of_ble_eq_true rfl⟩ dX3_init_1 ?_
  refine J_aload_n E dX3_init_4 0 rfl ?_
  refine J_sipush E (150) dX3_init_5 (by decide) ?_
  refine N_arr_int E hO 150 gany z_any wd171 (by decide) (by decide) (by decide) hA0 ⟨Nat.le_of_ble_eq_true rfl, Nat.le_of_ble_eq_true rfl⟩ dX3_init_8 (fun a1 G2 v3 w4 f5 s6 o7 E8 => ?_)
  have g9 := f5 _ _ hG0
  refine N_finR E8 o7 in_X3 rfl g9 0 (by decide) wd252 tyX3 tyX3_ok nmX3 rfl hin rfl [fr a1, fq 0 150, fi 0 150, fi I0 I1, fi 0 150, fi I0 I1, f0] rfl (Nat.le_of_ble_eq_true rfl) (.array .int) (by decide +kernel) rfl rfl dX3_init_10 (fun G10 l11 g12 o13 E14 => ?_)
  have q15 := l11 _ _ s6 rfl
  refine J_aload_n E14 dX3_init_13 0 rfl ?_
  refine N_new (ci := 6) E14 o13 in_X6 tyX6 tyX6_ok wd250 wd139 wd116 rfl [fi 0 7, f0, f0, fi 0 7, f0, f0, f0, f0, fi 0 8, f0, f0, f0] (by decide) (nfs_X6 _ _) hA0 ⟨Nat.le_of_ble_eq_true rfl, Nat.le_of_ble_eq_true rfl⟩ dX3_init_14 (fun a16 G17 v18 w19 f20 s21 o22 z23 n24 k25 E26 => ?_)
  refine J_dup E26 dX3_init_17 rfl ?_
  refine N_callIN E26 o22 cali_X6 wd251 [] [.ref a16, .ref h0] (fun G => S_X6 G a16) (fun h q => q.lf h) (ct_X6_init l D dA a16) (fun G q => by rw [q.1]; rfl) s21 z23 hA0 rfl rfl (Nat.le_of_ble_eq_true rfl) ⟨rfl, rfl⟩ ⟨Nat.le_of_ble_eq_true rfl, Nat.le_of_ble_eq_true rfl⟩ ⟨Nat.le_of_ble_eq_true rfl, Nat.le_of_ble_eq_true rfl⟩ dX3_init_18 (fun G27 v28 w29 b30 S31 o32 k33 E34 => ?_)
  have f35 := f20.but n24 b30
  have q36 := f35 _ _ q15
  have g37 := f35 _ _ g12
  refine N_finR E34 o32 in_X3 rfl g37 6 (by decide) wd259 tyX3 tyX3_ok nmX3 rfl hin rfl [fr a1, fq 0 150, fi 0 150, fi I0 I1, fi 0 150, fi I0 I1, fr a16] rfl (Nat.le_of_ble_eq_true rfl) (.object RX6) (by decide +kernel) rfl rfl dX3_init_21 (fun G38 l39 g40 o41 E42 => ?_)
  have q43 := l39 _ _ q36 rfl
  have q44 := S31.lt l39 rfl rfl rfl rfl rfl rfl rfl
  have S45 : S_X3 G38 h0 := by
    have r0 : rf G38 h0 0 = a1 := rf_at g40 rfl
    have r6 : rf G38 h0 6 = a16 := rf_at g40 rfl
    unfold S_X3
    simp only [r0, r6]
    exact ⟨g40, q43, q44⟩
  exact J_vretN E42 hr dX3_init_24 ⟨o41, S45⟩
abbrev rm_X7_init : Room := { frames := 4, cells := 167, slots := 2242, locals := 74 }
set_option maxHeartbeats 4000000 in
set_option maxRecDepth 100000 in
theorem ct_X7_init (l : Launch) (D : va_G) (dA : Nat → ClassId) (h0 : Nat) : CtN l yX7_init cX7_init 2 rm_X7_init D dA h0 (.inl (7, [f0, f0, f0, fq I0 I1, f0, f0, f0, fl, fl, fi I0 I1, fi I0 I1, fi I0 I1])) [] 167 2242 (PoN (fun G => S_X7 G h0)) := by
  refine CtN.of RX7 [(0, .ref h0)] (Nat.le_of_ble_eq_true rfl) rfl (by decide) rfl rfl ?_
  intro p e s m args below meth c E hr hin
  have hA0 : ∀ q, s.heap.size ≤ q → An h0 s.heap.size q := fun q h => Or.inr h
  have hG0 : one h0 (.inl (7, [f0, f0, f0, fq I0 I1, f0, f0, f0, fl, fl, fi I0 I1, fi I0 I1, fi I0 I1])) h0 = some (.inl (7, [f0, f0, f0, fq I0 I1, f0, f0, f0, fl, fl, fi I0 I1, fi I0 I1, fi I0 I1])) := one_s
  have hO : Oz (one h0 (.inl (7, [f0, f0, f0, fq I0 I1, f0, f0, f0, fl, fl, fi I0 I1, fi I0 I1, fi I0 I1]))) vz wz [] := Oz.oneN (zr.obj (by decide)) rfl
  refine J_aload_n E dX7_init_0 0 rfl ?_
  refine J_objInit E wd135 wd136 wd137 ⟨Nat.le_of_ble_eq_true rfl, Nat.le_of_ble_eq_true rfl⟩ dX7_init_1 ?_
  refine J_aload_n E dX7_init_4 0 rfl ?_
  refine N_new (ci := 6) E hO in_X6 tyX6 tyX6_ok wd138 wd139 wd116 rfl [fi 0 7, f0, f0, fi 0 7, f0, f0, f0, f0, fi 0 8, f0, f0, f0] (by decide) (nfs_X6 _ _) hA0 ⟨Nat.le_of_ble_eq_true rfl, Nat.le_of_ble_eq_true rfl⟩ dX7_init_5 (fun a1 G2 v3 w4 f5 s6 o7 z8 n9 k10 E11 => ?_)
  refine J_dup E11 dX7_init_8 rfl ?_
  refine N_callIN E11 o7 cali_X6 wd140 [] [.ref a1, .ref h0] (fun G => S_X6 G a1) (fun h q => q.lf h) (ct_X6_init l D dA a1) (fun G q => by rw [q.1]; rfl) s6 z8 hA0 rfl rfl (Nat.le_of_ble_eq_true rfl) ⟨rfl, rfl⟩ ⟨Nat.le_of_ble_eq_true rfl, Nat.le_of_ble_eq_true rfl⟩ ⟨Nat.le_of_ble_eq_true rfl, Nat.le_of_ble_eq_true rfl⟩ dX7_init_9 (fun G12 v13 w14 b15 S16 o17 k18 E19 => ?_)
  have f20 := f5.but n9 b15
  have g21 := f20 _ _ hG0
  refine N_finR E19 o17 in_X7 rfl g21 0 (by decide) wd308 tyX7 tyX7_ok nmX7 rfl hin rfl [fr a1, f0, f0, fq I0 I1, f0, f0, f0, fl, fl, fi I0 I1, fi I0 I1, fi I0 I1] rfl (Nat.le_of_ble_eq_true rfl) (.object RX6) (by decide +kernel) rfl rfl dX7_init_12 (fun G22 l23 g24 o25 E26 => ?_)
  have q27 := S16.lt l23 rfl rfl rfl rfl rfl rfl rfl
  refine J_aload_n E26 dX7_init_15 0 rfl ?_
  refine N_new (ci := 3) E26 o25 in_X3 tyX3 tyX3_ok wd244 wd245 wd119 rfl [f0, fq 0 150, fi 0 150, fi I0 I1, fi 0 150, fi I0 I1, f0] (by decide) (nfs_X3 _ _) hA0 ⟨Nat.le_of_ble_eq_true rfl, Nat.le_of_ble_eq_true rfl⟩ dX7_init_16 (fun a28 G29 v30 w31 f32 s33 o34 z35 n36 k37 E38 => ?_)
  refine J_dup E38 dX7_init_19 rfl ?_
  refine N_callIN E38 o34 cali_X3 wd246 [] [.ref a28, .ref h0] (fun G => S_X3 G a28) (fun h q => q.lf h) (ct_X3_init l D dA a28) (fun G q => by rw [q.1]; rfl) s33 z35 hA0 rfl rfl (Nat.le_of_ble_eq_true rfl) ⟨rfl, rfl⟩ ⟨Nat.le_of_ble_eq_true rfl, Nat.le_of_ble_eq_true rfl⟩ ⟨Nat.le_of_ble_eq_true rfl, Nat.le_of_ble_eq_true rfl⟩ dX7_init_20 (fun G39 v40 w41 b42 S43 o44 k45 E46 => ?_)
  have f47 := f32.but n36 b42
  have q48 := q27.lf f47
  have g49 := f47 _ _ g24
  refine N_finR E46 o44 in_X7 rfl g49 1 (by decide) wd309 tyX7 tyX7_ok nmX7 rfl hin rfl [fr a1, fr a28, f0, fq I0 I1, f0, f0, f0, fl, fl, fi I0 I1, fi I0 I1, fi I0 I1] rfl (Nat.le_of_ble_eq_true rfl) (.object RX3) (by decide +kernel) rfl rfl dX7_init_23 (fun G50 l51 g52 o53 E54 => ?_)
  have q55 := q48.lt l51 rfl rfl rfl rfl rfl rfl rfl
  have q56 := S43.lt l51 rfl rfl rfl rfl rfl rfl rfl rfl rfl
  refine J_aload_n E54 dX7_init_26 0 rfl ?_
  refine J_iconst E54 (2) dX7_init_27 (by decide) ?_
  refine N_anew3 E54 o53 2 wd138 wd276 (by decide) (by decide) (by decide) hA0 ⟨Nat.le_of_ble_eq_true rfl, Nat.le_of_ble_eq_true rfl⟩ dX7_init_28 (fun a57 G58 v59 w60 f61 s62 o63 E64 => ?_)
  have q65 := q55.lf f61
  have q66 := q56.lf f61
  have g67 := f61 _ _ g52
  refine N_finR E64 o63 in_X7 rfl g67 2 (by decide) wd310 tyX7 tyX7_ok nmX7 rfl hin rfl [fr a1, fr a28, fr a57, fq I0 I1, f0, f0, f0, fl, fl, fi I0 I1, fi I0 I1, fi I0 I1] rfl (Nat.le_of_ble_eq_true rfl) (.array (.object RX6)) (by decide +kernel) rfl rfl dX7_init_31 (fun G68 l69 g70 o71 E72 => ?_)
  have q73 := q65.lt l69 rfl rfl rfl rfl rfl rfl rfl
  have q74 := q66.lt l69 rfl rfl rfl rfl rfl rfl rfl rfl rfl
  have q75 := l69 _ _ s62 rfl
  refine J_aload_n E72 dX7_init_34 0 rfl ?_
  refine N_new (ci := 1) E72 o71 in_X1 tyX1 tyX1_ok wd277 wd278 wd120 rfl [f0, f0, fi 0 7] (by decide) (nfs_X1 _ _) hA0 ⟨Nat.le_of_ble_eq_true rfl, Nat.le_of_ble_eq_true rfl⟩ dX7_init_35 (fun a76 G77 v78 w79 f80 s81 o82 z83 n84 k85 E86 => ?_)
  refine J_dup E86 dX7_init_38 rfl ?_
  refine N_callIN E86 o82 cali_X1 wd279 [] [.ref a76, .ref h0] (fun G => S_X1 G a76) (fun h q => q.lf h) (ct_X1_init l D dA a76) (fun G q => by rw [q.1]; rfl) s81 z83 hA0 rfl rfl (Nat.le_of_ble_eq_true rfl) ⟨rfl, rfl⟩ ⟨Nat.le_of_ble_eq_true rfl, Nat.le_of_ble_eq_true rfl⟩ ⟨Nat.le_of_ble_eq_true rfl, Nat.le_of_ble_eq_true rfl⟩ dX7_init_39 (fun G87 v88 w89 b90 S91 o92 k93 E94 => ?_)
  have f95 := f80.but n84 b90
  have q96 := q73.lf f95
  have q97 := q74.lf f95
  have q98 := f95 _ _ q75
  have g99 := f95 _ _ g70
  refine N_finR E94 o92 in_X7 rfl g99 4 (by decide) wd312 tyX7 tyX7_ok nmX7 rfl hin rfl [fr a1, fr a28, fr a57, fq I0 I1, fr a76, f0, f0, fl, fl, fi I0 I1, fi I0 I1, fi I0 I1] rfl (Nat.le_of_ble_eq_true rfl) (.object RX1) (by decide +kernel) rfl rfl dX7_init_42 (fun G100 l101 g102 o103 E104 => ?_)
  have q105 := q96.lt l101 rfl rfl rfl rfl rfl rfl rfl
  have q106 := q97.lt l101 rfl rfl rfl rfl rfl rfl rfl rfl rfl
  have q107 := l101 _ _ q98 rfl
  have q108 := S91.lt l101 rfl rfl rfl
  refine J_aload_n E104 dX7_init_45 0 rfl ?_
  refine N_new (ci := 0) E104 o103 in_X0 tyX0 tyX0_ok wd293 wd294 wd121 rfl [f0, fi 0 9] (by decide) (nfs_X0 _ _) hA0 ⟨Nat.le_of_ble_eq_true rfl, Nat.le_of_ble_eq_true rfl⟩ dX7_init_46 (fun a109 G110 v111 w112 f113 s114 o115 z116 n117 k118 E119 => ?_)
  refine J_dup E119 dX7_init_49 rfl ?_
  refine N_callIN E119 o115 cali_X0 wd295 [] [.ref a109, .ref h0] (fun G => S_X0 G a109) (fun h q => q.lf h) (ct_X0_init l D dA a109) (fun G q => by rw [q.1]; rfl) s114 z116 hA0 rfl rfl (Nat.le_of_ble_eq_true rfl) ⟨rfl, rfl⟩ ⟨Nat.le_of_ble_eq_true rfl, Nat.le_of_ble_eq_true rfl⟩ ⟨Nat.le_of_ble_eq_true rfl, Nat.le_of_ble_eq_true rfl⟩ dX7_init_50 (fun G120 v121 w122 b123 S124 o125 k126 E127 => ?_)
  have f128 := f113.but n117 b123
  have q129 := q105.lf f128
  have q130 := q106.lf f128
  have q131 := f128 _ _ q107
  have q132 := q108.lf f128
  have g133 := f128 _ _ g102
  refine N_finR E127 o125 in_X7 rfl g133 5 (by decide) wd313 tyX7 tyX7_ok nmX7 rfl hin rfl [fr a1, fr a28, fr a57, fq I0 I1, fr a76, fr a109, f0, fl, fl, fi I0 I1, fi I0 I1, fi I0 I1] rfl (Nat.le_of_ble_eq_true rfl) (.object RX0) (by decide +kernel) rfl rfl dX7_init_53 (fun G134 l135 g136 o137 E138 => ?_)
  have q139 := q129.lt l135 rfl rfl rfl rfl rfl rfl rfl
  have q140 := q130.lt l135 rfl rfl rfl rfl rfl rfl rfl rfl rfl
  have q141 := l135 _ _ q131 rfl
  have q142 := q132.lt l135 rfl rfl rfl
  have q143 := S124.lt l135 rfl rfl
  refine J_aload_n E138 dX7_init_56 0 rfl ?_
  refine N_new (ci := 2) E138 o137 in_X2 tyX2 tyX2_ok wd306 wd145 wd117 rfl [f0, f0, fi I0 I1, fi I0 I1] (by decide) (nfs_X2 _ _) hA0 ⟨Nat.le_of_ble_eq_true rfl, Nat.le_of_ble_eq_true rfl⟩ dX7_init_57 (fun a144 G145 v146 w147 f148 s149 o150 z151 n152 k153 E154 => ?_)
  refine J_dup E154 dX7_init_60 rfl ?_
  refine N_callIN E154 o150 cali_X2 wd307 [] [.ref a144, .ref h0] (fun G => S_X2 G a144) (fun h q => q.lf h) (ct_X2_init l D dA a144) (fun G q => by rw [q.1]; rfl) s149 z151 hA0 rfl rfl (Nat.le_of_ble_eq_true rfl) ⟨rfl, rfl⟩ ⟨Nat.le_of_ble_eq_true rfl, Nat.le_of_ble_eq_true rfl⟩ ⟨Nat.le_of_ble_eq_true rfl, Nat.le_of_ble_eq_true rfl⟩ dX7_init_61 (fun G155 v156 w157 b158 S159 o160 k161 E162 => ?_)
  have f163 := f148.but n152 b158
  have q164 := q139.lf f163
  have q165 := q140.lf f163
  have q166 := f163 _ _ q141
  have q167 := q142.lf f163
  have q168 := q143.lf f163
  have g169 := f163 _ _ g136
  refine N_finR E162 o160 in_X7 rfl g169 6 (by decide) wd314 tyX7 tyX7_ok nmX7 rfl hin rfl [fr a1, fr a28, fr a57, fq I0 I1, fr a76, fr a109, fr a144, fl, fl, fi I0 I1, fi I0 I1, fi I0 I1] rfl (Nat.le_of_ble_eq_true rfl) (.object RX2) (by decide +kernel) rfl rfl dX7_init_64 (fun G170 l171 g172 o173 E174 => ?_)
  have q175 := q164.lt l171 rfl rfl rfl rfl rfl rfl rfl
  have q176 := q165.lt l171 rfl rfl rfl rfl rfl rfl rfl rfl rfl
  have q177 := l171 _ _ q166 rfl
  have q178 := q167.lt l171 rfl rfl rfl
  have q179 := q168.lt l171 rfl rfl
  have q180 := S159.lt l171 rfl rfl
  refine J_aload_n E174 dX7_init_67 0 rfl ?_
  refine J_lconst E174 1 dX7_init_68 (by decide) ?_
  refine J_pL E174 in_X7 rfl g172 8 (by decide) wd316 tyX7 tyX7_ok nmX7 rfl rfl .long (by decide +kernel) rfl rfl dX7_init_69 (fun w181 e182 => ?_)
  have o183 : Oz G170 v156 w181 [a57] := by rw [e182]; exact o173.stw
  refine J_iconst E174 (0) dX7_init_72 (by decide) ?_
  refine J_istore_n E174 [(1, .int 0), (0, .ref h0)] dX7_init_73 rfl (by decide) rfl ?_
  refine J_iload_n E174 dX7_init_74 0 rfl ?_
  refine J_iconst E174 (2) dX7_init_75 (by decide) ?_
  refine J_icmp_ge E174 98 dX7_init_76 (by decide) (fun c => absurd c (by decide)) (fun _ => ?_)
  refine J_aload_n E174 dX7_init_79 1 rfl ?_
  refine J_getR E174 in_X7 rfl g172 2 (by decide) wd310 rfl dX7_init_80 ?_
  refine J_iload_n E174 dX7_init_83 0 rfl ?_
  refine N_new (ci := 6) E174 o183 in_X6 tyX6 tyX6_ok wd138 wd139 wd116 rfl [fi 0 7, f0, f0, fi 0 7, f0, f0, f0, f0, fi 0 8, f0, f0, f0] (by decide) (nfs_X6 _ _) hA0 ⟨Nat.le_of_ble_eq_true rfl, Nat.le_of_ble_eq_true rfl⟩ dX7_init_84 (fun a184 G185 v186 w187 f188 s189 o190 z191 n192 k193 E194 => ?_)
  refine J_dup E194 dX7_init_87 rfl ?_
  refine N_callIN E194 o190 cali_X6 wd140 [] [.ref a184, .int 0, .ref a57] (fun G => S_X6 G a184) (fun h q => q.lf h) (ct_X6_init l D dA a184) (fun G q => by rw [q.1]; rfl) s189 z191 hA0 rfl rfl (Nat.le_of_ble_eq_true rfl) ⟨rfl, rfl⟩ ⟨Nat.le_of_ble_eq_true rfl, Nat.le_of_ble_eq_true rfl⟩ ⟨Nat.le_of_ble_eq_true rfl, Nat.le_of_ble_eq_true rfl⟩ dX7_init_88 (fun G195 v196 w197 b198 S199 o200 k201 E202 => ?_)
  have f203 := f188.but n192 b198
  have q204 := q175.lf f203
  have q205 := q176.lf f203
  have q206 := f203 _ _ q177
  have q207 := q178.lf f203
  have q208 := q179.lf f203
  have q209 := q180.lf f203
  have g210 := f203 _ _ g172
  refine J_aast3 E202 q206 S199.1 (Bd.in (Bd.lit 0 0 (by decide)) (by decide)) dX7_init_91 ?_
  rw [show Int32.toNatClampNeg (0 : Int32) = 0 from by decide]
  generalize e212 : stu w197 a57 0 (some a184) = w211
  have o213 : Oz G195 v196 w211 [a57] := by rw [← e212]; exact o200.stu List.mem_cons_self
  have u214 : w211.2 a57 0 = some a184 := by rw [← e212]; exact stu_s
  refine J_iinc E202 0 1 (fun z => [(1, .int z), (0, .ref h0)]) dX7_init_92 rfl (by decide) (by decide) (fun _ => rfl) (fun z215 e216 => ?_)
  have e216b : z215 = 1 := by rw [e216]; decide
  subst e216b
  refine J_goto E202 74 dX7_init_95 (by decide) ?_
  refine J_iload_n E202 dX7_init_74 0 rfl ?_
  refine J_iconst E202 (2) dX7_init_75 (by decide) ?_
  refine J_icmp_ge E202 98 dX7_init_76 (by decide) (fun c => absurd c (by decide)) (fun _ => ?_)
  refine J_aload_n E202 dX7_init_79 1 rfl ?_
  refine J_getR E202 in_X7 rfl g210 2 (by decide) wd310 rfl dX7_init_80 ?_
  refine J_iload_n E202 dX7_init_83 0 rfl ?_
  refine N_new (ci := 6) E202 o213 in_X6 tyX6 tyX6_ok wd138 wd139 wd116 rfl [fi 0 7, f0, f0, fi 0 7, f0, f0, f0, f0, fi 0 8, f0, f0, f0] (by decide) (nfs_X6 _ _) hA0 ⟨Nat.le_of_ble_eq_true rfl, Nat.le_of_ble_eq_true rfl⟩ dX7_init_84 (fun a217 G218 v219 w220 f221 s222 o223 z224 n225 k226 E227 => ?_)
  refine J_dup E227 dX7_init_87 rfl ?_
  refine N_callIN E227 o223 cali_X6 wd140 [] [.ref a217, .int 1, .ref a57] (fun G => S_X6 G a217) (fun h q => q.lf h) (ct_X6_init l D dA a217) (fun G q => by rw [q.1]; rfl) s222 z224 hA0 rfl rfl (Nat.le_of_ble_eq_true rfl) ⟨rfl, rfl⟩ ⟨Nat.le_of_ble_eq_true rfl, Nat.le_of_ble_eq_true rfl⟩ ⟨Nat.le_of_ble_eq_true rfl, Nat.le_of_ble_eq_true rfl⟩ dX7_init_88 (fun G228 v229 w230 b231 S232 o233 k234 E235 => ?_)
  have f236 := f221.but n225 b231
  have u237 := (k234 a57 0 (fun q => by rw [q, n225] at q206; cases q206) (by rw [f221 _ _ q206]; rfl)).trans ((k226 a57 0 (by rw [q206]; rfl)).trans u214)
  have q238 := q204.lf f236
  have q239 := q205.lf f236
  have q240 := f236 _ _ q206
  have q241 := q207.lf f236
  have q242 := q208.lf f236
  have q243 := q209.lf f236
  have q244 := S199.lf f236
  have g245 := f236 _ _ g210
  refine J_aast3 E235 q240 S232.1 (Bd.in (Bd.lit 1 1 (by decide)) (by decide)) dX7_init_91 ?_
  rw [show Int32.toNatClampNeg (1 : Int32) = 1 from by decide]
  generalize e247 : stu w230 a57 1 (some a217) = w246
  have o248 : Oz G228 v229 w246 [a57] := by rw [← e247]; exact o233.stu List.mem_cons_self
  have u250 : w246.2 a57 0 = some a184 := by rw [← e247]; exact (stu_k (by decide)).trans u237
  have u249 : w246.2 a57 1 = some a217 := by rw [← e247]; exact stu_s
  refine J_iinc E235 0 1 (fun z => [(1, .int z), (0, .ref h0)]) dX7_init_92 rfl (by decide) (by decide) (fun _ => rfl) (fun z251 e252 => ?_)
  have e252b : z251 = 2 := by rw [e252]; decide
  subst e252b
  refine J_goto E235 74 dX7_init_95 (by decide) ?_
  refine J_iload_n E235 dX7_init_74 0 rfl ?_
  refine J_iconst E235 (2) dX7_init_75 (by decide) ?_
  refine J_icmp_ge E235 98 dX7_init_76 (by decide) (fun _ => ?_) (fun c => absurd c (by decide))
  have h253 : ∀ j, j < 2 → ∃ b, b ∈ [a184, a217] ∧ w246.2 a57 j = some b := fun j hj => by
    match j, hj with
    | 0, _ => exact ⟨a184, by simp, u250⟩
    | 1, _ => exact ⟨a217, by simp, u249⟩
    | (n + 2), h => exact absurd h (by omega)
  refine J.full E235 o248 q240 h253 (fun G254 l255 g256 o257 E258 => ?_)
  have q259 := q238.lt l255 rfl rfl rfl rfl rfl rfl rfl
  have q260 := q239.lt l255 rfl rfl rfl rfl rfl rfl rfl rfl rfl
  have q261 := q241.lt l255 rfl rfl rfl
  have q262 := q242.lt l255 rfl rfl
  have q263 := q243.lt l255 rfl rfl
  have q264 := q244.lt l255 rfl rfl rfl rfl rfl rfl rfl
  have q265 := S232.lt l255 rfl rfl rfl rfl rfl rfl rfl
  have gz := l255 _ _ g245 rfl
  have S266 : S_X7 G254 h0 := by
    have r0 : rf G254 h0 0 = a1 := rf_at gz rfl
    have r1 : rf G254 h0 1 = a28 := rf_at gz rfl
    have r2 : rf G254 h0 2 = a57 := rf_at gz rfl
    have r4 : rf G254 h0 4 = a76 := rf_at gz rfl
    have r5 : rf G254 h0 5 = a109 := rf_at gz rfl
    have r6 : rf G254 h0 6 = a144 := rf_at gz rfl
    have e2 : rl G254 a57 = [a184, a217] := rl_at g256
    have m267 : ∀ b ∈ [a184, a217], S_X6 G254 b := by
      intro b hb
      simp only [List.mem_cons, List.not_mem_nil, or_false] at hb
      rcases hb with rfl | rfl
      · exact q264
      · exact q265
    unfold S_X7
    simp only [r0, r1, r2, r4, r5, r6, e2]
    exact ⟨gz, q259, q260, ⟨g256, m267⟩, q261, q262, q263⟩
  exact J_vretN E258 hr dX7_init_98 ⟨o257, S266⟩
abbrev rm_X8_init : Room := { frames := 1, cells := 8, slots := 3210, locals := 22 }
set_option maxHeartbeats 4000000 in
set_option maxRecDepth 100000 in
theorem ct_X8_init (l : Launch) (D : va_G) (dA : Nat → ClassId) (h0 : Nat) : CtN l yX8_init cX8_init 1 rm_X8_init D dA h0 (.inl (8, [f0, f0, f0, f0, f0, fq 0 150, fi 0 150, fi 0 150, fi I0 I1, fi 0 999, fi 0 1, fi I0 I1, f0, f0, f0, fl, fl])) [] 8 3210 (PoN (fun G => S_X8 G h0)) := by
  refine CtN.of RX8 [(0, .ref h0)] (Nat.le_of_ble_eq_true rfl) rfl (by decide) rfl rfl ?_
  intro p e s m args below meth c E hr hin
  have hA0 : ∀ q, s.heap.size ≤ q → An h0 s.heap.size q := fun q h => Or.inr h
  have hG0 : one h0 (.inl (8, [f0, f0, f0, f0, f0, fq 0 150, fi 0 150, fi 0 150, fi I0 I1, fi 0 999, fi 0 1, fi I0 I1, f0, f0, f0, fl, fl])) h0 = some (.inl (8, [f0, f0, f0, f0, f0, fq 0 150, fi 0 150, fi 0 150, fi I0 I1, fi 0 999, fi 0 1, fi I0 I1, f0, f0, f0, fl, fl])) := one_s
  have hO : Oz (one h0 (.inl (8, [f0, f0, f0, f0, f0, fq 0 150, fi 0 150, fi 0 150, fi I0 I1, fi 0 999, fi 0 1, fi I0 I1, f0, f0, f0, fl, fl]))) vz wz [] := Oz.oneN (zr.obj (by decide)) rfl
  refine J_aload_n E dX8_init_0 0 rfl ?_
  refine J_objInit E wd930 wd136 wd137 ⟨Nat.le_of_ble_eq_true rfl, Nat.le_of_ble_eq_true rfl⟩ dX8_init_1 ?_
  refine J_aload_n E dX8_init_4 0 rfl ?_
  refine J_iconst E (3) dX8_init_5 (by decide) ?_
  refine N_arr_int E hO 3 gany z_any wd171 (by decide) (by decide) (by decide) hA0 ⟨Nat.le_of_ble_eq_true rfl, Nat.le_of_ble_eq_true rfl⟩ dX8_init_6 (fun a1 G2 v3 w4 f5 s6 o7 E8 => ?_)
  have g9 := f5 _ _ hG0
  refine N_finR E8 o7 in_X8 rfl g9 0 (by decide) wd935 tyX8 tyX8_ok nmX8 rfl hin rfl [fr a1, f0, f0, f0, f0, fq 0 150, fi 0 150, fi 0 150, fi I0 I1, fi 0 999, fi 0 1, fi I0 I1, f0, f0, f0, fl, fl] rfl (Nat.le_of_ble_eq_true rfl) (.array .int) (by decide +kernel) rfl rfl dX8_init_8 (fun G10 l11 g12 o13 E14 => ?_)
  have q15 := l11 _ _ s6 rfl
  refine J_aload_n E14 dX8_init_11 0 rfl ?_
  refine J_sipush E14 (984) dX8_init_12 (by decide) ?_
  refine N_arr_int E14 o13 984 gall z_all wd171 (by decide) (by decide) (by decide) hA0 ⟨Nat.le_of_ble_eq_true rfl, Nat.le_of_ble_eq_true rfl⟩ dX8_init_15 (fun a16 G17 v18 w19 f20 s21 o22 E23 => ?_)
  have q24 := f20 _ _ q15
  have g25 := f20 _ _ g12
  refine N_finR E23 o22 in_X8 rfl g25 1 (by decide) wd936 tyX8 tyX8_ok nmX8 rfl hin rfl [fr a1, fr a16, f0, f0, f0, fq 0 150, fi 0 150, fi 0 150, fi I0 I1, fi 0 999, fi 0 1, fi I0 I1, f0, f0, f0, fl, fl] rfl (Nat.le_of_ble_eq_true rfl) (.array .int) (by decide +kernel) rfl rfl dX8_init_17 (fun G26 l27 g28 o29 E30 => ?_)
  have q31 := l27 _ _ q24 rfl
  have q32 := l27 _ _ s21 rfl
  refine J_aload_n E30 dX8_init_20 0 rfl ?_
  refine J_iconst E30 (2) dX8_init_21 (by decide) ?_
  refine N_arr_boolean E30 o29 2 gkept z_kept wd987 (by decide) (by decide) (by decide) hA0 ⟨Nat.le_of_ble_eq_true rfl, Nat.le_of_ble_eq_true rfl⟩ dX8_init_22 (fun a33 G34 v35 w36 f37 s38 o39 E40 => ?_)
  have q41 := f37 _ _ q31
  have q42 := f37 _ _ q32
  have g43 := f37 _ _ g28
  refine N_finR E40 o39 in_X8 rfl g43 2 (by decide) wd937 tyX8 tyX8_ok nmX8 rfl hin rfl [fr a1, fr a16, fr a33, f0, f0, fq 0 150, fi 0 150, fi 0 150, fi I0 I1, fi 0 999, fi 0 1, fi I0 I1, f0, f0, f0, fl, fl] rfl (Nat.le_of_ble_eq_true rfl) (.array .boolean) (by decide +kernel) rfl rfl dX8_init_24 (fun G44 l45 g46 o47 E48 => ?_)
  have q49 := l45 _ _ q41 rfl
  have q50 := l45 _ _ q42 rfl
  have q51 := l45 _ _ s38 rfl
  refine J_aload_n E48 dX8_init_27 0 rfl ?_
  refine J_bipush E48 (16) dX8_init_28 (by decide) ?_
  refine N_arr_int E48 o47 16 gst z_st wd171 (by decide) (by decide) (by decide) hA0 ⟨Nat.le_of_ble_eq_true rfl, Nat.le_of_ble_eq_true rfl⟩ dX8_init_30 (fun a52 G53 v54 w55 f56 s57 o58 E59 => ?_)
  have q60 := f56 _ _ q49
  have q61 := f56 _ _ q50
  have q62 := f56 _ _ q51
  have g63 := f56 _ _ g46
  refine N_finR E59 o58 in_X8 rfl g63 3 (by decide) wd938 tyX8 tyX8_ok nmX8 rfl hin rfl [fr a1, fr a16, fr a33, fr a52, f0, fq 0 150, fi 0 150, fi 0 150, fi I0 I1, fi 0 999, fi 0 1, fi I0 I1, f0, f0, f0, fl, fl] rfl (Nat.le_of_ble_eq_true rfl) (.array .int) (by decide +kernel) rfl rfl dX8_init_32 (fun G64 l65 g66 o67 E68 => ?_)
  have q69 := l65 _ _ q60 rfl
  have q70 := l65 _ _ q61 rfl
  have q71 := l65 _ _ q62 rfl
  have q72 := l65 _ _ s57 rfl
  refine J_aload_n E68 dX8_init_35 0 rfl ?_
  refine J_sipush E68 (150) dX8_init_36 (by decide) ?_
  refine N_arr_byte E68 o67 150 gbyte z_byte wd579 (by decide) (by decide) (by decide) hA0 ⟨Nat.le_of_ble_eq_true rfl, Nat.le_of_ble_eq_true rfl⟩ dX8_init_39 (fun a73 G74 v75 w76 f77 s78 o79 E80 => ?_)
  have q81 := f77 _ _ q69
  have q82 := f77 _ _ q70
  have q83 := f77 _ _ q71
  have q84 := f77 _ _ q72
  have g85 := f77 _ _ g66
  refine N_finR E80 o79 in_X8 rfl g85 4 (by decide) wd939 tyX8 tyX8_ok nmX8 rfl hin rfl [fr a1, fr a16, fr a33, fr a52, fr a73, fq 0 150, fi 0 150, fi 0 150, fi I0 I1, fi 0 999, fi 0 1, fi I0 I1, f0, f0, f0, fl, fl] rfl (Nat.le_of_ble_eq_true rfl) (.array .byte) (by decide +kernel) rfl rfl dX8_init_41 (fun G86 l87 g88 o89 E90 => ?_)
  have q91 := l87 _ _ q81 rfl
  have q92 := l87 _ _ q82 rfl
  have q93 := l87 _ _ q83 rfl
  have q94 := l87 _ _ q84 rfl
  have q95 := l87 _ _ s78 rfl
  refine J_aload_n E90 dX8_init_44 0 rfl ?_
  refine J_sipush E90 (1024) dX8_init_45 (by decide) ?_
  refine N_arr_int E90 o89 1024 gany z_any wd171 (by decide) (by decide) (by decide) hA0 ⟨Nat.le_of_ble_eq_true rfl, Nat.le_of_ble_eq_true rfl⟩ dX8_init_48 (fun a96 G97 v98 w99 f100 s101 o102 E103 => ?_)
  have q104 := f100 _ _ q91
  have q105 := f100 _ _ q92
  have q106 := f100 _ _ q93
  have q107 := f100 _ _ q94
  have q108 := f100 _ _ q95
  have g109 := f100 _ _ g88
  refine N_finR E103 o102 in_X8 rfl g109 12 (by decide) wd947 tyX8 tyX8_ok nmX8 rfl hin rfl [fr a1, fr a16, fr a33, fr a52, fr a73, fq 0 150, fi 0 150, fi 0 150, fi I0 I1, fi 0 999, fi 0 1, fi I0 I1, fr a96, f0, f0, fl, fl] rfl (Nat.le_of_ble_eq_true rfl) (.array .int) (by decide +kernel) rfl rfl dX8_init_50 (fun G110 l111 g112 o113 E114 => ?_)
  have q115 := l111 _ _ q104 rfl
  have q116 := l111 _ _ q105 rfl
  have q117 := l111 _ _ q106 rfl
  have q118 := l111 _ _ q107 rfl
  have q119 := l111 _ _ q108 rfl
  have q120 := l111 _ _ s101 rfl
  refine J_aload_n E114 dX8_init_53 0 rfl ?_
  refine J_sipush E114 (1024) dX8_init_54 (by decide) ?_
  refine N_arr_int E114 o113 1024 gany z_any wd171 (by decide) (by decide) (by decide) hA0 ⟨Nat.le_of_ble_eq_true rfl, Nat.le_of_ble_eq_true rfl⟩ dX8_init_57 (fun a121 G122 v123 w124 f125 s126 o127 E128 => ?_)
  have q129 := f125 _ _ q115
  have q130 := f125 _ _ q116
  have q131 := f125 _ _ q117
  have q132 := f125 _ _ q118
  have q133 := f125 _ _ q119
  have q134 := f125 _ _ q120
  have g135 := f125 _ _ g112
  refine N_finR E128 o127 in_X8 rfl g135 13 (by decide) wd948 tyX8 tyX8_ok nmX8 rfl hin rfl [fr a1, fr a16, fr a33, fr a52, fr a73, fq 0 150, fi 0 150, fi 0 150, fi I0 I1, fi 0 999, fi 0 1, fi I0 I1, fr a96, fr a121, f0, fl, fl] rfl (Nat.le_of_ble_eq_true rfl) (.array .int) (by decide +kernel) rfl rfl dX8_init_59 (fun G136 l137 g138 o139 E140 => ?_)
  have q141 := l137 _ _ q129 rfl
  have q142 := l137 _ _ q130 rfl
  have q143 := l137 _ _ q131 rfl
  have q144 := l137 _ _ q132 rfl
  have q145 := l137 _ _ q133 rfl
  have q146 := l137 _ _ q134 rfl
  have q147 := l137 _ _ s126 rfl
  refine J_aload_n E140 dX8_init_62 0 rfl ?_
  refine J_bipush E140 (7) dX8_init_63 (by decide) ?_
  refine N_arr_int E140 o139 7 gany z_any wd171 (by decide) (by decide) (by decide) hA0 ⟨Nat.le_of_ble_eq_true rfl, Nat.le_of_ble_eq_true rfl⟩ dX8_init_65 (fun a148 G149 v150 w151 f152 s153 o154 E155 => ?_)
  have q156 := f152 _ _ q141
  have q157 := f152 _ _ q142
  have q158 := f152 _ _ q143
  have q159 := f152 _ _ q144
  have q160 := f152 _ _ q145
  have q161 := f152 _ _ q146
  have q162 := f152 _ _ q147
  have g163 := f152 _ _ g138
  refine N_finR E155 o154 in_X8 rfl g163 14 (by decide) wd949 tyX8 tyX8_ok nmX8 rfl hin rfl [fr a1, fr a16, fr a33, fr a52, fr a73, fq 0 150, fi 0 150, fi 0 150, fi I0 I1, fi 0 999, fi 0 1, fi I0 I1, fr a96, fr a121, fr a148, fl, fl] rfl (Nat.le_of_ble_eq_true rfl) (.array .int) (by decide +kernel) rfl rfl dX8_init_67 (fun G164 l165 g166 o167 E168 => ?_)
  have q169 := l165 _ _ q156 rfl
  have q170 := l165 _ _ q157 rfl
  have q171 := l165 _ _ q158 rfl
  have q172 := l165 _ _ q159 rfl
  have q173 := l165 _ _ q160 rfl
  have q174 := l165 _ _ q161 rfl
  have q175 := l165 _ _ q162 rfl
  have q176 := l165 _ _ s153 rfl
  refine J_aload_n E168 dX8_init_70 0 rfl ?_
  refine J_lconst E168 1 dX8_init_71 (by decide) ?_
  refine J_pL E168 in_X8 rfl g166 16 (by decide) wd951 tyX8 tyX8_ok nmX8 rfl rfl .long (by decide +kernel) rfl rfl dX8_init_72 (fun w177 e178 => ?_)
  have o179 : Oz G164 v150 w177 [] := by rw [e178]; exact o167.stw
  refine J_aload_n E168 dX8_init_75 0 rfl ?_
  refine J_iconst E168 (0) dX8_init_76 (by decide) ?_
  have S180 : S_X8 G164 h0 := by
    have r0 : rf G164 h0 0 = a1 := rf_at g166 rfl
    have r1 : rf G164 h0 1 = a16 := rf_at g166 rfl
    have r2 : rf G164 h0 2 = a33 := rf_at g166 rfl
    have r3 : rf G164 h0 3 = a52 := rf_at g166 rfl
    have r4 : rf G164 h0 4 = a73 := rf_at g166 rfl
    have r12 : rf G164 h0 12 = a96 := rf_at g166 rfl
    have r13 : rf G164 h0 13 = a121 := rf_at g166 rfl
    have r14 : rf G164 h0 14 = a148 := rf_at g166 rfl
    unfold S_X8
    simp only [r0, r1, r2, r3, r4, r12, r13, r14]
    exact ⟨g166, q169, q170, q171, q172, q173, q174, q175, q176⟩
  refine J_callVV E168 cal_X8_begin wd931 rfl g166 [.int 0] [] (ct_X8_begin_0 l D dA _ _ _ o179.ok h0 S180) rfl rfl (Nat.le_of_ble_eq_true rfl) ⟨rfl, rfl⟩ ⟨Nat.le_of_ble_eq_true rfl, Nat.le_of_ble_eq_true rfl⟩ dX8_init_77 (fun v181 w182 p183 => ?_)
  have o184 : Oz G164 v181 w182 [] := ⟨p183.1.1, fun a sh h k lo hi hr => (p183.2.1 a sh h k lo hi hr).trans (o179.2.1 a sh h k lo hi hr), fun a t n L _ h => p183.1.2 a t n L h⟩
  have S185 : S_X8 G164 h0 := by
    have r0 : rf G164 h0 0 = a1 := rf_at g166 rfl
    have r1 : rf G164 h0 1 = a16 := rf_at g166 rfl
    have r2 : rf G164 h0 2 = a33 := rf_at g166 rfl
    have r3 : rf G164 h0 3 = a52 := rf_at g166 rfl
    have r4 : rf G164 h0 4 = a73 := rf_at g166 rfl
    have r12 : rf G164 h0 12 = a96 := rf_at g166 rfl
    have r13 : rf G164 h0 13 = a121 := rf_at g166 rfl
    have r14 : rf G164 h0 14 = a148 := rf_at g166 rfl
    unfold S_X8
    simp only [r0, r1, r2, r3, r4, r12, r13, r14]
    exact ⟨g166, q169, q170, q171, q172, q173, q174, q175, q176⟩
  exact J_vretN E168 hr dX8_init_80 ⟨o184, S185⟩
