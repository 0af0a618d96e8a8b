/-! STRING CONSTANTS: people, thing, one, own, leave, years -/
def sLen : List Nat := [6, 5, 3, 3, 5, 5]
def sByt : List (List Int32) := [[112, 101, 111, 112, 108, 101], [116, 104, 105, 110, 103], [111, 110, 101], [111, 119, 110], [108, 101, 97, 118, 101], [121, 101, 97, 114, 115]]
def StX (A : Nat → Prop) (adK adV : Nat → Nat) (U : State) (H : Heap) : Prop := vk_S 6 sLen sByt adK adV A U H ∧ va_Z "java/lang/String" "COMPACT_STRINGS" "Z" (.int 1) A U H ∧ va_Zq "jdk/internal/util/Preconditions" "SIOOBE_FORMATTER" "Ljava/util/function/BiFunction;" A U H
def StR (adK : Nat → Nat) (U : State) : Prop := vk_R RX3 49 "people" (adK 0) U ∧ vk_R RX3 55 "thing" (adK 1) U ∧ vk_R RX3 60 "one" (adK 2) U ∧ vk_R RX3 65 "own" (adK 3) U ∧ vk_R RX3 70 "leave" (adK 4) U ∧ vk_R RX3 75 "years" (adK 5) U
theorem StX.to {A B : Nat → Prop} {adK adV : Nat → Nat} {s U : State} {H : Heap} {locs : List Loc} (h : StX A adK adV s s.heap) (hS : va_S A s.heap H locs) (hW : s.WarmedH U.vm) (hU : U.heap = H) (hAB : ∀ q, B q → A q) : StX B adK adV U U.heap := by
  rw [hU]
  exact ⟨((h.1.kept hS.2.1).narrow hAB).moved hW.alike, ((h.2.1.kept hS.2.1).narrow hAB).moved hW.alike, ((h.2.2.kept hS.2.1).narrow hAB).moved hW.alike⟩
theorem StR.to {adK : Nat → Nat} {s U : State} (h : StR adK s) (hW : s.WarmedH U.vm) : StR adK U := ⟨h.1.warm hW, h.2.1.warm hW, h.2.2.1.warm hW, h.2.2.2.1.warm hW, h.2.2.2.2.1.warm hW, h.2.2.2.2.2.warm hW⟩
abbrev PcS (D : va_G) (dA : Nat → ClassId) (G : Gm) (As : List Value) (v : Mv) (w : Mw) (adK adV : Nat → Nat) : Array Value → State → Prop := va_Pc As (fun U => Hp D dA G v w U.heap ∧ va_K D classes (tysA dA) U ∧ Tb U ∧ StX (dm G) adK adV U U.heap ∧ StR adK U)
def CtIS (l : Launch) (y : MethodName) (cc : ByteArray) (maxL : Nat) (ret : Option FieldType) (rm : Room) (D : va_G) (dA : Nat → ClassId) (G : Gm) (As : List Value) (v : Mv) (w : Mw) (adK adV : Nat → Nat) (post : Int32 → Mv → Mw → Prop) : Prop :=
  Met l y [Cond.code y cc maxL ret] rm (PcS D dA G As v w adK adV) (QcI D dA G post) 0 0 (dm G)
def CtVS (l : Launch) (y : MethodName) (cc : ByteArray) (maxL : Nat) (ret : Option FieldType) (rm : Room) (D : va_G) (dA : Nat → ClassId) (G : Gm) (As : List Value) (v : Mv) (w : Mw) (adK adV : Nat → Nat) (post : Mv → Mw → Prop) : Prop :=
  Met l y [Cond.code y cc maxL ret] rm (PcS D dA G As v w adK adV) (QcV D dA G post) 0 0 (dm G)
theorem PcS.blind {D : va_G} {dA : Nat → ClassId} {G : Gm} {As : List Value} {v : Mv} {w : Mw} {adK adV : Nat → Nat} : FrameBlind (PcS D dA G As v w adK adV) := by
  intro a U g mk q
  obtain ⟨q0, q1, q2, q3, q4, q5⟩ := q
  refine ⟨q0, q1, va_K.moved (u := U) (U := U.calling g mk a) (Vm.Alike.refl U.vm) q2, q3.call a g mk, ?_, q5.to (State.WarmedH.refl U)⟩
  exact StX.to (U := U.calling g mk a) (H := U.heap) (locs := []) q4 va_S.rf (State.WarmedH.refl U) rfl (fun _ h => h)
theorem CtIS.of {l : Launch} {y : MethodName} {cc : ByteArray} {maxL : Nat} {ret : Option FieldType} {rm : Room} {D : va_G} {dA : Nat → ClassId} {G : Gm} {As : List Value} {v : Mv} {w : Mw} {adK adV : Nat → Nat} {post : Int32 → Mv → Mw → Prop} (own : String) (lv : List (Nat × Value)) (hlen : (lg_sl As).length ≤ maxL) (hlv : lv_args 0 As = lv) (hy : plainName y.cls = true) (hyo : y.cls = own)
    (body : ∀ (p : Program) (e : Env) (s : State) (m : MethodId) (args : Array Value) (below : List Frame) (meth : Method) (c : Code), Cx p rm s m meth c 0 0 cc maxL own D dA G (dm G) → meth.sig.returnType = ret → StX (dm G) adK adV s s.heap → StR adK s → J p l e rm s m args below meth c 0 0 (MQ below (QcI D dA G post) args s 0 0 (dm G)) D dA G (dm G) s.heap maxL v w lv 0 []) : CtIS l y cc maxL ret rm D dA G As v w adK adV post := by
  refine Met.ofW (cc := cc) (maxL := maxL) (ret := ret) hy rfl ?_
  intro p e s m args below meth c s₁ B hml hv
  obtain ⟨rfl, hH, hK, hT, hX, hR⟩ := hv
  have hown : s.vm.findClass own = some m.cls := hyo ▸ findClass_of_methodNamed B.named
  have hl := lv_entry As (n := maxL) hlen
  rw [lg_entry_eq]
  generalize (lg_sl As ++ List.replicate (maxL - (lg_sl As).length) Slot.unset).toArray = ls at hl ⊢
  exact body p e s m _ below meth c ⟨B.exec, B.bytes, hml, hown, hT, hK, ⟨Nat.zero_le _, Nat.zero_le _⟩, fun _ h => h, B.notSynchronized⟩ B.returns hX hR s.heap [] ls hH va_S.rf (hlv ▸ hl)
theorem CtIS.ofF {l : Launch} {y : MethodName} {cc : ByteArray} {maxL : Nat} {ret : Option FieldType} {rm : Room} {D : va_G} {dA : Nat → ClassId} {G : Gm} {As : List Value} {v : Mv} {w : Mw} {adK adV : Nat → Nat} {post : Int32 → Mv → Mw → Prop} (own : String) (lv : List (Nat × Value)) (hlen : (lg_sl As).length ≤ maxL) (hlv : lv_args 0 As = lv) (hy : plainFor y = true) (hyo : y.cls = own)
    (body : ∀ (p : Program) (e : Env) (s : State) (m : MethodId) (args : Array Value) (below : List Frame) (meth : Method) (c : Code), Cx p rm s m meth c 0 0 cc maxL own D dA G (dm G) → meth.sig.returnType = ret → StX (dm G) adK adV s s.heap → StR adK s → J p l e rm s m args below meth c 0 0 (MQ below (QcI D dA G post) args s 0 0 (dm G)) D dA G (dm G) s.heap maxL v w lv 0 []) : CtIS l y cc maxL ret rm D dA G As v w adK adV post := by
  refine va_MetF (cc := cc) (maxL := maxL) (ret := ret) hy rfl ?_
  intro p e s m args below meth c s₁ B hml hv
  obtain ⟨rfl, hH, hK, hT, hX, hR⟩ := hv
  have hown : s.vm.findClass own = some m.cls := hyo ▸ findClass_of_methodNamed B.named
  have hl := lv_entry As (n := maxL) hlen
  rw [lg_entry_eq]
  generalize (lg_sl As ++ List.replicate (maxL - (lg_sl As).length) Slot.unset).toArray = ls at hl ⊢
  exact body p e s m _ below meth c ⟨B.exec, B.bytes, hml, hown, hT, hK, ⟨Nat.zero_le _, Nat.zero_le _⟩, fun _ h => h, B.notSynchronized⟩ B.returns hX hR s.heap [] ls hH va_S.rf (hlv ▸ hl)
theorem CtVS.of {l : Launch} {y : MethodName} {cc : ByteArray} {maxL : Nat} {ret : Option FieldType} {rm : Room} {D : va_G} {dA : Nat → ClassId} {G : Gm} {As : List Value} {v : Mv} {w : Mw} {adK adV : Nat → Nat} {post : Mv → Mw → Prop} (own : String) (lv : List (Nat × Value)) (hlen : (lg_sl As).length ≤ maxL) (hlv : lv_args 0 As = lv) (hy : plainName y.cls = true) (hyo : y.cls = own)
    (body : ∀ (p : Program) (e : Env) (s : State) (m : MethodId) (args : Array Value) (below : List Frame) (meth : Method) (c : Code), Cx p rm s m meth c 0 0 cc maxL own D dA G (dm G) → meth.sig.returnType = ret → StX (dm G) adK adV s s.heap → StR adK s → J p l e rm s m args below meth c 0 0 (MQ below (QcV D dA G post) args s 0 0 (dm G)) D dA G (dm G) s.heap maxL v w lv 0 []) : CtVS l y cc maxL ret rm D dA G As v w adK adV post := by
  refine Met.ofW (cc := cc) (maxL := maxL) (ret := ret) hy rfl ?_
  intro p e s m args below meth c s₁ B hml hv
  obtain ⟨rfl, hH, hK, hT, hX, hR⟩ := hv
  have hown : s.vm.findClass own = some m.cls := hyo ▸ findClass_of_methodNamed B.named
  have hl := lv_entry As (n := maxL) hlen
  rw [lg_entry_eq]
  generalize (lg_sl As ++ List.replicate (maxL - (lg_sl As).length) Slot.unset).toArray = ls at hl ⊢
  exact body p e s m _ below meth c ⟨B.exec, B.bytes, hml, hown, hT, hK, ⟨Nat.zero_le _, Nat.zero_le _⟩, fun _ h => h, B.notSynchronized⟩ B.returns hX hR s.heap [] ls hH va_S.rf (hlv ▸ hl)
theorem CtVS.ofF {l : Launch} {y : MethodName} {cc : ByteArray} {maxL : Nat} {ret : Option FieldType} {rm : Room} {D : va_G} {dA : Nat → ClassId} {G : Gm} {As : List Value} {v : Mv} {w : Mw} {adK adV : Nat → Nat} {post : Mv → Mw → Prop} (own : String) (lv : List (Nat × Value)) (hlen : (lg_sl As).length ≤ maxL) (hlv : lv_args 0 As = lv) (hy : plainFor y = true) (hyo : y.cls = own)
    (body : ∀ (p : Program) (e : Env) (s : State) (m : MethodId) (args : Array Value) (below : List Frame) (meth : Method) (c : Code), Cx p rm s m meth c 0 0 cc maxL own D dA G (dm G) → meth.sig.returnType = ret → StX (dm G) adK adV s s.heap → StR adK s → J p l e rm s m args below meth c 0 0 (MQ below (QcV D dA G post) args s 0 0 (dm G)) D dA G (dm G) s.heap maxL v w lv 0 []) : CtVS l y cc maxL ret rm D dA G As v w adK adV post := by
  refine va_MetF (cc := cc) (maxL := maxL) (ret := ret) hy rfl ?_
  intro p e s m args below meth c s₁ B hml hv
  obtain ⟨rfl, hH, hK, hT, hX, hR⟩ := hv
  have hown : s.vm.findClass own = some m.cls := hyo ▸ findClass_of_methodNamed B.named
  have hl := lv_entry As (n := maxL) hlen
  rw [lg_entry_eq]
  generalize (lg_sl As ++ List.replicate (maxL - (lg_sl As).length) Slot.unset).toArray = ls at hl ⊢
  exact body p e s m _ below meth c ⟨B.exec, B.bytes, hml, hown, hT, hK, ⟨Nat.zero_le _, Nat.zero_le _⟩, fun _ h => h, B.notSynchronized⟩ B.returns hX hR s.heap [] ls hH va_S.rf (hlv ▸ hl)
section STR
variable {p : Program} {l : Launch} {e : Env} {R : Room} {s : State} {m : MethodId} {args : Array Value} {below : List Frame} {meth : Method} {c : Code} {cells slots : Nat} {Q : State → Prop} {D : va_G} {dA : Nat → ClassId} {G : Gm} {A : Nat → Prop} {nL : Nat} {cc : ByteArray} {own : String} {v : Mv} {w : Mw} {lv lv' : List (Nat × Value)} {pc : Nat} {st : List Value} {adK adV : Nat → Nat}
theorem J_nret {post : Int32 → Mv → Mw → Prop} {x : Int32} {ty : FieldType} (E : Cx p R s m meth c cells slots cc nL own D dA G (dm G)) (hr : meth.sig.returnType = some ty) (hn : narrow ty (.int x) = .int x) (hd : decode cc pc = .ok (.ireturn, 1)) (hq : post x v w) : J p l e R s m args below meth c cells slots (MQ below (QcI D dA G post) args s cells slots (dm G)) D dA G (dm G) s.heap nL v w lv pc [.int x] :=
  fun H locs ls hH hS hl => W.zret E.1 E.2.1 hr hn (fun t ht hW => ⟨⟨x, (v, w), rfl, hq, by show Hp D dA G v w t.heap; rw [ht]; exact hH⟩, hS.F ht⟩) hS.2.2 hd E.2.2.2.2.2.2.2.2
theorem J_ldcS (E : Cx p R s m meth c cells slots cc nL own D dA G A) {index q : Nat} {tx : String} (hZ : vk_R own index tx q s) (hd : decode cc pc = .ok (.ldc index, 2)) (K : J p l e R s m args below meth c cells slots Q D dA G A s.heap nL v w lv (pc + 2) (.ref q :: st)) : J p l e R s m args below meth c cells slots Q D dA G A s.heap nL v w lv (pc) (st) := fun H locs ls hH hS hl => va_ldcS E.1 E.2.1 E.2.2.2.1 hZ hd (K H locs ls hH hS hl)
theorem J_gets (E : Cx p R s m meth c cells slots cc nL own D dA G A) {C n d : String} {x : Value} {index : Nat} (hZ : va_Z C n d x A s s.heap) (hl0 : Cond.fieldLink own index C n d ∈ lw_tbl) (hd : decode cc pc = .ok (.getstatic index, 3)) (K : J p l e R s m args below meth c cells slots Q D dA G A s.heap nL v w lv (pc + 3) (x :: st)) : J p l e R s m args below meth c cells slots Q D dA G A s.heap nL v w lv (pc) (st) := fun H locs ls hH hS hl => va_gets E.1 E.2.1 hZ hS E.2.2.2.1 (E.2.2.2.2.1.use hl0 rfl args) (fun _ h => h) hd (K H locs ls hH hS hl)
theorem J_sget (E : Cx p R s m meth c cells slots cc nL own D dA G A) {C n d : String} {x : Value} {index q : Nat} (hE : va_OF C n d x q A s s.heap) (hl0 : Cond.fieldLink own index C n d ∈ lw_tbl) (hd : decode cc pc = .ok (.getfield index, 3)) (K : J p l e R s m args below meth c cells slots Q D dA G A s.heap nL v w lv (pc + 3) (x :: st)) : J p l e R s m args below meth c cells slots Q D dA G A s.heap nL v w lv (pc) (.ref q :: st) := fun H locs ls hH hS hl => vk_getf E.1 E.2.1 hE hS E.2.2.2.1 (E.2.2.2.2.1.use hl0 rfl args) (fun _ h => h) hd (K H locs ls hH hS hl)
theorem J_tlen (E : Cx p R s m meth c cells slots cc nL own D dA G A) {t N : Nat} {f : Nat → Value} {x : Int32} (hT : va_T .byte t N f A s s.heap) (hx : Int32.ofNat N = x) (hd : decode cc pc = .ok (.arraylength, 1)) (K : J p l e R s m args below meth c cells slots Q D dA G A s.heap nL v w lv (pc + 1) (.int x :: st)) : J p l e R s m args below meth c cells slots Q D dA G A s.heap nL v w lv (pc) (.ref t :: st) := fun H locs ls hH hS hl => va_tlen E.1 E.2.1 hT hS hx hd (K H locs ls hH hS hl)
theorem J_tb (E : Cx p R s m meth c cells slots cc nL own D dA G A) {t N : Nat} {f : Nat → Int32} {i : Int32} (hT : va_T .byte t N (fun j => .int (f j)) A s s.heap) (hi : vp_in i N) (hd : decode cc pc = .ok (.baload, 1)) (K : J p l e R s m args below meth c cells slots Q D dA G A s.heap nL v w lv (pc + 1) (.int (f i.toNatClampNeg) :: st)) : J p l e R s m args below meth c cells slots Q D dA G A s.heap nL v w lv (pc) (.int i :: .ref t :: st) := fun H locs ls hH hS hl => va_tb E.1 E.2.1 hT hS hi rfl hd (K H locs ls hH hS hl)
variable {y : MethodName} {bytes : ByteArray} {maxL n index ci N : Nat} {ret : Option FieldType} {rm : Room} {As rest : List Value} {a : Nat} {fs : List Fk} {T : u_T} {host : String}
theorem J_csVI {post : Int32 → Mv → Mw → Prop} (E : Cx p R s m meth c cells slots cc nL own D dA G A) (hX : StX A adK adV s s.heap) (hR : StR adK s) (hc : CalV y bytes maxL ret n) (hl0 : Cond.methodLink own index y ∈ lw_tbl) (hrc : ∀ (H : Heap) (locs : List Loc), Hp D dA G v w H → va_S A s.heap H locs → ∃ cell : Cell, H[a]? = some cell ∧ cell.vm.isStatics = false ∧ s.vm.findClass y.cls = some cell.cls) (As : List Value) (rest : List Value) (hM : CtIS l y bytes maxL ret rm D dA G (.ref a :: As) v w adK adV post) (hn : As.length = n) (hst : st = As.reverse ++ .ref a :: rest) (hW0 : (rest.map fun v => v.category).sum ≤ 8) (hrm : rm.cells = 0 ∧ rm.slots = 0) (hRo : rm.frames + 1 ≤ R.frames ∧ 8 + (maxL + 11) + rm.locals ≤ R.locals) (hd : decode cc pc = .ok (.invokevirtual index, 3)) (K : ∀ (r : Int32) (v1 : Mv) (w1 : Mw), post r v1 w1 → J p l e R s m args below meth c cells slots Q D dA G A s.heap nL v1 w1 lv (pc + 3) (.int r :: rest)) : J p l e R s m args below meth c cells slots Q D dA G A s.heap nL v w lv (pc) (st) := by
  intro H locs ls hH hS hl
  obtain ⟨hcd, hini, hinst, hsel, hd1, hd2, hd3⟩ := hc
  obtain ⟨hx, hb, hml, hown, hT, hK, hro, hA, -⟩ := E
  subst hst
  have hpV : PreV s H y.cls a (PcS D dA G (.ref a :: As) v w adK adV) As := ⟨PcS.blind, hrc H locs hH hS, fun U hU hW => ⟨rfl, by rw [hU]; exact hH, va_K.moved hW.alike hK, hT.moved hW, hX.to hS hW hU hA, hR.to hW⟩⟩
  refine va_calli (va_runV (C := y.cls) (Ts := []) (n := n) (rest := rest) (As := As) ⟨hx, hb, hml, hown, fun _ h => absurd h List.not_mem_nil⟩ hM ⟨⟨hrm.1, hrm.2, hRo.1, hRo.2, (fun w hw a' U hW => by rw [List.mem_singleton.mp hw]; exact word_at hW (Or.inl rfl) (hT.use hcd rfl args)), List.mem_singleton.mpr rfl, hT.use hcd rfl args, hT.use hini rfl args, ⟨hd1, hd2⟩, (fun sig h => by rw [h] at hd3; exact (Option.some.inj hd3).symm), hT.use hl0 rfl args⟩, hT.use hinst rfl args, hT.use hsel rfl args⟩ hpV rfl hn hl.1 rfl (lv_room hW0) hd hro) hS (fun q _ h => hA q h) (fun q h => hA q h) (fun r u t H1 locs1 ht hvm hw hB hz hk hS1 => K r u.1 u.2 hw H1 locs1 ls (by rw [← ht]; exact hB) hS1 hl)
theorem J_csVV {post : Mv → Mw → Prop} (E : Cx p R s m meth c cells slots cc nL own D dA G A) (hX : StX A adK adV s s.heap) (hR : StR adK s) (hc : CalV y bytes maxL ret n) (hl0 : Cond.methodLink own index y ∈ lw_tbl) (hrc : ∀ (H : Heap) (locs : List Loc), Hp D dA G v w H → va_S A s.heap H locs → ∃ cell : Cell, H[a]? = some cell ∧ cell.vm.isStatics = false ∧ s.vm.findClass y.cls = some cell.cls) (As : List Value) (rest : List Value) (hM : CtVS l y bytes maxL ret rm D dA G (.ref a :: As) v w adK adV post) (hn : As.length = n) (hst : st = As.reverse ++ .ref a :: rest) (hW0 : (rest.map fun v => v.category).sum ≤ 8) (hrm : rm.cells = 0 ∧ rm.slots = 0) (hRo : rm.frames + 1 ≤ R.frames ∧ 8 + (maxL + 11) + rm.locals ≤ R.locals) (hd : decode cc pc = .ok (.invokevirtual index, 3)) (K : ∀ (v1 : Mv) (w1 : Mw), post v1 w1 → J p l e R s m args below meth c cells slots Q D dA G A s.heap nL v1 w1 lv (pc + 3) (rest)) : J p l e R s m args below meth c cells slots Q D dA G A s.heap nL v w lv (pc) (st) := by
  intro H locs ls hH hS hl
  obtain ⟨hcd, hini, hinst, hsel, hd1, hd2, hd3⟩ := hc
  obtain ⟨hx, hb, hml, hown, hT, hK, hro, hA, -⟩ := E
  subst hst
  have hpV : PreV s H y.cls a (PcS D dA G (.ref a :: As) v w adK adV) As := ⟨PcS.blind, hrc H locs hH hS, fun U hU hW => ⟨rfl, by rw [hU]; exact hH, va_K.moved hW.alike hK, hT.moved hW, hX.to hS hW hU hA, hR.to hW⟩⟩
  refine va_callv (va_runV (C := y.cls) (Ts := []) (n := n) (rest := rest) (As := As) ⟨hx, hb, hml, hown, fun _ h => absurd h List.not_mem_nil⟩ hM ⟨⟨hrm.1, hrm.2, hRo.1, hRo.2, (fun w hw a' U hW => by rw [List.mem_singleton.mp hw]; exact word_at hW (Or.inl rfl) (hT.use hcd rfl args)), List.mem_singleton.mpr rfl, hT.use hcd rfl args, hT.use hini rfl args, ⟨hd1, hd2⟩, (fun sig h => by rw [h] at hd3; exact (Option.some.inj hd3).symm), hT.use hl0 rfl args⟩, hT.use hinst rfl args, hT.use hsel rfl args⟩ hpV rfl hn hl.1 rfl (lv_room hW0) hd hro) hS (fun q _ h => hA q h) (fun q h => hA q h) (fun u t H1 locs1 ht hvm hw hB hz hk hS1 => K u.1 u.2 hw H1 locs1 ls (by rw [← ht]; exact hB) hS1 hl)
theorem J_csVNI {post : Int32 → Mv → Mw → Prop} (E : Cx p R s m meth c cells slots cc nL own D dA G A) (hX : StX A adK adV s s.heap) (hR : StR adK s) (hc : CalV y bytes maxL ret n) (hl0 : Cond.methodLinkNest own index y host ∈ lw_tbl) (hrc : ∀ (H : Heap) (locs : List Loc), Hp D dA G v w H → va_S A s.heap H locs → ∃ cell : Cell, H[a]? = some cell ∧ cell.vm.isStatics = false ∧ s.vm.findClass y.cls = some cell.cls) (As : List Value) (rest : List Value) (hM : CtIS l y bytes maxL ret rm D dA G (.ref a :: As) v w adK adV post) (hn : As.length = n) (hst : st = As.reverse ++ .ref a :: rest) (hW0 : (rest.map fun v => v.category).sum ≤ 8) (hrm : rm.cells = 0 ∧ rm.slots = 0) (hRo : rm.frames + 1 ≤ R.frames ∧ 8 + (maxL + 11) + rm.locals ≤ R.locals) (hd : decode cc pc = .ok (.invokevirtual index, 3)) (K : ∀ (r : Int32) (v1 : Mv) (w1 : Mw), post r v1 w1 → J p l e R s m args below meth c cells slots Q D dA G A s.heap nL v1 w1 lv (pc + 3) (.int r :: rest)) : J p l e R s m args below meth c cells slots Q D dA G A s.heap nL v w lv (pc) (st) := by
  intro H locs ls hH hS hl
  obtain ⟨hcd, hini, hinst, hsel, hd1, hd2, hd3⟩ := hc
  obtain ⟨hx, hb, hml, hown, hT, hK, hro, hA, -⟩ := E
  subst hst
  have hpV : PreV s H y.cls a (PcS D dA G (.ref a :: As) v w adK adV) As := ⟨PcS.blind, hrc H locs hH hS, fun U hU hW => ⟨rfl, by rw [hU]; exact hH, va_K.moved hW.alike hK, hT.moved hW, hX.to hS hW hU hA, hR.to hW⟩⟩
  refine va_calli (va_runVN (C := y.cls) (Ts := []) (n := n) (rest := rest) (As := As) ⟨hx, hb, hml, hown, fun _ h => absurd h List.not_mem_nil⟩ hM ⟨⟨⟨hrm.1, hrm.2, hRo.1, hRo.2, (fun w hw a' U hW => by rw [List.mem_singleton.mp hw]; exact word_at hW (Or.inl rfl) (hT.use hcd rfl args)), List.mem_singleton.mpr rfl⟩, hT.use hcd rfl args, hT.use hini rfl args, ⟨hd1, hd2⟩, (fun sig h => by rw [h] at hd3; exact (Option.some.inj hd3).symm), hT.use hl0 rfl args⟩, hT.use hinst rfl args, hT.use hsel rfl args⟩ hpV rfl hn hl.1 rfl (lv_room hW0) hd hro) hS (fun q _ h => hA q h) (fun q h => hA q h) (fun r u t H1 locs1 ht hvm hw hB hz hk hS1 => K r u.1 u.2 hw H1 locs1 ls (by rw [← ht]; exact hB) hS1 hl)
theorem J_csVNV {post : Mv → Mw → Prop} (E : Cx p R s m meth c cells slots cc nL own D dA G A) (hX : StX A adK adV s s.heap) (hR : StR adK s) (hc : CalV y bytes maxL ret n) (hl0 : Cond.methodLinkNest own index y host ∈ lw_tbl) (hrc : ∀ (H : Heap) (locs : List Loc), Hp D dA G v w H → va_S A s.heap H locs → ∃ cell : Cell, H[a]? = some cell ∧ cell.vm.isStatics = false ∧ s.vm.findClass y.cls = some cell.cls) (As : List Value) (rest : List Value) (hM : CtVS l y bytes maxL ret rm D dA G (.ref a :: As) v w adK adV post) (hn : As.length = n) (hst : st = As.reverse ++ .ref a :: rest) (hW0 : (rest.map fun v => v.category).sum ≤ 8) (hrm : rm.cells = 0 ∧ rm.slots = 0) (hRo : rm.frames + 1 ≤ R.frames ∧ 8 + (maxL + 11) + rm.locals ≤ R.locals) (hd : decode cc pc = .ok (.invokevirtual index, 3)) (K : ∀ (v1 : Mv) (w1 : Mw), post v1 w1 → J p l e R s m args below meth c cells slots Q D dA G A s.heap nL v1 w1 lv (pc + 3) (rest)) : J p l e R s m args below meth c cells slots Q D dA G A s.heap nL v w lv (pc) (st) := by
  intro H locs ls hH hS hl
  obtain ⟨hcd, hini, hinst, hsel, hd1, hd2, hd3⟩ := hc
  obtain ⟨hx, hb, hml, hown, hT, hK, hro, hA, -⟩ := E
  subst hst
  have hpV : PreV s H y.cls a (PcS D dA G (.ref a :: As) v w adK adV) As := ⟨PcS.blind, hrc H locs hH hS, fun U hU hW => ⟨rfl, by rw [hU]; exact hH, va_K.moved hW.alike hK, hT.moved hW, hX.to hS hW hU hA, hR.to hW⟩⟩
  refine va_callv (va_runVN (C := y.cls) (Ts := []) (n := n) (rest := rest) (As := As) ⟨hx, hb, hml, hown, fun _ h => absurd h List.not_mem_nil⟩ hM ⟨⟨⟨hrm.1, hrm.2, hRo.1, hRo.2, (fun w hw a' U hW => by rw [List.mem_singleton.mp hw]; exact word_at hW (Or.inl rfl) (hT.use hcd rfl args)), List.mem_singleton.mpr rfl⟩, hT.use hcd rfl args, hT.use hini rfl args, ⟨hd1, hd2⟩, (fun sig h => by rw [h] at hd3; exact (Option.some.inj hd3).symm), hT.use hl0 rfl args⟩, hT.use hinst rfl args, hT.use hsel rfl args⟩ hpV rfl hn hl.1 rfl (lv_room hW0) hd hro) hS (fun q _ h => hA q h) (fun q h => hA q h) (fun u t H1 locs1 ht hvm hw hB hz hk hS1 => K u.1 u.2 hw H1 locs1 ls (by rw [← ht]; exact hB) hS1 hl)
theorem J_csSI {post : Int32 → Mv → Mw → Prop} (E : Cx p R s m meth c cells slots cc nL own D dA G A) (hX : StX A adK adV s s.heap) (hR : StR adK s) (hc : CalS y bytes maxL ret n) (hl0 : Cond.methodLink own index y ∈ lw_tbl) (As : List Value) (rest : List Value) (hM : CtIS l y bytes maxL ret rm D dA G As v w adK adV post) (hn : As.length = n) (hst : st = As.reverse ++ rest) (hW0 : (rest.map fun v => v.category).sum ≤ 8) (hrm : rm.cells = 0 ∧ rm.slots = 0) (hRo : rm.frames + 1 ≤ R.frames ∧ 8 + (maxL + 11) + rm.locals ≤ R.locals) (hd : decode cc pc = .ok (.invokestatic index, 3)) (K : ∀ (r : Int32) (v1 : Mv) (w1 : Mw), post r v1 w1 → J p l e R s m args below meth c cells slots Q D dA G A s.heap nL v1 w1 lv (pc + 3) (.int r :: rest)) : J p l e R s m args below meth c cells slots Q D dA G A s.heap nL v w lv (pc) (st) := by
  intro H locs ls hH hS hl
  obtain ⟨hcd, hini, hinst, hd1, hd2, hd3⟩ := hc
  obtain ⟨hx, hb, hml, hown, hT, hK, hro, hA, -⟩ := E
  subst hst
  have hpV : PreS s H (PcS D dA G As v w adK adV) As := ⟨PcS.blind, fun U hU hW => ⟨rfl, by rw [hU]; exact hH, va_K.moved hW.alike hK, hT.moved hW, hX.to hS hW hU hA, hR.to hW⟩⟩
  refine va_calli (va_runS (Ts := []) (n := n) (rest := rest) (As := As) ⟨hx, hb, hml, hown, fun _ h => absurd h List.not_mem_nil⟩ hM ⟨⟨hrm.1, hrm.2, hRo.1, hRo.2, (fun w hw a' U hW => by rw [List.mem_singleton.mp hw]; exact word_at hW (Or.inl rfl) (hT.use hcd rfl args)), List.mem_singleton.mpr rfl, hT.use hcd rfl args, hT.use hini rfl args, ⟨hd1, hd2⟩, (fun sig h => by rw [h] at hd3; exact (Option.some.inj hd3).symm), hT.use hl0 rfl args⟩, hT.use hinst rfl args⟩ hpV rfl hn hl.1 rfl (lv_room hW0) hd hro) hS (fun q _ h => hA q h) (fun q h => hA q h) (fun r u t H1 locs1 ht hvm hw hB hz hk hS1 => K r u.1 u.2 hw H1 locs1 ls (by rw [← ht]; exact hB) hS1 hl)
theorem J_csSV {post : Mv → Mw → Prop} (E : Cx p R s m meth c cells slots cc nL own D dA G A) (hX : StX A adK adV s s.heap) (hR : StR adK s) (hc : CalS y bytes maxL ret n) (hl0 : Cond.methodLink own index y ∈ lw_tbl) (As : List Value) (rest : List Value) (hM : CtVS l y bytes maxL ret rm D dA G As v w adK adV post) (hn : As.length = n) (hst : st = As.reverse ++ rest) (hW0 : (rest.map fun v => v.category).sum ≤ 8) (hrm : rm.cells = 0 ∧ rm.slots = 0) (hRo : rm.frames + 1 ≤ R.frames ∧ 8 + (maxL + 11) + rm.locals ≤ R.locals) (hd : decode cc pc = .ok (.invokestatic index, 3)) (K : ∀ (v1 : Mv) (w1 : Mw), post v1 w1 → J p l e R s m args below meth c cells slots Q D dA G A s.heap nL v1 w1 lv (pc + 3) (rest)) : J p l e R s m args below meth c cells slots Q D dA G A s.heap nL v w lv (pc) (st) := by
  intro H locs ls hH hS hl
  obtain ⟨hcd, hini, hinst, hd1, hd2, hd3⟩ := hc
  obtain ⟨hx, hb, hml, hown, hT, hK, hro, hA, -⟩ := E
  subst hst
  have hpV : PreS s H (PcS D dA G As v w adK adV) As := ⟨PcS.blind, fun U hU hW => ⟨rfl, by rw [hU]; exact hH, va_K.moved hW.alike hK, hT.moved hW, hX.to hS hW hU hA, hR.to hW⟩⟩
  refine va_callv (va_runS (Ts := []) (n := n) (rest := rest) (As := As) ⟨hx, hb, hml, hown, fun _ h => absurd h List.not_mem_nil⟩ hM ⟨⟨hrm.1, hrm.2, hRo.1, hRo.2, (fun w hw a' U hW => by rw [List.mem_singleton.mp hw]; exact word_at hW (Or.inl rfl) (hT.use hcd rfl args)), List.mem_singleton.mpr rfl, hT.use hcd rfl args, hT.use hini rfl args, ⟨hd1, hd2⟩, (fun sig h => by rw [h] at hd3; exact (Option.some.inj hd3).symm), hT.use hl0 rfl args⟩, hT.use hinst rfl args⟩ hpV rfl hn hl.1 rfl (lv_room hW0) hd hro) hS (fun q _ h => hA q h) (fun q h => hA q h) (fun u t H1 locs1 ht hvm hw hB hz hk hS1 => K u.1 u.2 hw H1 locs1 ls (by rw [← ht]; exact hB) hS1 hl)
/-- receivers: a String constant; an object of ours -/
theorem rc_str (hX : StX A adK adV s s.heap) {i : Nat} (hi : i < 6) : ∀ (H : Heap) (locs : List Loc), Hp D dA G v w H → va_S A s.heap H locs → ∃ cell : Cell, H[adK i]? = some cell ∧ cell.vm.isStatics = false ∧ s.vm.findClass "java/lang/String" = some cell.cls := fun _ _ _ hS => vk_recv hX.1 hi hS
theorem rc_obj (hK : va_K D classes (tysA dA) s) {C : String} (hcl : classes[ci]? = some (C, T, N)) (hG : G a = some (.inl (ci, fs))) : ∀ (H : Heap) (locs : List Loc), Hp D dA G v w H → va_S A s.heap H locs → ∃ cell : Cell, H[a]? = some cell ∧ cell.vm.isStatics = false ∧ s.vm.findClass C = some cell.cls := by
  intro H locs hH _
  obtain ⟨r, h1, cell, q1, q2, q3, q4⟩ := hH a _ hG
  have hr : r = (C, T, N) := Option.some.inj (h1.symm.trans hcl)
  subst hr
  exact ⟨cell, q1, by rw [q3]; rfl, by rw [q2]; exact (hK.1 ci _ hcl).2.1⟩
end STR
theorem wz38 : Cond.fieldLink RJ0 38 "java/lang/String" "COMPACT_STRINGS" "Z" ∈ lw_tbl := List.mem_of_getElem? (i := 431) (by decide +kernel)
theorem wz9 : Cond.fieldLink RJ0 9 "java/lang/String" "value" "[B" ∈ lw_tbl := List.mem_of_getElem? (i := 1349) (by decide +kernel)
theorem wz15 : Cond.fieldLink RJ0 15 "java/lang/String" "coder" "B" ∈ lw_tbl := List.mem_of_getElem? (i := 1350) (by decide +kernel)
theorem wz1053 : Cond.fieldLink RJ0 1053 "jdk/internal/util/Preconditions" "SIOOBE_FORMATTER" "Ljava/util/function/BiFunction;" ∈ lw_tbl := List.mem_of_getElem? (i := 447) (by decide +kernel)
theorem cal_J0_length_8abf5 : CalV yJ0_length_8abf5 cJ0_length_8abf5 1 (some .int) 0 := ⟨wd426, wd123, wd424, wd425, by decide +kernel, by decide +kernel, by decide +kernel⟩
theorem cal_J0_charAt_5068e : CalV yJ0_charAt_5068e cJ0_charAt_5068e 2 (some .char) 1 := ⟨wd436, wd123, wd434, wd435, by decide +kernel, by decide +kernel, by decide +kernel⟩
theorem cal_J0_coder_7d493 : CalV yJ0_coder_7d493 cJ0_coder_7d493 1 (some .byte) 0 := ⟨wd430, wd123, wd428, wd429, by decide +kernel, by decide +kernel, by decide +kernel⟩
theorem cal_J0_isLatin1_aae02 : CalV yJ0_isLatin1_aae02 cJ0_isLatin1_aae02 1 (some .boolean) 0 := ⟨wd440, wd123, wd438, wd439, by decide +kernel, by decide +kernel, by decide +kernel⟩
theorem cal_J1_charAt_3b067 : CalS yJ1_charAt_3b067 cJ1_charAt_3b067 2 (some .char) 2 := ⟨wd443, wd124, wd442, by decide +kernel, by decide +kernel, by decide +kernel⟩
theorem cal_J0_checkIndex_df160 : CalS yJ0_checkIndex_df160 cJ0_checkIndex_df160 2 none 2 := ⟨wd446, wd123, wd445, by decide +kernel, by decide +kernel, by decide +kernel⟩
theorem cal_J3_checkIndex_8e157 : CalS yJ3_checkIndex_8e157 cJ3_checkIndex_8e157 3 (some .int) 3 := ⟨wd451, wd125, wd450, by decide +kernel, by decide +kernel, by decide +kernel⟩
set_option maxHeartbeats 4000000 in
set_option maxRecDepth 100000 in
theorem cs_coder (l : Launch) (D : va_G) (dA : Nat → ClassId) (G : Gm) (v : Mv) (w : Mw) (adK adV : Nat → Nat) {i : Nat} (hi : i < 6) : CtIS l yJ0_coder_7d493 cJ0_coder_7d493 1 (some .byte) { frames := 0, cells := 0, slots := 0, locals := 0 } D dA G [.ref (adK i)] v w adK adV (fun r v1 w1 => v1 = v ∧ w1 = w ∧ r = 0) := by
  refine CtIS.ofF RJ0 [(0, .ref (adK i))] (Nat.le_of_ble_eq_true rfl) rfl (by decide +kernel) rfl ?_
  intro p e s m args below meth c E hr hX hR
  refine J_gets E hX.2.1 wz38 dJ0_coder_7d493_0 ?_
  refine J_if_eq E 13 dJ0_coder_7d493_3 (by decide) (fun c1 => absurd c1 (by decide)) (fun c1 => ?_)
  refine J_aload_n E dJ0_coder_7d493_6 0 rfl ?_
  refine J_sget E (hX.1.1 i hi).2.1 wz15 dJ0_coder_7d493_7 ?_
  refine J_goto E 14 dJ0_coder_7d493_10 (by decide) ?_
  exact J_nret E hr rfl dJ0_coder_7d493_14 ⟨rfl, rfl, rfl⟩
set_option maxHeartbeats 4000000 in
set_option maxRecDepth 100000 in
theorem cs_isLatin1 (l : Launch) (D : va_G) (dA : Nat → ClassId) (G : Gm) (v : Mv) (w : Mw) (adK adV : Nat → Nat) {i : Nat} (hi : i < 6) : CtIS l yJ0_isLatin1_aae02 cJ0_isLatin1_aae02 1 (some .boolean) { frames := 0, cells := 0, slots := 0, locals := 0 } D dA G [.ref (adK i)] v w adK adV (fun r v1 w1 => v1 = v ∧ w1 = w ∧ r = 1) := by
  refine CtIS.ofF RJ0 [(0, .ref (adK i))] (Nat.le_of_ble_eq_true rfl) rfl (by decide +kernel) rfl ?_
  intro p e s m args below meth c E hr hX hR
  refine J_gets E hX.2.1 wz38 dJ0_isLatin1_aae02_0 ?_
  refine J_if_eq E 17 dJ0_isLatin1_aae02_3 (by decide) (fun c1 => absurd c1 (by decide)) (fun c1 => ?_)
  refine J_aload_n E dJ0_isLatin1_aae02_6 0 rfl ?_
  refine J_sget E (hX.1.1 i hi).2.1 wz15 dJ0_isLatin1_aae02_7 ?_
  refine J_if_ne E 17 dJ0_isLatin1_aae02_10 (by decide) (fun c1 => absurd rfl c1) (fun c1 => ?_)
  refine J_iconst E 1 dJ0_isLatin1_aae02_13 (by decide) ?_
  refine J_goto E 18 dJ0_isLatin1_aae02_14 (by decide) ?_
  exact J_nret E hr rfl dJ0_isLatin1_aae02_18 ⟨rfl, rfl, rfl⟩
theorem sLen_tab : ∀ i, i < 6 → (nI (sLen.getD i 0) >>> ((0 : Int32) &&& 31)) = nI (sLen.getD i 0) ∧ (nI (sLen.getD i 0)).toInt = (sLen.getD i 0 : Int) ∧ 3 ≤ sLen.getD i 0 ∧ sLen.getD i 0 ≤ 6 := by decide +kernel
set_option maxHeartbeats 4000000 in
set_option maxRecDepth 100000 in
theorem cs_length (l : Launch) (D : va_G) (dA : Nat → ClassId) (G : Gm) (v : Mv) (w : Mw) (adK adV : Nat → Nat) {i : Nat} (hi : i < 6) : CtIS l yJ0_length_8abf5 cJ0_length_8abf5 1 (some .int) { frames := 1, cells := 0, slots := 0, locals := 20 } D dA G [.ref (adK i)] v w adK adV (fun r v1 w1 => v1 = v ∧ w1 = w ∧ r = nI (sLen.getD i 0)) := by
  refine CtIS.ofF RJ0 [(0, .ref (adK i))] (Nat.le_of_ble_eq_true rfl) rfl (by decide +kernel) rfl ?_
  intro p e s m args below meth c E hr hX hR
  refine J_aload_n E dJ0_length_8abf5_0 0 rfl ?_
  refine J_sget E (hX.1.1 i hi).2.2.1 wz9 dJ0_length_8abf5_1 ?_
  refine J_tlen (x := nI (sLen.getD i 0)) E (hX.1.1 i hi).2.2.2 rfl dJ0_length_8abf5_4 ?_
  refine J_aload_n E dJ0_length_8abf5_5 0 rfl ?_
  refine J_csVI E hX hR cal_J0_coder_7d493 wd427 (rc_str hX hi) [] [.int (nI (sLen.getD i 0))] (cs_coder l D dA G v w adK adV hi) rfl rfl (Nat.le_of_ble_eq_true rfl) ⟨rfl, rfl⟩ ⟨Nat.le_of_ble_eq_true rfl, Nat.le_of_ble_eq_true rfl⟩ dJ0_length_8abf5_6 (fun r v1 w1 hp => ?_)
  rw [hp.1, hp.2.1, hp.2.2]
  refine J_ishr E dJ0_length_8abf5_9 (fun z ez => ?_)
  exact J_iret E hr dJ0_length_8abf5_10 ⟨rfl, rfl, ez.trans (sLen_tab i hi).1⟩
set_option maxHeartbeats 4000000 in
set_option maxRecDepth 100000 in
theorem cs_ck3 (l : Launch) (D : va_G) (dA : Nat → ClassId) (G : Gm) (v : Mv) (w : Mw) (adK adV : Nat → Nat) (k n : Int32) (x : Value) (hx : x = .null ∨ ∃ t : Nat, x = .ref t) (h0 : 0 ≤ k) (hn : k < n) : CtIS l yJ3_checkIndex_8e157 cJ3_checkIndex_8e157 3 (some .int) { frames := 0, cells := 0, slots := 0, locals := 0 } D dA G [.int k, .int n, x] v w adK adV (fun r v1 w1 => v1 = v ∧ w1 = w) := by
  rcases hx with rfl | ⟨t, rfl⟩
  all_goals
    refine CtIS.ofF RJ3 _ (Nat.le_of_ble_eq_true rfl) rfl (by decide +kernel) rfl ?_
    intro p e s m args below meth c E hr hX hR
    refine J_iload_n E dJ3_checkIndex_8e157_0 0 rfl ?_
    refine J_if_lt E 9 dJ3_checkIndex_8e157_1 (by decide) (fun c1 => absurd h0 (nle_of_lt c1)) (fun c1 => ?_)
    refine J_iload_n E dJ3_checkIndex_8e157_4 0 rfl ?_
    refine J_iload_n E dJ3_checkIndex_8e157_5 1 rfl ?_
    refine J_icmp_lt E 16 dJ3_checkIndex_8e157_6 (by decide) (fun c2 => ?_) (fun c2 => absurd hn c2)
    refine J_iload_n E dJ3_checkIndex_8e157_16 0 rfl ?_
    exact J_iret E hr dJ3_checkIndex_8e157_17 ⟨rfl, rfl⟩
set_option maxHeartbeats 4000000 in
set_option maxRecDepth 100000 in
theorem cs_ck0 (l : Launch) (D : va_G) (dA : Nat → ClassId) (G : Gm) (v : Mv) (w : Mw) (adK adV : Nat → Nat) (k n : Int32) (h0 : 0 ≤ k) (hn : k < n) : CtVS l yJ0_checkIndex_df160 cJ0_checkIndex_df160 2 none { frames := 1, cells := 0, slots := 0, locals := 22 } D dA G [.int k, .int n] v w adK adV (fun v1 w1 => v1 = v ∧ w1 = w) := by
  refine CtVS.ofF RJ0 [(0, .int k), (1, .int n)] (Nat.le_of_ble_eq_true rfl) rfl (by decide +kernel) rfl ?_
  intro p e s m args below meth c E hr hX hR
  refine J_iload_n E dJ0_checkIndex_df160_0 0 rfl ?_
  refine J_iload_n E dJ0_checkIndex_df160_1 1 rfl ?_
  rcases hX.2.2 with hz | ⟨t, hz⟩
  · refine J_gets E hz wz1053 dJ0_checkIndex_df160_2 ?_
    refine J_csSI E hX hR cal_J3_checkIndex_8e157 wd449 [.int k, .int n, .null] [] (cs_ck3 l D dA G v w adK adV k n .null (Or.inl rfl) h0 hn) rfl rfl (Nat.le_of_ble_eq_true rfl) ⟨rfl, rfl⟩ ⟨Nat.le_of_ble_eq_true rfl, Nat.le_of_ble_eq_true rfl⟩ dJ0_checkIndex_df160_5 (fun r v1 w1 hp => ?_)
    rw [hp.1, hp.2]
    refine J_pop E dJ0_checkIndex_df160_8 rfl ?_
    exact J_vret E hr dJ0_checkIndex_df160_9 ⟨rfl, rfl⟩
  · refine J_gets E hz wz1053 dJ0_checkIndex_df160_2 ?_
    refine J_csSI E hX hR cal_J3_checkIndex_8e157 wd449 [.int k, .int n, .ref t] [] (cs_ck3 l D dA G v w adK adV k n (.ref t) (Or.inr ⟨t, rfl⟩) h0 hn) rfl rfl (Nat.le_of_ble_eq_true rfl) ⟨rfl, rfl⟩ ⟨Nat.le_of_ble_eq_true rfl, Nat.le_of_ble_eq_true rfl⟩ dJ0_checkIndex_df160_5 (fun r v1 w1 hp => ?_)
    rw [hp.1, hp.2]
    refine J_pop E dJ0_checkIndex_df160_8 rfl ?_
    exact J_vret E hr dJ0_checkIndex_df160_9 ⟨rfl, rfl⟩
def sCh (i : Nat) (k : Int32) : Int32 := (sByt.getD i []).getD (Int32.toNatClampNeg k) 0
theorem sCh_tab : ∀ i, i < 6 → ∀ j, j < sLen.getD i 0 → ((((sByt.getD i []).getD j 0) &&& 255).toUInt32 % 65536).toInt32 = (sByt.getD i []).getD j 0 := by decide +kernel
set_option maxHeartbeats 4000000 in
set_option maxRecDepth 100000 in
theorem cs_char1 (l : Launch) (D : va_G) (dA : Nat → ClassId) (G : Gm) (v : Mv) (w : Mw) (adK adV : Nat → Nat) {i : Nat} (hi : i < 6) (k : Int32) (h0 : 0 ≤ k) (hn : k < nI (sLen.getD i 0)) : CtIS l yJ1_charAt_3b067 cJ1_charAt_3b067 2 (some .char) { frames := 2, cells := 0, slots := 0, locals := 43 } D dA G [.ref (adV i), .int k] v w adK adV (fun r v1 w1 => v1 = v ∧ w1 = w ∧ narrow .char (.int r) = .int r ∧ r = sCh i k) := by
  refine CtIS.ofF RJ1 [(0, .ref (adV i)), (1, .int k)] (Nat.le_of_ble_eq_true rfl) rfl (by decide +kernel) rfl ?_
  intro p e s m args below meth c E hr hX hR
  refine J_iload_n E dJ1_charAt_3b067_0 1 rfl ?_
  refine J_aload_n E dJ1_charAt_3b067_1 0 rfl ?_
  refine J_tlen (x := nI (sLen.getD i 0)) E (hX.1.1 i hi).2.2.2 rfl dJ1_charAt_3b067_2 ?_
  refine J_csSV E hX hR cal_J0_checkIndex_df160 wd444 [.int k, .int (nI (sLen.getD i 0))] [] (cs_ck0 l D dA G v w adK adV k _ h0 hn) rfl rfl (Nat.le_of_ble_eq_true rfl) ⟨rfl, rfl⟩ ⟨Nat.le_of_ble_eq_true rfl, Nat.le_of_ble_eq_true rfl⟩ dJ1_charAt_3b067_3 (fun v1 w1 hp => ?_)
  rw [hp.1, hp.2]
  refine J_aload_n E dJ1_charAt_3b067_6 0 rfl ?_
  refine J_iload_n E dJ1_charAt_3b067_7 1 rfl ?_
  have hin : vp_in k (sLen.getD i 0) := by
    rw [Int32.lt_iff_toInt_lt, (sLen_tab i hi).2.1] at hn
    rw [Int32.le_iff_toInt_le] at h0
    have e0 : (0 : Int32).toInt = 0 := by decide
    exact vp_in_iff.mpr (by omega)
  refine J_tb (f := fun j => (sByt.getD i []).getD j 0) E (hX.1.1 i hi).2.2.2 hin dJ1_charAt_3b067_8 ?_
  refine J_sipush E 255 dJ1_charAt_3b067_9 (by decide) ?_
  refine J_iand E dJ1_charAt_3b067_12 (fun z ez => ?_)
  refine J_i2c E dJ1_charAt_3b067_13 (fun u eu => ?_)
  have hu : narrow .char (.int u) = .int u := by rw [eu]; exact pk_nc z
  exact J_nret E hr hu dJ1_charAt_3b067_14 ⟨rfl, rfl, hu, by rw [eu, ez]; exact sCh_tab i hi _ (Nat.not_le.mp fun q => hin (Or.inr q))⟩
set_option maxHeartbeats 4000000 in
set_option maxRecDepth 100000 in
theorem cs_charAt (l : Launch) (D : va_G) (dA : Nat → ClassId) (G : Gm) (v : Mv) (w : Mw) (adK adV : Nat → Nat) {i : Nat} (hi : i < 6) (k : Int32) (h0 : 0 ≤ k) (hn : k < nI (sLen.getD i 0)) : CtIS l yJ0_charAt_5068e cJ0_charAt_5068e 2 (some .char) { frames := 3, cells := 0, slots := 0, locals := 64 } D dA G [.ref (adK i), .int k] v w adK adV (fun r v1 w1 => v1 = v ∧ w1 = w ∧ r = sCh i k) := by
  refine CtIS.ofF RJ0 [(0, .ref (adK i)), (1, .int k)] (Nat.le_of_ble_eq_true rfl) rfl (by decide +kernel) rfl ?_
  intro p e s m args below meth c E hr hX hR
  refine J_aload_n E dJ0_charAt_5068e_0 0 rfl ?_
  refine J_csVI E hX hR cal_J0_isLatin1_aae02 wd437 (rc_str hX hi) [] [] (cs_isLatin1 l D dA G v w adK adV hi) rfl rfl (Nat.le_of_ble_eq_true rfl) ⟨rfl, rfl⟩ ⟨Nat.le_of_ble_eq_true rfl, Nat.le_of_ble_eq_true rfl⟩ dJ0_charAt_5068e_1 (fun r v1 w1 hp => ?_)
  rw [hp.1, hp.2.1, hp.2.2]
  refine J_if_eq E 16 dJ0_charAt_5068e_4 (by decide) (fun c1 => absurd c1 (by decide)) (fun c1 => ?_)
  refine J_aload_n E dJ0_charAt_5068e_7 0 rfl ?_
  refine J_sget E (hX.1.1 i hi).2.2.1 wz9 dJ0_charAt_5068e_8 ?_
  refine J_iload_n E dJ0_charAt_5068e_11 1 rfl ?_
  refine J_csSI E hX hR cal_J1_charAt_3b067 wd441 [.ref (adV i), .int k] [] (cs_char1 l D dA G v w adK adV hi k h0 hn) rfl rfl (Nat.le_of_ble_eq_true rfl) ⟨rfl, rfl⟩ ⟨Nat.le_of_ble_eq_true rfl, Nat.le_of_ble_eq_true rfl⟩ dJ0_charAt_5068e_12 (fun r2 v2 w2 hp2 => ?_)
  rw [hp2.1, hp2.2.1]
  exact J_nret E hr hp2.2.2.1 dJ0_charAt_5068e_15 ⟨rfl, rfl, hp2.2.2.2⟩
