def dm (G : Gm) : Nat → Prop := fun q => (G q).isSome = true
/-- where a method begins: its arguments, the memory, the tables -/
abbrev PcM (D : va_G) (dA : Nat → ClassId) (G : Gm) (As : List Value) (v : Mv) (w : Mw) : Array Value → State → Prop := va_Pc As (fun U => Hp D dA G v w U.heap ∧ va_K D classes (tysA dA) U ∧ Tb U)
abbrev QcI (D : va_G) (dA : Nat → ClassId) (G : Gm) (post : Int32 → Mv → Mw → Prop) := va_Qi (S := Mv × Mw) (fun r u => post r u.1 u.2) (fun u t => Hp D dA G u.1 u.2 t.heap) (dm G)
abbrev QcL (D : va_G) (dA : Nat → ClassId) (G : Gm) (post : Int64 → Mv → Mw → Prop) := va_Ql (S := Mv × Mw) (fun r u => post r u.1 u.2) (fun u t => Hp D dA G u.1 u.2 t.heap) (dm G)
abbrev QcV (D : va_G) (dA : Nat → ClassId) (G : Gm) (post : Mv → Mw → Prop) := va_Qv (S := Mv × Mw) (fun u => post u.1 u.2) (fun u t => Hp D dA G u.1 u.2 t.heap) (dm G)
/-- CONTRACTS: of an int (or boolean), a long, nothing -/
def CtI (l : Launch) (y : MethodName) (cc : ByteArray) (maxL : Nat) (ret : Option FieldType) (rm : Room) (D : va_G) (dA : Nat → ClassId) (G : Gm) (As : List Value) (v : Mv) (w : Mw) (post : Int32 → Mv → Mw → Prop) : Prop :=
  Met l y [Cond.code y cc maxL ret] rm (PcM D dA G As v w) (QcI D dA G post) 0 0 (dm G)
def CtL (l : Launch) (y : MethodName) (cc : ByteArray) (maxL : Nat) (ret : Option FieldType) (rm : Room) (D : va_G) (dA : Nat → ClassId) (G : Gm) (As : List Value) (v : Mv) (w : Mw) (post : Int64 → Mv → Mw → Prop) : Prop :=
  Met l y [Cond.code y cc maxL ret] rm (PcM D dA G As v w) (QcL D dA G post) 0 0 (dm G)
def CtV (l : Launch) (y : MethodName) (cc : ByteArray) (maxL : Nat) (ret : Option FieldType) (rm : Room) (D : va_G) (dA : Nat → ClassId) (G : Gm) (As : List Value) (v : Mv) (w : Mw) (post : Mv → Mw → Prop) : Prop :=
  Met l y [Cond.code y cc maxL ret] rm (PcM D dA G As v w) (QcV D dA G post) 0 0 (dm G)
theorem PcM.blind {D : va_G} {dA : Nat → ClassId} {G : Gm} {As : List Value} {v : Mv} {w : Mw} : FrameBlind (PcM D dA G As v w) := by
  intro a U g mk q
  obtain ⟨q0, q1, q2, q3⟩ := q
  exact ⟨q0, q1, va_K.moved (u := U) (U := U.calling g mk a) (Vm.Alike.refl U.vm) q2, q3.call a g mk⟩
section CE
variable {l : Launch} {y : MethodName} {cc : ByteArray} {maxL : Nat} {ret : Option FieldType} {rm : Room} {D : va_G} {dA : Nat → ClassId} {G : Gm} {As : List Value} {v : Mv} {w : Mw}
theorem CtI.of {post : Int32 → Mv → Mw → Prop} (own : String) (lv : List (Nat × Value)) (hlen : (lg_sl As).length ≤ maxL) (hlv : lv_args 0 As = lv) (hy : plainName y.cls = true) (hyo : y.cls = own)
    (body : ∀ (p : Program) (e : Env) (s : State) (m : MethodId) (args : Array Value) (below : List Frame) (meth : Method) (c : Code), Cx p rm s m meth c 0 0 cc maxL own D dA G (dm G) → meth.sig.returnType = ret → J p l e rm s m args below meth c 0 0 (MQ below (QcI D dA G post) args s 0 0 (dm G)) D dA G (dm G) s.heap maxL v w lv 0 []) : CtI l y cc maxL ret rm D dA G As v w post := by
  refine Met.ofW (cc := cc) (maxL := maxL) (ret := ret) hy rfl ?_
  intro p e s m args below meth c s₁ B hml hv
  obtain ⟨rfl, hH, hK, hT⟩ := hv
  have hown : s.vm.findClass own = some m.cls := hyo ▸ findClass_of_methodNamed B.named
  have hl := lv_entry As (n := maxL) hlen
  rw [lg_entry_eq]
  generalize (lg_sl As ++ List.replicate (maxL - (lg_sl As).length) Slot.unset).toArray = ls at hl ⊢
  exact body p e s m _ below meth c ⟨B.exec, B.bytes, hml, hown, hT, hK, ⟨Nat.zero_le _, Nat.zero_le _⟩, fun _ h => h, B.notSynchronized⟩ B.returns s.heap [] ls hH va_S.rf (hlv ▸ hl)
theorem CtL.of {post : Int64 → Mv → Mw → Prop} (own : String) (lv : List (Nat × Value)) (hlen : (lg_sl As).length ≤ maxL) (hlv : lv_args 0 As = lv) (hy : plainName y.cls = true) (hyo : y.cls = own)
    (body : ∀ (p : Program) (e : Env) (s : State) (m : MethodId) (args : Array Value) (below : List Frame) (meth : Method) (c : Code), Cx p rm s m meth c 0 0 cc maxL own D dA G (dm G) → meth.sig.returnType = ret → J p l e rm s m args below meth c 0 0 (MQ below (QcL D dA G post) args s 0 0 (dm G)) D dA G (dm G) s.heap maxL v w lv 0 []) : CtL l y cc maxL ret rm D dA G As v w post := by
  refine Met.ofW (cc := cc) (maxL := maxL) (ret := ret) hy rfl ?_
  intro p e s m args below meth c s₁ B hml hv
  obtain ⟨rfl, hH, hK, hT⟩ := hv
  have hown : s.vm.findClass own = some m.cls := hyo ▸ findClass_of_methodNamed B.named
  have hl := lv_entry As (n := maxL) hlen
  rw [lg_entry_eq]
  generalize (lg_sl As ++ List.replicate (maxL - (lg_sl As).length) Slot.unset).toArray = ls at hl ⊢
  exact body p e s m _ below meth c ⟨B.exec, B.bytes, hml, hown, hT, hK, ⟨Nat.zero_le _, Nat.zero_le _⟩, fun _ h => h, B.notSynchronized⟩ B.returns s.heap [] ls hH va_S.rf (hlv ▸ hl)
theorem CtV.of {post : Mv → Mw → Prop} (own : String) (lv : List (Nat × Value)) (hlen : (lg_sl As).length ≤ maxL) (hlv : lv_args 0 As = lv) (hy : plainName y.cls = true) (hyo : y.cls = own)
    (body : ∀ (p : Program) (e : Env) (s : State) (m : MethodId) (args : Array Value) (below : List Frame) (meth : Method) (c : Code), Cx p rm s m meth c 0 0 cc maxL own D dA G (dm G) → meth.sig.returnType = ret → J p l e rm s m args below meth c 0 0 (MQ below (QcV D dA G post) args s 0 0 (dm G)) D dA G (dm G) s.heap maxL v w lv 0 []) : CtV l y cc maxL ret rm D dA G As v w post := by
  refine Met.ofW (cc := cc) (maxL := maxL) (ret := ret) hy rfl ?_
  intro p e s m args below meth c s₁ B hml hv
  obtain ⟨rfl, hH, hK, hT⟩ := hv
  have hown : s.vm.findClass own = some m.cls := hyo ▸ findClass_of_methodNamed B.named
  have hl := lv_entry As (n := maxL) hlen
  rw [lg_entry_eq]
  generalize (lg_sl As ++ List.replicate (maxL - (lg_sl As).length) Slot.unset).toArray = ls at hl ⊢
  exact body p e s m _ below meth c ⟨B.exec, B.bytes, hml, hown, hT, hK, ⟨Nat.zero_le _, Nat.zero_le _⟩, fun _ h => h, B.notSynchronized⟩ B.returns s.heap [] ls hH va_S.rf (hlv ▸ hl)
end CE
section CR
variable {p : Program} {l : Launch} {e : Env} {R : Room} {s : State} {m : MethodId} {args : Array Value} {below : List Frame} {meth : Method} {c : Code} {cells slots : Nat} {Q : State → Prop} {D : va_G} {dA : Nat → ClassId} {G : Gm} {A : Nat → Prop} {H0 : Heap} {nL : Nat} {cc : ByteArray} {own : String} {v : Mv} {w : Mw} {lv lv' : List (Nat × Value)} {pc : Nat} {st : List Value}
theorem J_iret {post : Int32 → Mv → Mw → Prop} {x : Int32} (E : Cx p R s m meth c cells slots cc nL own D dA G (dm G)) (hr : meth.sig.returnType = some .int) (hd : decode cc pc = .ok (.ireturn, 1)) (hq : post x v w) : J p l e R s m args below meth c cells slots (MQ below (QcI D dA G post) args s cells slots (dm G)) D dA G (dm G) s.heap nL v w lv pc ([.int x]) :=
  fun H locs ls hH hS hl => W.iret E.1 E.2.1 hr (fun t ht hW => ⟨⟨x, (v, w), rfl, hq, by show Hp D dA G v w t.heap; rw [ht]; exact hH⟩, hS.F ht⟩) hS.2.2 hd E.2.2.2.2.2.2.2.2
theorem J_zret {post : Int32 → Mv → Mw → Prop} {x : Int32} (E : Cx p R s m meth c cells slots cc nL own D dA G (dm G)) (hr : meth.sig.returnType = some .boolean) (hn : narrow .boolean (.int x) = .int x) (hd : decode cc pc = .ok (.ireturn, 1)) (hq : post x v w) : J p l e R s m args below meth c cells slots (MQ below (QcI D dA G post) args s cells slots (dm G)) D dA G (dm G) s.heap nL v w lv pc ([.int x]) :=
  fun H locs ls hH hS hl => W.zret E.1 E.2.1 hr hn (fun t ht hW => ⟨⟨x, (v, w), rfl, hq, by show Hp D dA G v w t.heap; rw [ht]; exact hH⟩, hS.F ht⟩) hS.2.2 hd E.2.2.2.2.2.2.2.2
theorem J_lret {post : Int64 → Mv → Mw → Prop} {x : Int64} (E : Cx p R s m meth c cells slots cc nL own D dA G (dm G)) (hr : meth.sig.returnType = some .long) (hd : decode cc pc = .ok (.lreturn, 1)) (hq : post x v w) : J p l e R s m args below meth c cells slots (MQ below (QcL D dA G post) args s cells slots (dm G)) D dA G (dm G) s.heap nL v w lv pc ([.long x]) :=
  fun H locs ls hH hS hl => W.lret E.1 E.2.1 hr (fun t ht hW => ⟨⟨x, (v, w), rfl, hq, by show Hp D dA G v w t.heap; rw [ht]; exact hH⟩, hS.F ht⟩) hS.2.2 hd E.2.2.2.2.2.2.2.2
theorem J_vret {post : Mv → Mw → Prop} (E : Cx p R s m meth c cells slots cc nL own D dA G (dm G)) (hr : meth.sig.returnType = none) (hd : decode cc pc = .ok (.return_, 1)) (hq : post v w) : J p l e R s m args below meth c cells slots (MQ below (QcV D dA G post) args s cells slots (dm G)) D dA G (dm G) s.heap nL v w lv pc ([]) :=
  fun H locs ls hH hS hl => W.vret E.1 E.2.1 hr (fun t ht hW => ⟨⟨(v, w), rfl, hq, by show Hp D dA G v w t.heap; rw [ht]; exact hH⟩, hS.F ht⟩) hS.2.2 hd E.2.2.2.2.2.2.2.2
/-- what the tables say of a method that is called -/
def CalV (y : MethodName) (bytes : ByteArray) (maxL : Nat) (ret : Option FieldType) (n : Nat) : Prop := Cond.code y bytes maxL ret ∈ lw_tbl ∧ Cond.initialized y.cls ∈ lw_tbl ∧ Cond.instanceMethod y ∈ lw_tbl ∧ Cond.selects y.cls y y ∈ lw_tbl ∧ y.cls ≠ "java/lang/invoke/MethodHandle" ∧ y.cls ≠ "java/lang/invoke/VarHandle" ∧ (parseMethodDescriptor y.desc).map (fun d => d.parameters.length) = some n
def CalS (y : MethodName) (bytes : ByteArray) (maxL : Nat) (ret : Option FieldType) (n : Nat) : Prop := Cond.code y bytes maxL ret ∈ lw_tbl ∧ Cond.initialized y.cls ∈ lw_tbl ∧ Cond.static y ∈ lw_tbl ∧ y.cls ≠ "java/lang/invoke/MethodHandle" ∧ y.cls ≠ "java/lang/invoke/VarHandle" ∧ (parseMethodDescriptor y.desc).map (fun d => d.parameters.length) = some n
variable {y : MethodName} {bytes : ByteArray} {maxL n index ci N : Nat} {ret : Option FieldType} {rm : Room} {As rest : List Value} {a : Nat} {fs : List Fk} {T : u_T} {host : String}
theorem J_callVI {post : Int32 → Mv → Mw → Prop} (E : Cx p R s m meth c cells slots cc nL own D dA G A) (hc : CalV y bytes maxL ret n) (hl0 : Cond.methodLink own index y ∈ lw_tbl) (hcl : classes[ci]? = some (y.cls, T, N)) (hG : G a = some (.inl (ci, fs))) (As : List Value) (rest : List Value) (hM : CtI l y bytes maxL ret rm D dA G (.ref a :: As) v w post) (hn : As.length = n) (hst : st = As.reverse ++ .ref a :: rest) (hW0 : (rest.map fun v => v.category).sum ≤ 8) (hrm : rm.cells = 0 ∧ rm.slots = 0) (hR : rm.frames + 1 ≤ R.frames ∧ 8 + (maxL + 11) + rm.locals ≤ R.locals) (hd : decode cc pc = .ok (.invokevirtual index, 3)) (K : ∀ (r : Int32) (v1 : Mv) (w1 : Mw), post r v1 w1 → J p l e R s m args below meth c cells slots Q D dA G A H0 nL v1 w1 lv (pc + 3) (.int r :: rest)) : J p l e R s m args below meth c cells slots Q D dA G A H0 nL v w lv (pc) (st) := by
  intro H locs ls hH hS hl
  obtain ⟨hcd, hini, hinst, hsel, hd1, hd2, hd3⟩ := hc
  obtain ⟨hx, hb, hml, hown, hT, hK, hro, hA, -⟩ := E
  subst hst
  obtain ⟨r, h1, cell, q1, q2, q3, q4⟩ := hH a _ hG
  have hr : r = (y.cls, T, N) := Option.some.inj (h1.symm.trans hcl)
  subst hr
  have hpV : PreV s H y.cls a (PcM D dA G (.ref a :: As) v w) As := ⟨PcM.blind, ⟨cell, q1, by rw [q3]; rfl, by rw [q2]; exact (hK.1 ci _ hcl).2.1⟩, fun U hU hW => ⟨rfl, by rw [hU]; exact hH, va_K.moved hW.alike hK, hT.moved hW⟩⟩
  refine va_calli (va_runV (C := y.cls) (Ts := []) (n := n) (rest := rest) (As := As) ⟨hx, hb, hml, hown, fun _ h => absurd h List.not_mem_nil⟩ hM ⟨⟨hrm.1, hrm.2, hR.1, hR.2, (fun w hw a' U hW => by rw [List.mem_singleton.mp hw]; exact word_at hW (Or.inl rfl) (hT.use hcd rfl args)), List.mem_singleton.mpr rfl, hT.use hcd rfl args, hT.use hini rfl args, ⟨hd1, hd2⟩, (fun sig h => by rw [h] at hd3; exact (Option.some.inj hd3).symm), hT.use hl0 rfl args⟩, hT.use hinst rfl args, hT.use hsel rfl args⟩ hpV rfl hn hl.1 rfl (lv_room hW0) hd hro) hS (fun q _ h => hA q h) (fun q h => hA q h) (fun r u t H1 locs1 ht hvm hw hB hz hk hS1 => K r u.1 u.2 hw H1 locs1 ls (by rw [← ht]; exact hB) hS1 hl)
theorem J_callVL {post : Int64 → Mv → Mw → Prop} (E : Cx p R s m meth c cells slots cc nL own D dA G A) (hc : CalV y bytes maxL ret n) (hl0 : Cond.methodLink own index y ∈ lw_tbl) (hcl : classes[ci]? = some (y.cls, T, N)) (hG : G a = some (.inl (ci, fs))) (As : List Value) (rest : List Value) (hM : CtL l y bytes maxL ret rm D dA G (.ref a :: As) v w post) (hn : As.length = n) (hst : st = As.reverse ++ .ref a :: rest) (hW0 : (rest.map fun v => v.category).sum ≤ 8) (hrm : rm.cells = 0 ∧ rm.slots = 0) (hR : rm.frames + 1 ≤ R.frames ∧ 8 + (maxL + 11) + rm.locals ≤ R.locals) (hd : decode cc pc = .ok (.invokevirtual index, 3)) (K : ∀ (r : Int64) (v1 : Mv) (w1 : Mw), post r v1 w1 → J p l e R s m args below meth c cells slots Q D dA G A H0 nL v1 w1 lv (pc + 3) (.long r :: rest)) : J p l e R s m args below meth c cells slots Q D dA G A H0 nL v w lv (pc) (st) := by
  intro H locs ls hH hS hl
  obtain ⟨hcd, hini, hinst, hsel, hd1, hd2, hd3⟩ := hc
  obtain ⟨hx, hb, hml, hown, hT, hK, hro, hA, -⟩ := E
  subst hst
  obtain ⟨r, h1, cell, q1, q2, q3, q4⟩ := hH a _ hG
  have hr : r = (y.cls, T, N) := Option.some.inj (h1.symm.trans hcl)
  subst hr
  have hpV : PreV s H y.cls a (PcM D dA G (.ref a :: As) v w) As := ⟨PcM.blind, ⟨cell, q1, by rw [q3]; rfl, by rw [q2]; exact (hK.1 ci _ hcl).2.1⟩, fun U hU hW => ⟨rfl, by rw [hU]; exact hH, va_K.moved hW.alike hK, hT.moved hW⟩⟩
  refine va_calll (va_runV (C := y.cls) (Ts := []) (n := n) (rest := rest) (As := As) ⟨hx, hb, hml, hown, fun _ h => absurd h List.not_mem_nil⟩ hM ⟨⟨hrm.1, hrm.2, hR.1, hR.2, (fun w hw a' U hW => by rw [List.mem_singleton.mp hw]; exact word_at hW (Or.inl rfl) (hT.use hcd rfl args)), List.mem_singleton.mpr rfl, hT.use hcd rfl args, hT.use hini rfl args, ⟨hd1, hd2⟩, (fun sig h => by rw [h] at hd3; exact (Option.some.inj hd3).symm), hT.use hl0 rfl args⟩, hT.use hinst rfl args, hT.use hsel rfl args⟩ hpV rfl hn hl.1 rfl (lv_room hW0) hd hro) hS (fun q _ h => hA q h) (fun q h => hA q h) (fun r u t H1 locs1 ht hvm hw hB hz hk hS1 => K r u.1 u.2 hw H1 locs1 ls (by rw [← ht]; exact hB) hS1 hl)
theorem J_callVV {post : Mv → Mw → Prop} (E : Cx p R s m meth c cells slots cc nL own D dA G A) (hc : CalV y bytes maxL ret n) (hl0 : Cond.methodLink own index y ∈ lw_tbl) (hcl : classes[ci]? = some (y.cls, T, N)) (hG : G a = some (.inl (ci, fs))) (As : List Value) (rest : List Value) (hM : CtV l y bytes maxL ret rm D dA G (.ref a :: As) v w post) (hn : As.length = n) (hst : st = As.reverse ++ .ref a :: rest) (hW0 : (rest.map fun v => v.category).sum ≤ 8) (hrm : rm.cells = 0 ∧ rm.slots = 0) (hR : rm.frames + 1 ≤ R.frames ∧ 8 + (maxL + 11) + rm.locals ≤ R.locals) (hd : decode cc pc = .ok (.invokevirtual index, 3)) (K : ∀ (v1 : Mv) (w1 : Mw), post v1 w1 → J p l e R s m args below meth c cells slots Q D dA G A H0 nL v1 w1 lv (pc + 3) (rest)) : J p l e R s m args below meth c cells slots Q D dA G A H0 nL v w lv (pc) (st) := by
  intro H locs ls hH hS hl
  obtain ⟨hcd, hini, hinst, hsel, hd1, hd2, hd3⟩ := hc
  obtain ⟨hx, hb, hml, hown, hT, hK, hro, hA, -⟩ := E
  subst hst
  obtain ⟨r, h1, cell, q1, q2, q3, q4⟩ := hH a _ hG
  have hr : r = (y.cls, T, N) := Option.some.inj (h1.symm.trans hcl)
  subst hr
  have hpV : PreV s H y.cls a (PcM D dA G (.ref a :: As) v w) As := ⟨PcM.blind, ⟨cell, q1, by rw [q3]; rfl, by rw [q2]; exact (hK.1 ci _ hcl).2.1⟩, fun U hU hW => ⟨rfl, by rw [hU]; exact hH, va_K.moved hW.alike hK, hT.moved hW⟩⟩
  refine va_callv (va_runV (C := y.cls) (Ts := []) (n := n) (rest := rest) (As := As) ⟨hx, hb, hml, hown, fun _ h => absurd h List.not_mem_nil⟩ hM ⟨⟨hrm.1, hrm.2, hR.1, hR.2, (fun w hw a' U hW => by rw [List.mem_singleton.mp hw]; exact word_at hW (Or.inl rfl) (hT.use hcd rfl args)), List.mem_singleton.mpr rfl, hT.use hcd rfl args, hT.use hini rfl args, ⟨hd1, hd2⟩, (fun sig h => by rw [h] at hd3; exact (Option.some.inj hd3).symm), hT.use hl0 rfl args⟩, hT.use hinst rfl args, hT.use hsel rfl args⟩ hpV rfl hn hl.1 rfl (lv_room hW0) hd hro) hS (fun q _ h => hA q h) (fun q h => hA q h) (fun u t H1 locs1 ht hvm hw hB hz hk hS1 => K u.1 u.2 hw H1 locs1 ls (by rw [← ht]; exact hB) hS1 hl)
theorem J_callVNI {post : Int32 → Mv → Mw → Prop} (E : Cx p R s m meth c cells slots cc nL own D dA G A) (hc : CalV y bytes maxL ret n) (hl0 : Cond.methodLinkNest own index y host ∈ lw_tbl) (hcl : classes[ci]? = some (y.cls, T, N)) (hG : G a = some (.inl (ci, fs))) (As : List Value) (rest : List Value) (hM : CtI l y bytes maxL ret rm D dA G (.ref a :: As) v w post) (hn : As.length = n) (hst : st = As.reverse ++ .ref a :: rest) (hW0 : (rest.map fun v => v.category).sum ≤ 8) (hrm : rm.cells = 0 ∧ rm.slots = 0) (hR : rm.frames + 1 ≤ R.frames ∧ 8 + (maxL + 11) + rm.locals ≤ R.locals) (hd : decode cc pc = .ok (.invokevirtual index, 3)) (K : ∀ (r : Int32) (v1 : Mv) (w1 : Mw), post r v1 w1 → J p l e R s m args below meth c cells slots Q D dA G A H0 nL v1 w1 lv (pc + 3) (.int r :: rest)) : J p l e R s m args below meth c cells slots Q D dA G A H0 nL v w lv (pc) (st) := by
  intro H locs ls hH hS hl
  obtain ⟨hcd, hini, hinst, hsel, hd1, hd2, hd3⟩ := hc
  obtain ⟨hx, hb, hml, hown, hT, hK, hro, hA, -⟩ := E
  subst hst
  obtain ⟨r, h1, cell, q1, q2, q3, q4⟩ := hH a _ hG
  have hr : r = (y.cls, T, N) := Option.some.inj (h1.symm.trans hcl)
  subst hr
  have hpV : PreV s H y.cls a (PcM D dA G (.ref a :: As) v w) As := ⟨PcM.blind, ⟨cell, q1, by rw [q3]; rfl, by rw [q2]; exact (hK.1 ci _ hcl).2.1⟩, fun U hU hW => ⟨rfl, by rw [hU]; exact hH, va_K.moved hW.alike hK, hT.moved hW⟩⟩
  refine va_calli (va_runVN (C := y.cls) (Ts := []) (n := n) (rest := rest) (As := As) ⟨hx, hb, hml, hown, fun _ h => absurd h List.not_mem_nil⟩ hM ⟨⟨⟨hrm.1, hrm.2, hR.1, hR.2, (fun w hw a' U hW => by rw [List.mem_singleton.mp hw]; exact word_at hW (Or.inl rfl) (hT.use hcd rfl args)), List.mem_singleton.mpr rfl⟩, hT.use hcd rfl args, hT.use hini rfl args, ⟨hd1, hd2⟩, (fun sig h => by rw [h] at hd3; exact (Option.some.inj hd3).symm), hT.use hl0 rfl args⟩, hT.use hinst rfl args, hT.use hsel rfl args⟩ hpV rfl hn hl.1 rfl (lv_room hW0) hd hro) hS (fun q _ h => hA q h) (fun q h => hA q h) (fun r u t H1 locs1 ht hvm hw hB hz hk hS1 => K r u.1 u.2 hw H1 locs1 ls (by rw [← ht]; exact hB) hS1 hl)
theorem J_callVNL {post : Int64 → Mv → Mw → Prop} (E : Cx p R s m meth c cells slots cc nL own D dA G A) (hc : CalV y bytes maxL ret n) (hl0 : Cond.methodLinkNest own index y host ∈ lw_tbl) (hcl : classes[ci]? = some (y.cls, T, N)) (hG : G a = some (.inl (ci, fs))) (As : List Value) (rest : List Value) (hM : CtL l y bytes maxL ret rm D dA G (.ref a :: As) v w post) (hn : As.length = n) (hst : st = As.reverse ++ .ref a :: rest) (hW0 : (rest.map fun v => v.category).sum ≤ 8) (hrm : rm.cells = 0 ∧ rm.slots = 0) (hR : rm.frames + 1 ≤ R.frames ∧ 8 + (maxL + 11) + rm.locals ≤ R.locals) (hd : decode cc pc = .ok (.invokevirtual index, 3)) (K : ∀ (r : Int64) (v1 : Mv) (w1 : Mw), post r v1 w1 → J p l e R s m args below meth c cells slots Q D dA G A H0 nL v1 w1 lv (pc + 3) (.long r :: rest)) : J p l e R s m args below meth c cells slots Q D dA G A H0 nL v w lv (pc) (st) := by
  intro H locs ls hH hS hl
  obtain ⟨hcd, hini, hinst, hsel, hd1, hd2, hd3⟩ := hc
  obtain ⟨hx, hb, hml, hown, hT, hK, hro, hA, -⟩ := E
  subst hst
  obtain ⟨r, h1, cell, q1, q2, q3, q4⟩ := hH a _ hG
  have hr : r = (y.cls, T, N) := Option.some.inj (h1.symm.trans hcl)
  subst hr
  have hpV : PreV s H y.cls a (PcM D dA G (.ref a :: As) v w) As := ⟨PcM.blind, ⟨cell, q1, by rw [q3]; rfl, by rw [q2]; exact (hK.1 ci _ hcl).2.1⟩, fun U hU hW => ⟨rfl, by rw [hU]; exact hH, va_K.moved hW.alike hK, hT.moved hW⟩⟩
  refine va_calll (va_runVN (C := y.cls) (Ts := []) (n := n) (rest := rest) (As := As) ⟨hx, hb, hml, hown, fun _ h => absurd h List.not_mem_nil⟩ hM ⟨⟨⟨hrm.1, hrm.2, hR.1, hR.2, (fun w hw a' U hW => by rw [List.mem_singleton.mp hw]; exact word_at hW (Or.inl rfl) (hT.use hcd rfl args)), List.mem_singleton.mpr rfl⟩, hT.use hcd rfl args, hT.use hini rfl args, ⟨hd1, hd2⟩, (fun sig h => by rw [h] at hd3; exact (Option.some.inj hd3).symm), hT.use hl0 rfl args⟩, hT.use hinst rfl args, hT.use hsel rfl args⟩ hpV rfl hn hl.1 rfl (lv_room hW0) hd hro) hS (fun q _ h => hA q h) (fun q h => hA q h) (fun r u t H1 locs1 ht hvm hw hB hz hk hS1 => K r u.1 u.2 hw H1 locs1 ls (by rw [← ht]; exact hB) hS1 hl)
theorem J_callVNV {post : Mv → Mw → Prop} (E : Cx p R s m meth c cells slots cc nL own D dA G A) (hc : CalV y bytes maxL ret n) (hl0 : Cond.methodLinkNest own index y host ∈ lw_tbl) (hcl : classes[ci]? = some (y.cls, T, N)) (hG : G a = some (.inl (ci, fs))) (As : List Value) (rest : List Value) (hM : CtV l y bytes maxL ret rm D dA G (.ref a :: As) v w post) (hn : As.length = n) (hst : st = As.reverse ++ .ref a :: rest) (hW0 : (rest.map fun v => v.category).sum ≤ 8) (hrm : rm.cells = 0 ∧ rm.slots = 0) (hR : rm.frames + 1 ≤ R.frames ∧ 8 + (maxL + 11) + rm.locals ≤ R.locals) (hd : decode cc pc = .ok (.invokevirtual index, 3)) (K : ∀ (v1 : Mv) (w1 : Mw), post v1 w1 → J p l e R s m args below meth c cells slots Q D dA G A H0 nL v1 w1 lv (pc + 3) (rest)) : J p l e R s m args below meth c cells slots Q D dA G A H0 nL v w lv (pc) (st) := by
  intro H locs ls hH hS hl
  obtain ⟨hcd, hini, hinst, hsel, hd1, hd2, hd3⟩ := hc
  obtain ⟨hx, hb, hml, hown, hT, hK, hro, hA, -⟩ := E
  subst hst
  obtain ⟨r, h1, cell, q1, q2, q3, q4⟩ := hH a _ hG
  have hr : r = (y.cls, T, N) := Option.some.inj (h1.symm.trans hcl)
  subst hr
  have hpV : PreV s H y.cls a (PcM D dA G (.ref a :: As) v w) As := ⟨PcM.blind, ⟨cell, q1, by rw [q3]; rfl, by rw [q2]; exact (hK.1 ci _ hcl).2.1⟩, fun U hU hW => ⟨rfl, by rw [hU]; exact hH, va_K.moved hW.alike hK, hT.moved hW⟩⟩
  refine va_callv (va_runVN (C := y.cls) (Ts := []) (n := n) (rest := rest) (As := As) ⟨hx, hb, hml, hown, fun _ h => absurd h List.not_mem_nil⟩ hM ⟨⟨⟨hrm.1, hrm.2, hR.1, hR.2, (fun w hw a' U hW => by rw [List.mem_singleton.mp hw]; exact word_at hW (Or.inl rfl) (hT.use hcd rfl args)), List.mem_singleton.mpr rfl⟩, hT.use hcd rfl args, hT.use hini rfl args, ⟨hd1, hd2⟩, (fun sig h => by rw [h] at hd3; exact (Option.some.inj hd3).symm), hT.use hl0 rfl args⟩, hT.use hinst rfl args, hT.use hsel rfl args⟩ hpV rfl hn hl.1 rfl (lv_room hW0) hd hro) hS (fun q _ h => hA q h) (fun q h => hA q h) (fun u t H1 locs1 ht hvm hw hB hz hk hS1 => K u.1 u.2 hw H1 locs1 ls (by rw [← ht]; exact hB) hS1 hl)
theorem J_callSI {post : Int32 → Mv → Mw → Prop} (E : Cx p R s m meth c cells slots cc nL own D dA G A) (hc : CalS y bytes maxL ret n) (hl0 : Cond.methodLink own index y ∈ lw_tbl) (As : List Value) (rest : List Value) (hM : CtI l y bytes maxL ret rm D dA G As v w post) (hn : As.length = n) (hst : st = As.reverse ++ rest) (hW0 : (rest.map fun v => v.category).sum ≤ 8) (hrm : rm.cells = 0 ∧ rm.slots = 0) (hR : rm.frames + 1 ≤ R.frames ∧ 8 + (maxL + 11) + rm.locals ≤ R.locals) (hd : decode cc pc = .ok (.invokestatic index, 3)) (K : ∀ (r : Int32) (v1 : Mv) (w1 : Mw), post r v1 w1 → J p l e R s m args below meth c cells slots Q D dA G A H0 nL v1 w1 lv (pc + 3) (.int r :: rest)) : J p l e R s m args below meth c cells slots Q D dA G A H0 nL v w lv (pc) (st) := by
  intro H locs ls hH hS hl
  obtain ⟨hcd, hini, hinst, hd1, hd2, hd3⟩ := hc
  obtain ⟨hx, hb, hml, hown, hT, hK, hro, hA, -⟩ := E
  subst hst
  have hpV : PreS s H (PcM D dA G As v w) As := ⟨PcM.blind, fun U hU hW => ⟨rfl, by rw [hU]; exact hH, va_K.moved hW.alike hK, hT.moved hW⟩⟩
  refine va_calli (va_runS (Ts := []) (n := n) (rest := rest) (As := As) ⟨hx, hb, hml, hown, fun _ h => absurd h List.not_mem_nil⟩ hM ⟨⟨hrm.1, hrm.2, hR.1, hR.2, (fun w hw a' U hW => by rw [List.mem_singleton.mp hw]; exact word_at hW (Or.inl rfl) (hT.use hcd rfl args)), List.mem_singleton.mpr rfl, hT.use hcd rfl args, hT.use hini rfl args, ⟨hd1, hd2⟩, (fun sig h => by rw [h] at hd3; exact (Option.some.inj hd3).symm), hT.use hl0 rfl args⟩, hT.use hinst rfl args⟩ hpV rfl hn hl.1 rfl (lv_room hW0) hd hro) hS (fun q _ h => hA q h) (fun q h => hA q h) (fun r u t H1 locs1 ht hvm hw hB hz hk hS1 => K r u.1 u.2 hw H1 locs1 ls (by rw [← ht]; exact hB) hS1 hl)
theorem J_callSL {post : Int64 → Mv → Mw → Prop} (E : Cx p R s m meth c cells slots cc nL own D dA G A) (hc : CalS y bytes maxL ret n) (hl0 : Cond.methodLink own index y ∈ lw_tbl) (As : List Value) (rest : List Value) (hM : CtL l y bytes maxL ret rm D dA G As v w post) (hn : As.length = n) (hst : st = As.reverse ++ rest) (hW0 : (rest.map fun v => v.category).sum ≤ 8) (hrm : rm.cells = 0 ∧ rm.slots = 0) (hR : rm.frames + 1 ≤ R.frames ∧ 8 + (maxL + 11) + rm.locals ≤ R.locals) (hd : decode cc pc = .ok (.invokestatic index, 3)) (K : ∀ (r : Int64) (v1 : Mv) (w1 : Mw), post r v1 w1 → J p l e R s m args below meth c cells slots Q D dA G A H0 nL v1 w1 lv (pc + 3) (.long r :: rest)) : J p l e R s m args below meth c cells slots Q D dA G A H0 nL v w lv (pc) (st) := by
  intro H locs ls hH hS hl
  obtain ⟨hcd, hini, hinst, hd1, hd2, hd3⟩ := hc
  obtain ⟨hx, hb, hml, hown, hT, hK, hro, hA, -⟩ := E
  subst hst
  have hpV : PreS s H (PcM D dA G As v w) As := ⟨PcM.blind, fun U hU hW => ⟨rfl, by rw [hU]; exact hH, va_K.moved hW.alike hK, hT.moved hW⟩⟩
  refine va_calll (va_runS (Ts := []) (n := n) (rest := rest) (As := As) ⟨hx, hb, hml, hown, fun _ h => absurd h List.not_mem_nil⟩ hM ⟨⟨hrm.1, hrm.2, hR.1, hR.2, (fun w hw a' U hW => by rw [List.mem_singleton.mp hw]; exact word_at hW (Or.inl rfl) (hT.use hcd rfl args)), List.mem_singleton.mpr rfl, hT.use hcd rfl args, hT.use hini rfl args, ⟨hd1, hd2⟩, (fun sig h => by rw [h] at hd3; exact (Option.some.inj hd3).symm), hT.use hl0 rfl args⟩, hT.use hinst rfl args⟩ hpV rfl hn hl.1 rfl (lv_room hW0) hd hro) hS (fun q _ h => hA q h) (fun q h => hA q h) (fun r u t H1 locs1 ht hvm hw hB hz hk hS1 => K r u.1 u.2 hw H1 locs1 ls (by rw [← ht]; exact hB) hS1 hl)
theorem J_callSV {post : Mv → Mw → Prop} (E : Cx p R s m meth c cells slots cc nL own D dA G A) (hc : CalS y bytes maxL ret n) (hl0 : Cond.methodLink own index y ∈ lw_tbl) (As : List Value) (rest : List Value) (hM : CtV l y bytes maxL ret rm D dA G As v w post) (hn : As.length = n) (hst : st = As.reverse ++ rest) (hW0 : (rest.map fun v => v.category).sum ≤ 8) (hrm : rm.cells = 0 ∧ rm.slots = 0) (hR : rm.frames + 1 ≤ R.frames ∧ 8 + (maxL + 11) + rm.locals ≤ R.locals) (hd : decode cc pc = .ok (.invokestatic index, 3)) (K : ∀ (v1 : Mv) (w1 : Mw), post v1 w1 → J p l e R s m args below meth c cells slots Q D dA G A H0 nL v1 w1 lv (pc + 3) (rest)) : J p l e R s m args below meth c cells slots Q D dA G A H0 nL v w lv (pc) (st) := by
  intro H locs ls hH hS hl
  obtain ⟨hcd, hini, hinst, hd1, hd2, hd3⟩ := hc
  obtain ⟨hx, hb, hml, hown, hT, hK, hro, hA, -⟩ := E
  subst hst
  have hpV : PreS s H (PcM D dA G As v w) As := ⟨PcM.blind, fun U hU hW => ⟨rfl, by rw [hU]; exact hH, va_K.moved hW.alike hK, hT.moved hW⟩⟩
  refine va_callv (va_runS (Ts := []) (n := n) (rest := rest) (As := As) ⟨hx, hb, hml, hown, fun _ h => absurd h List.not_mem_nil⟩ hM ⟨⟨hrm.1, hrm.2, hR.1, hR.2, (fun w hw a' U hW => by rw [List.mem_singleton.mp hw]; exact word_at hW (Or.inl rfl) (hT.use hcd rfl args)), List.mem_singleton.mpr rfl, hT.use hcd rfl args, hT.use hini rfl args, ⟨hd1, hd2⟩, (fun sig h => by rw [h] at hd3; exact (Option.some.inj hd3).symm), hT.use hl0 rfl args⟩, hT.use hinst rfl args⟩ hpV rfl hn hl.1 rfl (lv_room hW0) hd hro) hS (fun q _ h => hA q h) (fun q h => hA q h) (fun u t H1 locs1 ht hvm hw hB hz hk hS1 => K u.1 u.2 hw H1 locs1 ls (by rw [← ht]; exact hB) hS1 hl)
theorem J_callSNI {post : Int32 → Mv → Mw → Prop} (E : Cx p R s m meth c cells slots cc nL own D dA G A) (hc : CalS y bytes maxL ret n) (hl0 : Cond.methodLinkNest own index y host ∈ lw_tbl) (As : List Value) (rest : List Value) (hM : CtI l y bytes maxL ret rm D dA G As v w post) (hn : As.length = n) (hst : st = As.reverse ++ rest) (hW0 : (rest.map fun v => v.category).sum ≤ 8) (hrm : rm.cells = 0 ∧ rm.slots = 0) (hR : rm.frames + 1 ≤ R.frames ∧ 8 + (maxL + 11) + rm.locals ≤ R.locals) (hd : decode cc pc = .ok (.invokestatic index, 3)) (K : ∀ (r : Int32) (v1 : Mv) (w1 : Mw), post r v1 w1 → J p l e R s m args below meth c cells slots Q D dA G A H0 nL v1 w1 lv (pc + 3) (.int r :: rest)) : J p l e R s m args below meth c cells slots Q D dA G A H0 nL v w lv (pc) (st) := by
  intro H locs ls hH hS hl
  obtain ⟨hcd, hini, hinst, hd1, hd2, hd3⟩ := hc
  obtain ⟨hx, hb, hml, hown, hT, hK, hro, hA, -⟩ := E
  subst hst
  have hpV : PreS s H (PcM D dA G As v w) As := ⟨PcM.blind, fun U hU hW => ⟨rfl, by rw [hU]; exact hH, va_K.moved hW.alike hK, hT.moved hW⟩⟩
  refine va_calli (va_runSN (Ts := []) (n := n) (rest := rest) (As := As) ⟨hx, hb, hml, hown, fun _ h => absurd h List.not_mem_nil⟩ hM ⟨⟨⟨hrm.1, hrm.2, hR.1, hR.2, (fun w hw a' U hW => by rw [List.mem_singleton.mp hw]; exact word_at hW (Or.inl rfl) (hT.use hcd rfl args)), List.mem_singleton.mpr rfl⟩, hT.use hcd rfl args, hT.use hini rfl args, ⟨hd1, hd2⟩, (fun sig h => by rw [h] at hd3; exact (Option.some.inj hd3).symm), hT.use hl0 rfl args⟩, hT.use hinst rfl args, trivial⟩ hpV rfl hn hl.1 rfl (lv_room hW0) hd hro) hS (fun q _ h => hA q h) (fun q h => hA q h) (fun r u t H1 locs1 ht hvm hw hB hz hk hS1 => K r u.1 u.2 hw H1 locs1 ls (by rw [← ht]; exact hB) hS1 hl)
theorem J_callSNL {post : Int64 → Mv → Mw → Prop} (E : Cx p R s m meth c cells slots cc nL own D dA G A) (hc : CalS y bytes maxL ret n) (hl0 : Cond.methodLinkNest own index y host ∈ lw_tbl) (As : List Value) (rest : List Value) (hM : CtL l y bytes maxL ret rm D dA G As v w post) (hn : As.length = n) (hst : st = As.reverse ++ rest) (hW0 : (rest.map fun v => v.category).sum ≤ 8) (hrm : rm.cells = 0 ∧ rm.slots = 0) (hR : rm.frames + 1 ≤ R.frames ∧ 8 + (maxL + 11) + rm.locals ≤ R.locals) (hd : decode cc pc = .ok (.invokestatic index, 3)) (K : ∀ (r : Int64) (v1 : Mv) (w1 : Mw), post r v1 w1 → J p l e R s m args below meth c cells slots Q D dA G A H0 nL v1 w1 lv (pc + 3) (.long r :: rest)) : J p l e R s m args below meth c cells slots Q D dA G A H0 nL v w lv (pc) (st) := by
  intro H locs ls hH hS hl
  obtain ⟨hcd, hini, hinst, hd1, hd2, hd3⟩ := hc
  obtain ⟨hx, hb, hml, hown, hT, hK, hro, hA, -⟩ := E
  subst hst
  have hpV : PreS s H (PcM D dA G As v w) As := ⟨PcM.blind, fun U hU hW => ⟨rfl, by rw [hU]; exact hH, va_K.moved hW.alike hK, hT.moved hW⟩⟩
  refine va_calll (va_runSN (Ts := []) (n := n) (rest := rest) (As := As) ⟨hx, hb, hml, hown, fun _ h => absurd h List.not_mem_nil⟩ hM ⟨⟨⟨hrm.1, hrm.2, hR.1, hR.2, (fun w hw a' U hW => by rw [List.mem_singleton.mp hw]; exact word_at hW (Or.inl rfl) (hT.use hcd rfl args)), List.mem_singleton.mpr rfl⟩, hT.use hcd rfl args, hT.use hini rfl args, ⟨hd1, hd2⟩, (fun sig h => by rw [h] at hd3; exact (Option.some.inj hd3).symm), hT.use hl0 rfl args⟩, hT.use hinst rfl args, trivial⟩ hpV rfl hn hl.1 rfl (lv_room hW0) hd hro) hS (fun q _ h => hA q h) (fun q h => hA q h) (fun r u t H1 locs1 ht hvm hw hB hz hk hS1 => K r u.1 u.2 hw H1 locs1 ls (by rw [← ht]; exact hB) hS1 hl)
theorem J_callSNV {post : Mv → Mw → Prop} (E : Cx p R s m meth c cells slots cc nL own D dA G A) (hc : CalS y bytes maxL ret n) (hl0 : Cond.methodLinkNest own index y host ∈ lw_tbl) (As : List Value) (rest : List Value) (hM : CtV l y bytes maxL ret rm D dA G As v w post) (hn : As.length = n) (hst : st = As.reverse ++ rest) (hW0 : (rest.map fun v => v.category).sum ≤ 8) (hrm : rm.cells = 0 ∧ rm.slots = 0) (hR : rm.frames + 1 ≤ R.frames ∧ 8 + (maxL + 11) + rm.locals ≤ R.locals) (hd : decode cc pc = .ok (.invokestatic index, 3)) (K : ∀ (v1 : Mv) (w1 : Mw), post v1 w1 → J p l e R s m args below meth c cells slots Q D dA G A H0 nL v1 w1 lv (pc + 3) (rest)) : J p l e R s m args below meth c cells slots Q D dA G A H0 nL v w lv (pc) (st) := by
  intro H locs ls hH hS hl
  obtain ⟨hcd, hini, hinst, hd1, hd2, hd3⟩ := hc
  obtain ⟨hx, hb, hml, hown, hT, hK, hro, hA, -⟩ := E
  subst hst
  have hpV : PreS s H (PcM D dA G As v w) As := ⟨PcM.blind, fun U hU hW => ⟨rfl, by rw [hU]; exact hH, va_K.moved hW.alike hK, hT.moved hW⟩⟩
  refine va_callv (va_runSN (Ts := []) (n := n) (rest := rest) (As := As) ⟨hx, hb, hml, hown, fun _ h => absurd h List.not_mem_nil⟩ hM ⟨⟨⟨hrm.1, hrm.2, hR.1, hR.2, (fun w hw a' U hW => by rw [List.mem_singleton.mp hw]; exact word_at hW (Or.inl rfl) (hT.use hcd rfl args)), List.mem_singleton.mpr rfl⟩, hT.use hcd rfl args, hT.use hini rfl args, ⟨hd1, hd2⟩, (fun sig h => by rw [h] at hd3; exact (Option.some.inj hd3).symm), hT.use hl0 rfl args⟩, hT.use hinst rfl args, trivial⟩ hpV rfl hn hl.1 rfl (lv_room hW0) hd hro) hS (fun q _ h => hA q h) (fun q h => hA q h) (fun u t H1 locs1 ht hvm hw hB hz hk hS1 => K u.1 u.2 hw H1 locs1 ls (by rw [← ht]; exact hB) hS1 hl)
end CR
