/-! THE TABLES' WORDS IN ANY LATER STATE -/
def okw : Cond → Bool
  | .fieldLinkNest .. => true
  | .methodLinkNest .. => true
  | .arrayOver (.object _) => true
  | w => goodWord w
def Tb (U : State) : Prop := ∀ w ∈ lw_tbl, okw w = true → va_Nw w U
theorem Tb.of {U : State} {A : Array Value} (h : ∀ w ∈ lw_tbl, w.before A U = true) : Tb U := by
  intro w hw ho
  have h1 := h w hw
  unfold okw at ho
  split at ho
  · exact va_Nw.of rfl h1
  · exact va_Nw.of rfl h1
  · exact h1
  · exact word_at (State.WarmedH.refl U) (good_of_word ho) h1
theorem Tb.use {U : State} (h : Tb U) {w : Cond} (hw : w ∈ lw_tbl) (ho : okw w = true) (A : Array Value) : w.before A U = true := by
  have h1 := h w hw ho
  unfold okw at ho
  split at ho
  · exact va_Nw.use rfl h1
  · exact va_Nw.use rfl h1
  · exact h1
  · exact word_at (State.WarmedH.refl U) (good_of_word ho) h1
theorem Tb.moved {s U : State} (h : Tb s) (hW : s.WarmedH U.vm) : Tb U := by
  intro w hw ho
  have h1 := h w hw ho
  unfold okw at ho
  split at ho
  · exact va_Nw.warmF hW h1
  · exact va_Nw.warmM hW h1
  · exact va_AO.moved hW.alike h1
  · exact word_at hW (good_of_word ho) h1
theorem Tb.call {U : State} (h : Tb U) (a : Array Value) (g : JFrame) (mk : MethodId) : Tb (U.calling g mk a) := h.moved (State.WarmedH.refl U)
/-- what a walk stands on -/
def Cx (p : Program) (R : Room) (s : State) (m : MethodId) (meth : Method) (c : Code) (cells slots : Nat) (cc : ByteArray) (nL : Nat) (own : String) (D : va_G) (dA : Nat → ClassId) (G : Gm) (A : Nat → Prop) : Prop :=
  p.tables.exec = Jvm.exec ∧ c.code = cc ∧ c.maxLocals = nL ∧ s.vm.findClass own = some m.cls ∧ Tb s ∧ va_K D classes (tysA dA) s ∧ (cells ≤ R.cells ∧ slots ≤ R.slots) ∧ (∀ q, (G q).isSome = true → A q) ∧ meth.locks = false
/-- from the memory v, w, with locals lv, at pc with the stack st, the machine comes to Q -/
def J (p : Program) (l : Launch) (e : Env) (R : Room) (s : State) (m : MethodId) (args : Array Value) (below : List Frame) (meth : Method) (c : Code) (cells slots : Nat) (Q : State → Prop) (D : va_G) (dA : Nat → ClassId) (G : Gm) (A : Nat → Prop) (H0 : Heap) (nL : Nat) (v : Mv) (w : Mw) (lv : List (Nat × Value)) (pc : Nat) (st : List Value) : Prop :=
  ∀ (H : Heap) (locs : List Loc) (ls : Array Slot), Hp D dA G v w H → va_S A H0 H locs → lv_has ls nL lv → W p l e R s m args below meth c H locs cells slots Q (F0 m pc ls st)
section JR
variable {p : Program} {l : Launch} {e : Env} {R : Room} {s : State} {m : MethodId} {args : Array Value} {below : List Frame} {meth : Method} {c : Code} {cells slots : Nat} {Q : State → Prop} {D : va_G} {dA : Nat → ClassId} {G : Gm} {A : Nat → Prop} {H0 : Heap} {nL : Nat} {cc : ByteArray} {own : String} {v : Mv} {w : Mw} {lv lv' : List (Nat × Value)} {pc : Nat} {st : List Value}
theorem J.sub (ks : List Nat) (hl : lv_pick lv ks = lv') (K : J p l e R s m args below meth c cells slots Q D dA G A H0 nL v w lv' (pc) (st)) : J p l e R s m args below meth c cells slots Q D dA G A H0 nL v w lv (pc) (st) := fun H locs ls hH hS h => K H locs ls hH hS (lv_sub h ks hl)
theorem J.mem {v1 : Mv} {w1 : Mw} (h1 : v = v1) (h2 : w = w1) (K : J p l e R s m args below meth c cells slots Q D dA G A H0 nL v1 w1 lv (pc) (st)) : J p l e R s m args below meth c cells slots Q D dA G A H0 nL v w lv (pc) (st) := by subst h1; subst h2; exact K
theorem J_iconst (E : Cx p R s m meth c cells slots cc nL own D dA G A) {n : Int} (x : Int32) (hd : decode cc pc = .ok (.iconst n, 1)) (hv : Int32.ofInt n = x) (K : J p l e R s m args below meth c cells slots Q D dA G A H0 nL v w lv (pc + 1) (.int x :: st)) : J p l e R s m args below meth c cells slots Q D dA G A H0 nL v w lv (pc) (st) := fun H locs ls hH hS hl => lv_iconst E.1 E.2.1 hd hv (K H locs ls hH hS hl)
theorem J_bipush (E : Cx p R s m meth c cells slots cc nL own D dA G A) {n : Int} (x : Int32) (hd : decode cc pc = .ok (.bipush n, 2)) (hv : (Int8.ofInt n).toInt32 = x) (K : J p l e R s m args below meth c cells slots Q D dA G A H0 nL v w lv (pc + 2) (.int x :: st)) : J p l e R s m args below meth c cells slots Q D dA G A H0 nL v w lv (pc) (st) := fun H locs ls hH hS hl => lv_bipush E.1 E.2.1 hd hv (K H locs ls hH hS hl)
theorem J_sipush (E : Cx p R s m meth c cells slots cc nL own D dA G A) {n : Int} (x : Int32) (hd : decode cc pc = .ok (.sipush n, 3)) (hv : (Int16.ofInt n).toInt32 = x) (K : J p l e R s m args below meth c cells slots Q D dA G A H0 nL v w lv (pc + 3) (.int x :: st)) : J p l e R s m args below meth c cells slots Q D dA G A H0 nL v w lv (pc) (st) := fun H locs ls hH hS hl => lv_sipush E.1 E.2.1 hd hv (K H locs ls hH hS hl)
theorem J_lconst (E : Cx p R s m meth c cells slots cc nL own D dA G A) {n : Fin 2} (x : Int64) (hd : decode cc pc = .ok (.lconst n, 1)) (hv : Int64.ofNat (n : Nat) = x) (K : J p l e R s m args below meth c cells slots Q D dA G A H0 nL v w lv (pc + 1) (.long x :: st)) : J p l e R s m args below meth c cells slots Q D dA G A H0 nL v w lv (pc) (st) := fun H locs ls hH hS hl => lv_lconst E.1 E.2.1 hd hv (K H locs ls hH hS hl)
theorem J_iload_n (E : Cx p R s m meth c cells slots cc nL own D dA G A) {k : Fin 4} {x : Int32} (hd : decode cc pc = .ok (.iload_n k, 1)) (i : Nat) (hk : lv[i]? = some ((k : Nat), .int x)) (K : J p l e R s m args below meth c cells slots Q D dA G A H0 nL v w lv (pc + 1) (.int x :: st)) : J p l e R s m args below meth c cells slots Q D dA G A H0 nL v w lv (pc) (st) := fun H locs ls hH hS hl => lv_iload_n E.1 E.2.1 hd rfl (lv_at hl i hk) (K H locs ls hH hS hl)
theorem J_iload (E : Cx p R s m meth c cells slots cc nL own D dA G A) {k : Nat} {x : Int32} (hd : decode cc pc = .ok (.iload k, 2)) (i : Nat) (hk : lv[i]? = some (k, .int x)) (K : J p l e R s m args below meth c cells slots Q D dA G A H0 nL v w lv (pc + 2) (.int x :: st)) : J p l e R s m args below meth c cells slots Q D dA G A H0 nL v w lv (pc) (st) := fun H locs ls hH hS hl => lv_iload E.1 E.2.1 hd (lv_at hl i hk) (K H locs ls hH hS hl)
theorem J_istore_n (E : Cx p R s m meth c cells slots cc nL own D dA G A) {k : Fin 4} {i : Nat} {x : Int32} (lv' : List (Nat × Value)) (hd : decode cc pc = .ok (.istore_n k, 1)) (hi : (k : Nat) = i) (hn : i < nL) (hl : (i, Value.int x) :: lv.filter (fun q => !(q.1 == i) && !(q.1 + 1 == i && q.2.category == 2)) = lv') (K : J p l e R s m args below meth c cells slots Q D dA G A H0 nL v w lv' (pc + 1) (st)) : J p l e R s m args below meth c cells slots Q D dA G A H0 nL v w lv (pc) (.int x :: st) := fun H locs ls hH hS h => lv_istore_n E.1 E.2.1 hd hi h hn hl (fun ls' h' => K H locs ls' hH hS h')
theorem J_istore (E : Cx p R s m meth c cells slots cc nL own D dA G A) {i : Nat} {x : Int32} (lv' : List (Nat × Value)) (hd : decode cc pc = .ok (.istore i, 2)) (hn : i < nL) (hl : (i, Value.int x) :: lv.filter (fun q => !(q.1 == i) && !(q.1 + 1 == i && q.2.category == 2)) = lv') (K : J p l e R s m args below meth c cells slots Q D dA G A H0 nL v w lv' (pc + 2) (st)) : J p l e R s m args below meth c cells slots Q D dA G A H0 nL v w lv (pc) (.int x :: st) := fun H locs ls hH hS h => lv_istore E.1 E.2.1 hd h hn hl (fun ls' h' => K H locs ls' hH hS h')
theorem J_lload_n (E : Cx p R s m meth c cells slots cc nL own D dA G A) {k : Fin 4} {x : Int64} (hd : decode cc pc = .ok (.lload_n k, 1)) (i : Nat) (hk : lv[i]? = some ((k : Nat), .long x)) (K : J p l e R s m args below meth c cells slots Q D dA G A H0 nL v w lv (pc + 1) (.long x :: st)) : J p l e R s m args below meth c cells slots Q D dA G A H0 nL v w lv (pc) (st) := fun H locs ls hH hS hl => lv_lload_n E.1 E.2.1 hd rfl (lv_at hl i hk) (K H locs ls hH hS hl)
theorem J_lload (E : Cx p R s m meth c cells slots cc nL own D dA G A) {k : Nat} {x : Int64} (hd : decode cc pc = .ok (.lload k, 2)) (i : Nat) (hk : lv[i]? = some (k, .long x)) (K : J p l e R s m args below meth c cells slots Q D dA G A H0 nL v w lv (pc + 2) (.long x :: st)) : J p l e R s m args below meth c cells slots Q D dA G A H0 nL v w lv (pc) (st) := fun H locs ls hH hS hl => lv_lload E.1 E.2.1 hd (lv_at hl i hk) (K H locs ls hH hS hl)
theorem J_lstore_n (E : Cx p R s m meth c cells slots cc nL own D dA G A) {k : Fin 4} {i : Nat} {x : Int64} (lv' : List (Nat × Value)) (hd : decode cc pc = .ok (.lstore_n k, 1)) (hi : (k : Nat) = i) (hn : i + 1 < nL) (hl : (i, Value.long x) :: lv.filter (fun q => !(q.1 == i) && (!(q.1 == i + 1) && !(q.1 + 1 == i && q.2.category == 2))) = lv') (K : J p l e R s m args below meth c cells slots Q D dA G A H0 nL v w lv' (pc + 1) (st)) : J p l e R s m args below meth c cells slots Q D dA G A H0 nL v w lv (pc) (.long x :: st) := fun H locs ls hH hS h => lv_lstore_n E.1 E.2.1 hd hi h hn hl (fun ls' h' => K H locs ls' hH hS h')
theorem J_lstore (E : Cx p R s m meth c cells slots cc nL own D dA G A) {i : Nat} {x : Int64} (lv' : List (Nat × Value)) (hd : decode cc pc = .ok (.lstore i, 2)) (hn : i + 1 < nL) (hl : (i, Value.long x) :: lv.filter (fun q => !(q.1 == i) && (!(q.1 == i + 1) && !(q.1 + 1 == i && q.2.category == 2))) = lv') (K : J p l e R s m args below meth c cells slots Q D dA G A H0 nL v w lv' (pc + 2) (st)) : J p l e R s m args below meth c cells slots Q D dA G A H0 nL v w lv (pc) (.long x :: st) := fun H locs ls hH hS h => lv_lstore E.1 E.2.1 hd h hn hl (fun ls' h' => K H locs ls' hH hS h')
theorem J_aload_n (E : Cx p R s m meth c cells slots cc nL own D dA G A) {k : Fin 4} {x : Nat} (hd : decode cc pc = .ok (.aload_n k, 1)) (i : Nat) (hk : lv[i]? = some ((k : Nat), .ref x)) (K : J p l e R s m args below meth c cells slots Q D dA G A H0 nL v w lv (pc + 1) (.ref x :: st)) : J p l e R s m args below meth c cells slots Q D dA G A H0 nL v w lv (pc) (st) := fun H locs ls hH hS hl => lv_aload_n E.1 E.2.1 hd rfl (lv_at hl i hk) (K H locs ls hH hS hl)
theorem J_aload (E : Cx p R s m meth c cells slots cc nL own D dA G A) {k : Nat} {x : Nat} (hd : decode cc pc = .ok (.aload k, 2)) (i : Nat) (hk : lv[i]? = some (k, .ref x)) (K : J p l e R s m args below meth c cells slots Q D dA G A H0 nL v w lv (pc + 2) (.ref x :: st)) : J p l e R s m args below meth c cells slots Q D dA G A H0 nL v w lv (pc) (st) := fun H locs ls hH hS hl => lv_aload E.1 E.2.1 hd (lv_at hl i hk) (K H locs ls hH hS hl)
theorem J_astore_n (E : Cx p R s m meth c cells slots cc nL own D dA G A) {k : Fin 4} {i : Nat} {x : Nat} (lv' : List (Nat × Value)) (hd : decode cc pc = .ok (.astore_n k, 1)) (hi : (k : Nat) = i) (hn : i < nL) (hl : (i, Value.ref x) :: lv.filter (fun q => !(q.1 == i) && !(q.1 + 1 == i && q.2.category == 2)) = lv') (K : J p l e R s m args below meth c cells slots Q D dA G A H0 nL v w lv' (pc + 1) (st)) : J p l e R s m args below meth c cells slots Q D dA G A H0 nL v w lv (pc) (.ref x :: st) := fun H locs ls hH hS h => lv_astore_n E.1 E.2.1 hd hi h hn hl (fun ls' h' => K H locs ls' hH hS h')
theorem J_astore (E : Cx p R s m meth c cells slots cc nL own D dA G A) {i : Nat} {x : Nat} (lv' : List (Nat × Value)) (hd : decode cc pc = .ok (.astore i, 2)) (hn : i < nL) (hl : (i, Value.ref x) :: lv.filter (fun q => !(q.1 == i) && !(q.1 + 1 == i && q.2.category == 2)) = lv') (K : J p l e R s m args below meth c cells slots Q D dA G A H0 nL v w lv' (pc + 2) (st)) : J p l e R s m args below meth c cells slots Q D dA G A H0 nL v w lv (pc) (.ref x :: st) := fun H locs ls hH hS h => lv_astore E.1 E.2.1 hd h hn hl (fun ls' h' => K H locs ls' hH hS h')
theorem J_iinc (E : Cx p R s m meth c cells slots cc nL own D dA G A) {i : Nat} {n : Int} {x : Int32} (k : Nat) (d : Int32) (f : Int32 → List (Nat × Value)) (hd : decode cc pc = .ok (.iinc i n, 3)) (hk : lv[k]? = some (i, .int x)) (hv : Int32.ofInt n = d) (hn : i < nL) (hl : ∀ z, (i, Value.int z) :: lv.filter (fun q => !(q.1 == i) && !(q.1 + 1 == i && q.2.category == 2)) = f z) (K : ∀ z : Int32, z = x + d → J p l e R s m args below meth c cells slots Q D dA G A H0 nL v w (f z) (pc + 3) (st)) : J p l e R s m args below meth c cells slots Q D dA G A H0 nL v w lv (pc) (st) := fun H locs ls hH hS h => lv_iinc (v := x + d) E.1 E.2.1 hd h hk (by rw [hv]) hn (hl _) (fun ls' h' => K (x + d) rfl H locs ls' hH hS h')
theorem J_iadd (E : Cx p R s m meth c cells slots cc nL own D dA G A) {x y : Int32} (hd : decode cc pc = .ok (.iadd, 1)) (K : ∀ z : Int32, z = x + y → J p l e R s m args below meth c cells slots Q D dA G A H0 nL v w lv (pc + 1) (.int z :: st)) : J p l e R s m args below meth c cells slots Q D dA G A H0 nL v w lv (pc) (.int y :: .int x :: st) := fun H locs ls hH hS hl => lv_iadd E.1 E.2.1 hd (K _ rfl H locs ls hH hS hl)
theorem J_isub (E : Cx p R s m meth c cells slots cc nL own D dA G A) {x y : Int32} (hd : decode cc pc = .ok (.isub, 1)) (K : ∀ z : Int32, z = x - y → J p l e R s m args below meth c cells slots Q D dA G A H0 nL v w lv (pc + 1) (.int z :: st)) : J p l e R s m args below meth c cells slots Q D dA G A H0 nL v w lv (pc) (.int y :: .int x :: st) := fun H locs ls hH hS hl => lv_isub E.1 E.2.1 hd (K _ rfl H locs ls hH hS hl)
theorem J_imul (E : Cx p R s m meth c cells slots cc nL own D dA G A) {x y : Int32} (hd : decode cc pc = .ok (.imul, 1)) (K : ∀ z : Int32, z = x * y → J p l e R s m args below meth c cells slots Q D dA G A H0 nL v w lv (pc + 1) (.int z :: st)) : J p l e R s m args below meth c cells slots Q D dA G A H0 nL v w lv (pc) (.int y :: .int x :: st) := fun H locs ls hH hS hl => lv_imul E.1 E.2.1 hd (K _ rfl H locs ls hH hS hl)
theorem J_iand (E : Cx p R s m meth c cells slots cc nL own D dA G A) {x y : Int32} (hd : decode cc pc = .ok (.iand, 1)) (K : ∀ z : Int32, z = x &&& y → J p l e R s m args below meth c cells slots Q D dA G A H0 nL v w lv (pc + 1) (.int z :: st)) : J p l e R s m args below meth c cells slots Q D dA G A H0 nL v w lv (pc) (.int y :: .int x :: st) := fun H locs ls hH hS hl => lv_iand E.1 E.2.1 hd (K _ rfl H locs ls hH hS hl)
theorem J_ior (E : Cx p R s m meth c cells slots cc nL own D dA G A) {x y : Int32} (hd : decode cc pc = .ok (.ior, 1)) (K : ∀ z : Int32, z = x ||| y → J p l e R s m args below meth c cells slots Q D dA G A H0 nL v w lv (pc + 1) (.int z :: st)) : J p l e R s m args below meth c cells slots Q D dA G A H0 nL v w lv (pc) (.int y :: .int x :: st) := fun H locs ls hH hS hl => lv_ior E.1 E.2.1 hd (K _ rfl H locs ls hH hS hl)
theorem J_ixor (E : Cx p R s m meth c cells slots cc nL own D dA G A) {x y : Int32} (hd : decode cc pc = .ok (.ixor, 1)) (K : ∀ z : Int32, z = x ^^^ y → J p l e R s m args below meth c cells slots Q D dA G A H0 nL v w lv (pc + 1) (.int z :: st)) : J p l e R s m args below meth c cells slots Q D dA G A H0 nL v w lv (pc) (.int y :: .int x :: st) := fun H locs ls hH hS hl => lv_ixor E.1 E.2.1 hd (K _ rfl H locs ls hH hS hl)
theorem J_ishl (E : Cx p R s m meth c cells slots cc nL own D dA G A) {x y : Int32} (hd : decode cc pc = .ok (.ishl, 1)) (K : ∀ z : Int32, z = x <<< (y &&& 31) → J p l e R s m args below meth c cells slots Q D dA G A H0 nL v w lv (pc + 1) (.int z :: st)) : J p l e R s m args below meth c cells slots Q D dA G A H0 nL v w lv (pc) (.int y :: .int x :: st) := fun H locs ls hH hS hl => lv_ishl E.1 E.2.1 hd (K _ rfl H locs ls hH hS hl)
theorem J_ishr (E : Cx p R s m meth c cells slots cc nL own D dA G A) {x y : Int32} (hd : decode cc pc = .ok (.ishr, 1)) (K : ∀ z : Int32, z = x >>> (y &&& 31) → J p l e R s m args below meth c cells slots Q D dA G A H0 nL v w lv (pc + 1) (.int z :: st)) : J p l e R s m args below meth c cells slots Q D dA G A H0 nL v w lv (pc) (.int y :: .int x :: st) := fun H locs ls hH hS hl => lv_ishr E.1 E.2.1 hd (K _ rfl H locs ls hH hS hl)
theorem J_idiv (E : Cx p R s m meth c cells slots cc nL own D dA G A) {x y : Int32} (hd : decode cc pc = .ok (.idiv, 1)) (h0 : ¬ y = 0) (K : ∀ z : Int32, z = x / y → J p l e R s m args below meth c cells slots Q D dA G A H0 nL v w lv (pc + 1) (.int z :: st)) : J p l e R s m args below meth c cells slots Q D dA G A H0 nL v w lv (pc) (.int y :: .int x :: st) := fun H locs ls hH hS hl => lv_idiv E.1 E.2.1 hd h0 (K _ rfl H locs ls hH hS hl)
theorem J_irem (E : Cx p R s m meth c cells slots cc nL own D dA G A) {x y : Int32} (hd : decode cc pc = .ok (.irem, 1)) (h0 : ¬ y = 0) (K : ∀ z : Int32, z = x - x / y * y → J p l e R s m args below meth c cells slots Q D dA G A H0 nL v w lv (pc + 1) (.int z :: st)) : J p l e R s m args below meth c cells slots Q D dA G A H0 nL v w lv (pc) (.int y :: .int x :: st) := fun H locs ls hH hS hl => lv_irem E.1 E.2.1 hd h0 (K _ rfl H locs ls hH hS hl)
theorem J_iushr (E : Cx p R s m meth c cells slots cc nL own D dA G A) {x y : Int32} (hd : decode cc pc = .ok (.iushr, 1)) (K : ∀ z : Int32, z = (x.toUInt32 >>> (y.toUInt32 &&& Int32.toUInt32 31)).toInt32 → J p l e R s m args below meth c cells slots Q D dA G A H0 nL v w lv (pc + 1) (.int z :: st)) : J p l e R s m args below meth c cells slots Q D dA G A H0 nL v w lv (pc) (.int y :: .int x :: st) := fun H locs ls hH hS hl => lv_iushr E.1 E.2.1 hd rfl (K _ rfl H locs ls hH hS hl)
theorem J_ineg (E : Cx p R s m meth c cells slots cc nL own D dA G A) {x : Int32} (hd : decode cc pc = .ok (.ineg, 1)) (K : ∀ z : Int32, z = -x → J p l e R s m args below meth c cells slots Q D dA G A H0 nL v w lv (pc + 1) (.int z :: st)) : J p l e R s m args below meth c cells slots Q D dA G A H0 nL v w lv (pc) (.int x :: st) := fun H locs ls hH hS hl => lv_ineg E.1 E.2.1 hd (K _ rfl H locs ls hH hS hl)
theorem J_i2l (E : Cx p R s m meth c cells slots cc nL own D dA G A) {x : Int32} (hd : decode cc pc = .ok (.i2l, 1)) (K : ∀ z : Int64, z = x.toInt64 → J p l e R s m args below meth c cells slots Q D dA G A H0 nL v w lv (pc + 1) (.long z :: st)) : J p l e R s m args below meth c cells slots Q D dA G A H0 nL v w lv (pc) (.int x :: st) := fun H locs ls hH hS hl => lv_i2l E.1 E.2.1 hd rfl (K _ rfl H locs ls hH hS hl)
theorem J_l2i (E : Cx p R s m meth c cells slots cc nL own D dA G A) {x : Int64} (hd : decode cc pc = .ok (.l2i, 1)) (K : ∀ z : Int32, z = x.toInt32 → J p l e R s m args below meth c cells slots Q D dA G A H0 nL v w lv (pc + 1) (.int z :: st)) : J p l e R s m args below meth c cells slots Q D dA G A H0 nL v w lv (pc) (.long x :: st) := fun H locs ls hH hS hl => lv_l2i E.1 E.2.1 hd rfl (K _ rfl H locs ls hH hS hl)
theorem J_i2b (E : Cx p R s m meth c cells slots cc nL own D dA G A) {x : Int32} (hd : decode cc pc = .ok (.i2b, 1)) (K : ∀ z : Int32, z = x.toInt8.toInt32 → J p l e R s m args below meth c cells slots Q D dA G A H0 nL v w lv (pc + 1) (.int z :: st)) : J p l e R s m args below meth c cells slots Q D dA G A H0 nL v w lv (pc) (.int x :: st) := fun H locs ls hH hS hl => lv_i2b E.1 E.2.1 hd rfl (K _ rfl H locs ls hH hS hl)
theorem J_i2c (E : Cx p R s m meth c cells slots cc nL own D dA G A) {x : Int32} (hd : decode cc pc = .ok (.i2c, 1)) (K : ∀ z : Int32, z = (x.toUInt32 % 65536).toInt32 → J p l e R s m args below meth c cells slots Q D dA G A H0 nL v w lv (pc + 1) (.int z :: st)) : J p l e R s m args below meth c cells slots Q D dA G A H0 nL v w lv (pc) (.int x :: st) := fun H locs ls hH hS hl => lv_i2c E.1 E.2.1 hd rfl (K _ rfl H locs ls hH hS hl)
theorem J_ladd (E : Cx p R s m meth c cells slots cc nL own D dA G A) {x y : Int64} (hd : decode cc pc = .ok (.ladd, 1)) (K : ∀ z : Int64, z = x + y → J p l e R s m args below meth c cells slots Q D dA G A H0 nL v w lv (pc + 1) (.long z :: st)) : J p l e R s m args below meth c cells slots Q D dA G A H0 nL v w lv (pc) (.long y :: .long x :: st) := fun H locs ls hH hS hl => lv_ladd E.1 E.2.1 hd (K _ rfl H locs ls hH hS hl)
theorem J_lsub (E : Cx p R s m meth c cells slots cc nL own D dA G A) {x y : Int64} (hd : decode cc pc = .ok (.lsub, 1)) (K : ∀ z : Int64, z = x - y → J p l e R s m args below meth c cells slots Q D dA G A H0 nL v w lv (pc + 1) (.long z :: st)) : J p l e R s m args below meth c cells slots Q D dA G A H0 nL v w lv (pc) (.long y :: .long x :: st) := fun H locs ls hH hS hl => lv_lsub E.1 E.2.1 hd (K _ rfl H locs ls hH hS hl)
theorem J_lmul (E : Cx p R s m meth c cells slots cc nL own D dA G A) {x y : Int64} (hd : decode cc pc = .ok (.lmul, 1)) (K : ∀ z : Int64, z = x * y → J p l e R s m args below meth c cells slots Q D dA G A H0 nL v w lv (pc + 1) (.long z :: st)) : J p l e R s m args below meth c cells slots Q D dA G A H0 nL v w lv (pc) (.long y :: .long x :: st) := fun H locs ls hH hS hl => lv_lmul E.1 E.2.1 hd (K _ rfl H locs ls hH hS hl)
theorem J_ldiv (E : Cx p R s m meth c cells slots cc nL own D dA G A) {x y : Int64} (hd : decode cc pc = .ok (.ldiv, 1)) (h0 : ¬ y = 0) (K : ∀ z : Int64, z = x / y → J p l e R s m args below meth c cells slots Q D dA G A H0 nL v w lv (pc + 1) (.long z :: st)) : J p l e R s m args below meth c cells slots Q D dA G A H0 nL v w lv (pc) (.long y :: .long x :: st) := fun H locs ls hH hS hl => lv_ldiv E.1 E.2.1 hd h0 (K _ rfl H locs ls hH hS hl)
theorem J_lrem (E : Cx p R s m meth c cells slots cc nL own D dA G A) {x y : Int64} (hd : decode cc pc = .ok (.lrem, 1)) (h0 : ¬ y = 0) (K : ∀ z : Int64, z = x - x / y * y → J p l e R s m args below meth c cells slots Q D dA G A H0 nL v w lv (pc + 1) (.long z :: st)) : J p l e R s m args below meth c cells slots Q D dA G A H0 nL v w lv (pc) (.long y :: .long x :: st) := fun H locs ls hH hS hl => lv_lrem E.1 E.2.1 hd h0 (K _ rfl H locs ls hH hS hl)
theorem J_lcmp (E : Cx p R s m meth c cells slots cc nL own D dA G A) {x y : Int64} (hd : decode cc pc = .ok (.lcmp, 1)) (K : ∀ z : Int32, z = lg_cmp x y → J p l e R s m args below meth c cells slots Q D dA G A H0 nL v w lv (pc + 1) (.int z :: st)) : J p l e R s m args below meth c cells slots Q D dA G A H0 nL v w lv (pc) (.long y :: .long x :: st) := fun H locs ls hH hS hl => W.lcmp E.1 E.2.1 hd (K _ rfl H locs ls hH hS hl)
theorem J_dup (E : Cx p R s m meth c cells slots cc nL own D dA G A) {a : Value} (hd : decode cc pc = .ok (.dup, 1)) (ha : a.category = 1) (K : J p l e R s m args below meth c cells slots Q D dA G A H0 nL v w lv (pc + 1) (a :: a :: st)) : J p l e R s m args below meth c cells slots Q D dA G A H0 nL v w lv (pc) (a :: st) := fun H locs ls hH hS hl => lv_dup E.1 E.2.1 hd ha (K H locs ls hH hS hl)
theorem J_pop (E : Cx p R s m meth c cells slots cc nL own D dA G A) {a : Value} (hd : decode cc pc = .ok (.pop, 1)) (ha : a.category = 1) (K : J p l e R s m args below meth c cells slots Q D dA G A H0 nL v w lv (pc + 1) (st)) : J p l e R s m args below meth c cells slots Q D dA G A H0 nL v w lv (pc) (a :: st) := fun H locs ls hH hS hl => lv_pop E.1 E.2.1 hd ha (K H locs ls hH hS hl)
theorem J_pop2 (E : Cx p R s m meth c cells slots cc nL own D dA G A) {a : Value} (hd : decode cc pc = .ok (.pop2, 1)) (ha : a.category = 2) (K : J p l e R s m args below meth c cells slots Q D dA G A H0 nL v w lv (pc + 1) (st)) : J p l e R s m args below meth c cells slots Q D dA G A H0 nL v w lv (pc) (a :: st) := fun H locs ls hH hS hl => lv_pop2_2 E.1 E.2.1 hd ha (K H locs ls hH hS hl)
theorem J_dup2 (E : Cx p R s m meth c cells slots cc nL own D dA G A) {a b : Value} (hd : decode cc pc = .ok (.dup2, 1)) (ha : a.category = 1) (hb : b.category = 1) (K : J p l e R s m args below meth c cells slots Q D dA G A H0 nL v w lv (pc + 1) (a :: b :: a :: b :: st)) : J p l e R s m args below meth c cells slots Q D dA G A H0 nL v w lv (pc) (a :: b :: st) := fun H locs ls hH hS hl => lv_dup2_11 E.1 E.2.1 hd ha hb (K H locs ls hH hS hl)
theorem J_icmp_eq (E : Cx p R s m meth c cells slots cc nL own D dA G A) {x y : Int32} {off : Int} (tgt : Nat) (hd : decode cc pc = .ok (.if_icmp .eq off, 3)) (ht : (pc : Int) + off = (tgt : Int)) (kt : x = y → J p l e R s m args below meth c cells slots Q D dA G A H0 nL v w lv (tgt) (st)) (kf : ¬ x = y → J p l e R s m args below meth c cells slots Q D dA G A H0 nL v w lv (pc + 3) (st)) : J p l e R s m args below meth c cells slots Q D dA G A H0 nL v w lv (pc) (.int y :: .int x :: st) := fun H locs ls hH hS hl => lv_icmp_eq E.1 E.2.1 hd ht (fun q => kt q H locs ls hH hS hl) (fun q => kf q H locs ls hH hS hl)
theorem J_icmp_ne (E : Cx p R s m meth c cells slots cc nL own D dA G A) {x y : Int32} {off : Int} (tgt : Nat) (hd : decode cc pc = .ok (.if_icmp .ne off, 3)) (ht : (pc : Int) + off = (tgt : Int)) (kt : ¬ x = y → J p l e R s m args below meth c cells slots Q D dA G A H0 nL v w lv (tgt) (st)) (kf : x = y → J p l e R s m args below meth c cells slots Q D dA G A H0 nL v w lv (pc + 3) (st)) : J p l e R s m args below meth c cells slots Q D dA G A H0 nL v w lv (pc) (.int y :: .int x :: st) := fun H locs ls hH hS hl => lv_icmp_ne E.1 E.2.1 hd ht (fun q => kt q H locs ls hH hS hl) (fun q => kf q H locs ls hH hS hl)
theorem J_icmp_lt (E : Cx p R s m meth c cells slots cc nL own D dA G A) {x y : Int32} {off : Int} (tgt : Nat) (hd : decode cc pc = .ok (.if_icmp .lt off, 3)) (ht : (pc : Int) + off = (tgt : Int)) (kt : x < y → J p l e R s m args below meth c cells slots Q D dA G A H0 nL v w lv (tgt) (st)) (kf : ¬ x < y → J p l e R s m args below meth c cells slots Q D dA G A H0 nL v w lv (pc + 3) (st)) : J p l e R s m args below meth c cells slots Q D dA G A H0 nL v w lv (pc) (.int y :: .int x :: st) := fun H locs ls hH hS hl => lv_icmp_lt E.1 E.2.1 hd ht (fun q => kt q H locs ls hH hS hl) (fun q => kf q H locs ls hH hS hl)
theorem J_icmp_ge (E : Cx p R s m meth c cells slots cc nL own D dA G A) {x y : Int32} {off : Int} (tgt : Nat) (hd : decode cc pc = .ok (.if_icmp .ge off, 3)) (ht : (pc : Int) + off = (tgt : Int)) (kt : y ≤ x → J p l e R s m args below meth c cells slots Q D dA G A H0 nL v w lv (tgt) (st)) (kf : ¬ y ≤ x → J p l e R s m args below meth c cells slots Q D dA G A H0 nL v w lv (pc + 3) (st)) : J p l e R s m args below meth c cells slots Q D dA G A H0 nL v w lv (pc) (.int y :: .int x :: st) := fun H locs ls hH hS hl => lv_icmp_ge E.1 E.2.1 hd ht (fun q => kt q H locs ls hH hS hl) (fun q => kf q H locs ls hH hS hl)
theorem J_icmp_gt (E : Cx p R s m meth c cells slots cc nL own D dA G A) {x y : Int32} {off : Int} (tgt : Nat) (hd : decode cc pc = .ok (.if_icmp .gt off, 3)) (ht : (pc : Int) + off = (tgt : Int)) (kt : y < x → J p l e R s m args below meth c cells slots Q D dA G A H0 nL v w lv (tgt) (st)) (kf : ¬ y < x → J p l e R s m args below meth c cells slots Q D dA G A H0 nL v w lv (pc + 3) (st)) : J p l e R s m args below meth c cells slots Q D dA G A H0 nL v w lv (pc) (.int y :: .int x :: st) := fun H locs ls hH hS hl => lv_icmp_gt E.1 E.2.1 hd ht (fun q => kt q H locs ls hH hS hl) (fun q => kf q H locs ls hH hS hl)
theorem J_icmp_le (E : Cx p R s m meth c cells slots cc nL own D dA G A) {x y : Int32} {off : Int} (tgt : Nat) (hd : decode cc pc = .ok (.if_icmp .le off, 3)) (ht : (pc : Int) + off = (tgt : Int)) (kt : x ≤ y → J p l e R s m args below meth c cells slots Q D dA G A H0 nL v w lv (tgt) (st)) (kf : ¬ x ≤ y → J p l e R s m args below meth c cells slots Q D dA G A H0 nL v w lv (pc + 3) (st)) : J p l e R s m args below meth c cells slots Q D dA G A H0 nL v w lv (pc) (.int y :: .int x :: st) := fun H locs ls hH hS hl => lv_icmp_le E.1 E.2.1 hd ht (fun q => kt q H locs ls hH hS hl) (fun q => kf q H locs ls hH hS hl)
theorem J_if_eq (E : Cx p R s m meth c cells slots cc nL own D dA G A) {x : Int32} {off : Int} (tgt : Nat) (hd : decode cc pc = .ok (.ifCond .eq off, 3)) (ht : (pc : Int) + off = (tgt : Int)) (kt : x = 0 → J p l e R s m args below meth c cells slots Q D dA G A H0 nL v w lv (tgt) (st)) (kf : ¬ x = 0 → J p l e R s m args below meth c cells slots Q D dA G A H0 nL v w lv (pc + 3) (st)) : J p l e R s m args below meth c cells slots Q D dA G A H0 nL v w lv (pc) (.int x :: st) := fun H locs ls hH hS hl => lv_if_eq E.1 E.2.1 hd ht (fun q => kt q H locs ls hH hS hl) (fun q => kf q H locs ls hH hS hl)
theorem J_if_ne (E : Cx p R s m meth c cells slots cc nL own D dA G A) {x : Int32} {off : Int} (tgt : Nat) (hd : decode cc pc = .ok (.ifCond .ne off, 3)) (ht : (pc : Int) + off = (tgt : Int)) (kt : ¬ x = 0 → J p l e R s m args below meth c cells slots Q D dA G A H0 nL v w lv (tgt) (st)) (kf : x = 0 → J p l e R s m args below meth c cells slots Q D dA G A H0 nL v w lv (pc + 3) (st)) : J p l e R s m args below meth c cells slots Q D dA G A H0 nL v w lv (pc) (.int x :: st) := fun H locs ls hH hS hl => lv_if_ne E.1 E.2.1 hd ht (fun q => kt q H locs ls hH hS hl) (fun q => kf q H locs ls hH hS hl)
theorem J_if_lt (E : Cx p R s m meth c cells slots cc nL own D dA G A) {x : Int32} {off : Int} (tgt : Nat) (hd : decode cc pc = .ok (.ifCond .lt off, 3)) (ht : (pc : Int) + off = (tgt : Int)) (kt : x < 0 → J p l e R s m args below meth c cells slots Q D dA G A H0 nL v w lv (tgt) (st)) (kf : ¬ x < 0 → J p l e R s m args below meth c cells slots Q D dA G A H0 nL v w lv (pc + 3) (st)) : J p l e R s m args below meth c cells slots Q D dA G A H0 nL v w lv (pc) (.int x :: st) := fun H locs ls hH hS hl => lv_if_lt E.1 E.2.1 hd ht (fun q => kt q H locs ls hH hS hl) (fun q => kf q H locs ls hH hS hl)
theorem J_if_ge (E : Cx p R s m meth c cells slots cc nL own D dA G A) {x : Int32} {off : Int} (tgt : Nat) (hd : decode cc pc = .ok (.ifCond .ge off, 3)) (ht : (pc : Int) + off = (tgt : Int)) (kt : 0 ≤ x → J p l e R s m args below meth c cells slots Q D dA G A H0 nL v w lv (tgt) (st)) (kf : ¬ 0 ≤ x → J p l e R s m args below meth c cells slots Q D dA G A H0 nL v w lv (pc + 3) (st)) : J p l e R s m args below meth c cells slots Q D dA G A H0 nL v w lv (pc) (.int x :: st) := fun H locs ls hH hS hl => lv_if_ge E.1 E.2.1 hd ht (fun q => kt q H locs ls hH hS hl) (fun q => kf q H locs ls hH hS hl)
theorem J_if_gt (E : Cx p R s m meth c cells slots cc nL own D dA G A) {x : Int32} {off : Int} (tgt : Nat) (hd : decode cc pc = .ok (.ifCond .gt off, 3)) (ht : (pc : Int) + off = (tgt : Int)) (kt : 0 < x → J p l e R s m args below meth c cells slots Q D dA G A H0 nL v w lv (tgt) (st)) (kf : ¬ 0 < x → J p l e R s m args below meth c cells slots Q D dA G A H0 nL v w lv (pc + 3) (st)) : J p l e R s m args below meth c cells slots Q D dA G A H0 nL v w lv (pc) (.int x :: st) := fun H locs ls hH hS hl => lv_if_gt E.1 E.2.1 hd ht (fun q => kt q H locs ls hH hS hl) (fun q => kf q H locs ls hH hS hl)
theorem J_if_le (E : Cx p R s m meth c cells slots cc nL own D dA G A) {x : Int32} {off : Int} (tgt : Nat) (hd : decode cc pc = .ok (.ifCond .le off, 3)) (ht : (pc : Int) + off = (tgt : Int)) (kt : x ≤ 0 → J p l e R s m args below meth c cells slots Q D dA G A H0 nL v w lv (tgt) (st)) (kf : ¬ x ≤ 0 → J p l e R s m args below meth c cells slots Q D dA G A H0 nL v w lv (pc + 3) (st)) : J p l e R s m args below meth c cells slots Q D dA G A H0 nL v w lv (pc) (.int x :: st) := fun H locs ls hH hS hl => lv_if_le E.1 E.2.1 hd ht (fun q => kt q H locs ls hH hS hl) (fun q => kf q H locs ls hH hS hl)
theorem J_goto (E : Cx p R s m meth c cells slots cc nL own D dA G A) {off : Int} (tgt : Nat) (hd : decode cc pc = .ok (.goto off, 3)) (ht : (pc : Int) + off = (tgt : Int)) (K : J p l e R s m args below meth c cells slots Q D dA G A H0 nL v w lv (tgt) (st)) : J p l e R s m args below meth c cells slots Q D dA G A H0 nL v w lv (pc) (st) := fun H locs ls hH hS hl => lv_goto E.1 E.2.1 hd ht (K H locs ls hH hS hl)
theorem J_tabIn (E : Cx p R s m meth c cells slots cc nL own D dA G A) {dflt lo hi : Int} {offs : Array Int} {len : Nat} {x : Int32} (i : Int) {off : Int} (tgt : Nat) (hd : decode cc pc = .ok (.tableswitch dflt lo hi offs, len)) (hx : x.toInt = i) (h1 : ¬ i < lo) (h2 : ¬ hi < i) (ho : offs[(i - lo).toNat]? = some off) (ht : (pc : Int) + off = (tgt : Int)) (K : J p l e R s m args below meth c cells slots Q D dA G A H0 nL v w lv (tgt) (st)) : J p l e R s m args below meth c cells slots Q D dA G A H0 nL v w lv (pc) (.int x :: st) := fun H locs ls hH hS hl => lv_tableIn E.1 E.2.1 hd (by rw [hx]; exact h1) (by rw [hx]; exact h2) (by rw [hx]; exact ho) ht (K H locs ls hH hS hl)
theorem J_tabOut (E : Cx p R s m meth c cells slots cc nL own D dA G A) {dflt lo hi : Int} {offs : Array Int} {len : Nat} {x : Int32} (tgt : Nat) (hd : decode cc pc = .ok (.tableswitch dflt lo hi offs, len)) (hx : x.toInt < lo ∨ hi < x.toInt) (ht : (pc : Int) + dflt = (tgt : Int)) (K : J p l e R s m args below meth c cells slots Q D dA G A H0 nL v w lv (tgt) (st)) : J p l e R s m args below meth c cells slots Q D dA G A H0 nL v w lv (pc) (.int x :: st) := fun H locs ls hH hS hl => lv_tableOut E.1 E.2.1 hd hx ht (K H locs ls hH hS hl)
theorem J_ldc (E : Cx p R s m meth c cells slots cc nL own D dA G A) {index : Nat} {x : Int32} (hw : Cond.constant own index x ∈ lw_tbl) (hd : decode cc pc = .ok (.ldc index, 2)) (K : J p l e R s m args below meth c cells slots Q D dA G A H0 nL v w lv (pc + 2) (.int x :: st)) : J p l e R s m args below meth c cells slots Q D dA G A H0 nL v w lv (pc) (st) := fun H locs ls hH hS hl => lv_ldc E.1 E.2.1 E.2.2.2.1 (E.2.2.2.2.1.use hw rfl args) hd (K H locs ls hH hS hl)
theorem J_ldcw (E : Cx p R s m meth c cells slots cc nL own D dA G A) {index : Nat} {x : Int32} (hw : Cond.constant own index x ∈ lw_tbl) (hd : decode cc pc = .ok (.ldc_w index, 3)) (K : J p l e R s m args below meth c cells slots Q D dA G A H0 nL v w lv (pc + 3) (.int x :: st)) : J p l e R s m args below meth c cells slots Q D dA G A H0 nL v w lv (pc) (st) := fun H locs ls hH hS hl => lv_ldcw E.1 E.2.1 E.2.2.2.1 (E.2.2.2.2.1.use hw rfl args) hd (K H locs ls hH hS hl)
theorem J_ldc2 (E : Cx p R s m meth c cells slots cc nL own D dA G A) {index : Nat} {x : Int64} (hw : Cond.constantLong own index x ∈ lw_tbl) (hd : decode cc pc = .ok (.ldc2_w index, 3)) (K : J p l e R s m args below meth c cells slots Q D dA G A H0 nL v w lv (pc + 3) (.long x :: st)) : J p l e R s m args below meth c cells slots Q D dA G A H0 nL v w lv (pc) (st) := fun H locs ls hH hS hl => lv_ldc2 E.1 E.2.1 E.2.2.2.1 (E.2.2.2.2.1.use hw rfl args) hd (K H locs ls hH hS hl)
theorem J_get (E : Cx p R s m meth c cells slots cc nL own D dA G A) {C : String} {T : u_T} {N ci index : Nat} {fs : List Fk} {a : Nat} (hin : ∀ w ∈ u_ws C T N, w ∈ lw_tbl) (hc : classes[ci]? = some (C, T, N)) (hG : G a = some (.inl (ci, fs))) (k : Nat) (hk : k < N) (hl0 : Cond.fieldLink own index (T k).1 (T k).2.1 (T k).2.2.1 ∈ lw_tbl) (hd : decode cc pc = .ok (.getfield index, 3)) (K : J p l e R s m args below meth c cells slots Q D dA G A H0 nL v w lv (pc + 3) (fv v w a k fs[k]? :: st)) : J p l e R s m args below meth c cells slots Q D dA G A H0 nL v w lv (pc) (.ref a :: st) := by
  intro H locs ls hH hS hl
  obtain ⟨r, h1, cell, q1, q2, q3, q4⟩ := hH a _ hG
  have hr : r = (C, T, N) := Option.some.inj (h1.symm.trans hc)
  subst hr
  obtain ⟨hx, hb, -, hown, hT, hK, -⟩ := E
  obtain ⟨hSl, hfc, kC, hkC, hkind⟩ := hK.1 ci _ hc
  obtain ⟨cf, kf, fi, f, hi, hsl⟩ := hSl k hk
  have hts : ∀ w ∈ u_ws C T N, w.before args s = true := fun w hw => hT.use (hin w hw) (by obtain ⟨j, -, rfl⟩ := List.mem_map.mp hw; unfold u_lay; split <;> rfl) args
  refine W.getf hx hb hown (hT.use hl0 rfl args) hi (u_facts hfc hkC (u_lays hts (fun w h => h) hk) hi).1 q1 (by rw [q3]; exact fun h => by cases h) (v := fv v w a k fs[k]?) ?_ rfl rfl hd (K H locs ls hH hS hl)
  rw [hsl, q4 k hk]
theorem J_putI (E : Cx p R s m meth c cells slots cc nL own D dA G A) {C : String} {T : u_T} {N ci index : Nat} {fs : List Fk} {a : Nat} (hin : ∀ w ∈ u_ws C T N, w ∈ lw_tbl) (hc : classes[ci]? = some (C, T, N)) (hG : G a = some (.inl (ci, fs))) (k : Nat) (hk : k < N) (hl0 : Cond.fieldLink own index (T k).1 (T k).2.1 (T k).2.2.1 ∈ lw_tbl) (ty0 : Nat → FieldType) (hty : ∀ k, k < N → parseFieldDescriptor (T k).2.2.1 = some (ty0 k)) (hnm : ∀ a, a < N → ∀ b, b < N → a ≠ b → (T a).2.1 ≠ (T b).2.1) (hfin : (T k).2.2.2 = false) {x : Int32} {b : Int × Int × Bool} (hf : fs[k]? = some (.inl b)) (ty : FieldType) (hty0 : parseFieldDescriptor (T k).2.2.1 = some ty) (hn : narrow ty (.int x) = .int x) (hfit : fits ty (.int x) = true) (hd : decode cc pc = .ok (.putfield index, 3)) (K : J p l e R s m args below meth c cells slots Q D dA G A H0 nL (stv v a k x) (w) lv (pc + 3) (st)) : J p l e R s m args below meth c cells slots Q D dA G A H0 nL v w lv (pc) (.int x :: .ref a :: st) := by
  intro H locs ls hH hS hl
  obtain ⟨r, h1, cell, q1, q2, q3, q4⟩ := hH a _ hG
  have hr : r = (C, T, N) := Option.some.inj (h1.symm.trans hc)
  subst hr
  obtain ⟨hx, hb, -, hown, hT, hK, -, hA, -⟩ := E
  have hts : ∀ w ∈ u_ws C T N, w.before args s = true := fun w hw => hT.use (hin w hw) (by obtain ⟨j, -, rfl⟩ := List.mem_map.mp hw; unfold u_lay; split <;> rfl) args
  have hap := va_apart (own := own) hts (fun w h => h) ty0 hty hnm hK hc
  obtain ⟨hSl, hfc, kC, hkC, hkind⟩ := hK.1 ci _ hc
  obtain ⟨cf, kf, fi, f, hi, hsl⟩ := hSl k hk
  have hlay := hts _ (u_in_lay hk)
  unfold u_lay at hlay
  rw [if_neg (by rw [hfin]; decide)] at hlay
  have hst := (u_facts hfc hkC (u_lays hts (fun w h => h) hk) hi).1
  have h6 := u_store hfc hkC hkind hlay hi hty0 hn hfit
  refine W.putK hx hb (f := f) ⟨hown, hT.use hl0 rfl args, ⟨_, _, _, hi⟩, hst⟩ (by rw [q2]; exact h6) q1 q3 (by rw [hsl]; exact k2_hasslot (q4 k hk)) rfl rfl hd fun H' e1 e2 e3 => ?_
  rw [hsl] at e1 ⊢
  refine K H' _ ls (fun b sh hb2 => ?_) (hS.put e2 e3 (hA a (by rw [hG]; rfl))) hl
  by_cases hq : b = a
  · subst hq
    rw [hG] at hb2
    cases hb2
    refine ⟨_, hc, t_OB.to (V := updV (fun k => fv v w b k fs[k]?) k (.int x)) ⟨_, e1, q2, q3, t_set q4 hap hk _⟩ (fun j _ => ?_)⟩
    unfold updV
    by_cases hj : j = k
    · subst hj
      rw [hf]
      simp [fv, stv_s]
    · rw [if_neg hj]
      show fv v w b j fs[j]? = fv (stv v b k x) (w) b j fs[j]?
      rcases fs[j]? with _ | g
      · rfl
      · rcases g with g | g | g
        · show Value.int _ = Value.int _
          first | rw [stv_k hj] | rfl
        · show Value.long _ = Value.long _
          first | rw [stw_k hj] | rfl
        · rfl
  · exact (hH b sh hb2).kept (e3 b hq) (fun j => stv_a hq) (fun j => rfl) (fun j => rfl)
theorem J_putL (E : Cx p R s m meth c cells slots cc nL own D dA G A) {C : String} {T : u_T} {N ci index : Nat} {fs : List Fk} {a : Nat} (hin : ∀ w ∈ u_ws C T N, w ∈ lw_tbl) (hc : classes[ci]? = some (C, T, N)) (hG : G a = some (.inl (ci, fs))) (k : Nat) (hk : k < N) (hl0 : Cond.fieldLink own index (T k).1 (T k).2.1 (T k).2.2.1 ∈ lw_tbl) (ty0 : Nat → FieldType) (hty : ∀ k, k < N → parseFieldDescriptor (T k).2.2.1 = some (ty0 k)) (hnm : ∀ a, a < N → ∀ b, b < N → a ≠ b → (T a).2.1 ≠ (T b).2.1) (hfin : (T k).2.2.2 = false) {x : Int64} (hf : fs[k]? = some (.inr (.inl ()))) (ty : FieldType) (hty0 : parseFieldDescriptor (T k).2.2.1 = some ty) (hn : narrow ty (.long x) = .long x) (hfit : fits ty (.long x) = true) (hd : decode cc pc = .ok (.putfield index, 3)) (K : J p l e R s m args below meth c cells slots Q D dA G A H0 nL (v) (stw w a k x) lv (pc + 3) (st)) : J p l e R s m args below meth c cells slots Q D dA G A H0 nL v w lv (pc) (.long x :: .ref a :: st) := by
  intro H locs ls hH hS hl
  obtain ⟨r, h1, cell, q1, q2, q3, q4⟩ := hH a _ hG
  have hr : r = (C, T, N) := Option.some.inj (h1.symm.trans hc)
  subst hr
  obtain ⟨hx, hb, -, hown, hT, hK, -, hA, -⟩ := E
  have hts : ∀ w ∈ u_ws C T N, w.before args s = true := fun w hw => hT.use (hin w hw) (by obtain ⟨j, -, rfl⟩ := List.mem_map.mp hw; unfold u_lay; split <;> rfl) args
  have hap := va_apart (own := own) hts (fun w h => h) ty0 hty hnm hK hc
  obtain ⟨hSl, hfc, kC, hkC, hkind⟩ := hK.1 ci _ hc
  obtain ⟨cf, kf, fi, f, hi, hsl⟩ := hSl k hk
  have hlay := hts _ (u_in_lay hk)
  unfold u_lay at hlay
  rw [if_neg (by rw [hfin]; decide)] at hlay
  have hst := (u_facts hfc hkC (u_lays hts (fun w h => h) hk) hi).1
  have h6 := u_store hfc hkC hkind hlay hi hty0 hn hfit
  refine W.putK hx hb (f := f) ⟨hown, hT.use hl0 rfl args, ⟨_, _, _, hi⟩, hst⟩ (by rw [q2]; exact h6) q1 q3 (by rw [hsl]; exact k2_hasslot (q4 k hk)) rfl rfl hd fun H' e1 e2 e3 => ?_
  rw [hsl] at e1 ⊢
  refine K H' _ ls (fun b sh hb2 => ?_) (hS.put e2 e3 (hA a (by rw [hG]; rfl))) hl
  by_cases hq : b = a
  · subst hq
    rw [hG] at hb2
    cases hb2
    refine ⟨_, hc, t_OB.to (V := updV (fun k => fv v w b k fs[k]?) k (.long x)) ⟨_, e1, q2, q3, t_set q4 hap hk _⟩ (fun j _ => ?_)⟩
    unfold updV
    by_cases hj : j = k
    · subst hj
      rw [hf]
      simp [fv, stw_s]
    · rw [if_neg hj]
      show fv v w b j fs[j]? = fv (v) (stw w b k x) b j fs[j]?
      rcases fs[j]? with _ | g
      · rfl
      · rcases g with g | g | g
        · show Value.int _ = Value.int _
          first | rw [stv_k hj] | rfl
        · show Value.long _ = Value.long _
          first | rw [stw_k hj] | rfl
        · rfl
  · exact (hH b sh hb2).kept (e3 b hq) (fun j => rfl) (fun j => stw_a hq) (fun j => rfl)
theorem J_getN (E : Cx p R s m meth c cells slots cc nL own D dA G A) {C : String} {T : u_T} {N ci index : Nat} {fs : List Fk} {a : Nat} (hin : ∀ w ∈ u_ws C T N, w ∈ lw_tbl) (hc : classes[ci]? = some (C, T, N)) (hG : G a = some (.inl (ci, fs))) (k : Nat) (hk : k < N) {host : String} (hl0 : Cond.fieldLinkNest own index (T k).1 (T k).2.1 (T k).2.2.1 host ∈ lw_tbl) (hd : decode cc pc = .ok (.getfield index, 3)) (K : J p l e R s m args below meth c cells slots Q D dA G A H0 nL v w lv (pc + 3) (fv v w a k fs[k]? :: st)) : J p l e R s m args below meth c cells slots Q D dA G A H0 nL v w lv (pc) (.ref a :: st) := by
  intro H locs ls hH hS hl
  obtain ⟨r, h1, cell, q1, q2, q3, q4⟩ := hH a _ hG
  have hr : r = (C, T, N) := Option.some.inj (h1.symm.trans hc)
  subst hr
  obtain ⟨hx, hb, -, hown, hT, hK, -⟩ := E
  obtain ⟨hSl, hfc, kC, hkC, hkind⟩ := hK.1 ci _ hc
  obtain ⟨cf, kf, fi, f, hi, hsl⟩ := hSl k hk
  have hts : ∀ w ∈ u_ws C T N, w.before args s = true := fun w hw => hT.use (hin w hw) (by obtain ⟨j, -, rfl⟩ := List.mem_map.mp hw; unfold u_lay; split <;> rfl) args
  refine va_Wgetf hx hb hown (hT.use hl0 rfl args) hi (u_facts hfc hkC (u_lays hts (fun w h => h) hk) hi).1 q1 (by rw [q3]; exact fun h => by cases h) (v := fv v w a k fs[k]?) ?_ rfl rfl hd (K H locs ls hH hS hl)
  rw [hsl, q4 k hk]
theorem J_putIN (E : Cx p R s m meth c cells slots cc nL own D dA G A) {C : String} {T : u_T} {N ci index : Nat} {fs : List Fk} {a : Nat} (hin : ∀ w ∈ u_ws C T N, w ∈ lw_tbl) (hc : classes[ci]? = some (C, T, N)) (hG : G a = some (.inl (ci, fs))) (k : Nat) (hk : k < N) {host : String} (hl0 : Cond.fieldLinkNest own index (T k).1 (T k).2.1 (T k).2.2.1 host ∈ lw_tbl) (ty0 : Nat → FieldType) (hty : ∀ k, k < N → parseFieldDescriptor (T k).2.2.1 = some (ty0 k)) (hnm : ∀ a, a < N → ∀ b, b < N → a ≠ b → (T a).2.1 ≠ (T b).2.1) (hfin : (T k).2.2.2 = false) {x : Int32} {b : Int × Int × Bool} (hf : fs[k]? = some (.inl b)) (ty : FieldType) (hty0 : parseFieldDescriptor (T k).2.2.1 = some ty) (hn : narrow ty (.int x) = .int x) (hfit : fits ty (.int x) = true) (hd : decode cc pc = .ok (.putfield index, 3)) (K : J p l e R s m args below meth c cells slots Q D dA G A H0 nL (stv v a k x) (w) lv (pc + 3) (st)) : J p l e R s m args below meth c cells slots Q D dA G A H0 nL v w lv (pc) (.int x :: .ref a :: st) := by
  intro H locs ls hH hS hl
  obtain ⟨r, h1, cell, q1, q2, q3, q4⟩ := hH a _ hG
  have hr : r = (C, T, N) := Option.some.inj (h1.symm.trans hc)
  subst hr
  obtain ⟨hx, hb, -, hown, hT, hK, -, hA, -⟩ := E
  have hts : ∀ w ∈ u_ws C T N, w.before args s = true := fun w hw => hT.use (hin w hw) (by obtain ⟨j, -, rfl⟩ := List.mem_map.mp hw; unfold u_lay; split <;> rfl) args
  have hap := va_apart (own := own) hts (fun w h => h) ty0 hty hnm hK hc
  obtain ⟨hSl, hfc, kC, hkC, hkind⟩ := hK.1 ci _ hc
  obtain ⟨cf, kf, fi, f, hi, hsl⟩ := hSl k hk
  have hlay := hts _ (u_in_lay hk)
  unfold u_lay at hlay
  rw [if_neg (by rw [hfin]; decide)] at hlay
  have hst := (u_facts hfc hkC (u_lays hts (fun w h => h) hk) hi).1
  have h6 := u_store hfc hkC hkind hlay hi hty0 hn hfit
  refine va_WputK hx hb (f := f) hown (hT.use hl0 rfl args) hi hst (by rw [q2]; exact h6) q1 q3 (by rw [hsl]; exact k2_hasslot (q4 k hk)) rfl rfl hd fun H' e1 e2 e3 => ?_
  rw [hsl] at e1 ⊢
  refine K H' _ ls (fun b sh hb2 => ?_) (hS.put e2 e3 (hA a (by rw [hG]; rfl))) hl
  by_cases hq : b = a
  · subst hq
    rw [hG] at hb2
    cases hb2
    refine ⟨_, hc, t_OB.to (V := updV (fun k => fv v w b k fs[k]?) k (.int x)) ⟨_, e1, q2, q3, t_set q4 hap hk _⟩ (fun j _ => ?_)⟩
    unfold updV
    by_cases hj : j = k
    · subst hj
      rw [hf]
      simp [fv, stv_s]
    · rw [if_neg hj]
      show fv v w b j fs[j]? = fv (stv v b k x) (w) b j fs[j]?
      rcases fs[j]? with _ | g
      · rfl
      · rcases g with g | g | g
        · show Value.int _ = Value.int _
          first | rw [stv_k hj] | rfl
        · show Value.long _ = Value.long _
          first | rw [stw_k hj] | rfl
        · rfl
  · exact (hH b sh hb2).kept (e3 b hq) (fun j => stv_a hq) (fun j => rfl) (fun j => rfl)
theorem J_putLN (E : Cx p R s m meth c cells slots cc nL own D dA G A) {C : String} {T : u_T} {N ci index : Nat} {fs : List Fk} {a : Nat} (hin : ∀ w ∈ u_ws C T N, w ∈ lw_tbl) (hc : classes[ci]? = some (C, T, N)) (hG : G a = some (.inl (ci, fs))) (k : Nat) (hk : k < N) {host : String} (hl0 : Cond.fieldLinkNest own index (T k).1 (T k).2.1 (T k).2.2.1 host ∈ lw_tbl) (ty0 : Nat → FieldType) (hty : ∀ k, k < N → parseFieldDescriptor (T k).2.2.1 = some (ty0 k)) (hnm : ∀ a, a < N → ∀ b, b < N → a ≠ b → (T a).2.1 ≠ (T b).2.1) (hfin : (T k).2.2.2 = false) {x : Int64} (hf : fs[k]? = some (.inr (.inl ()))) (ty : FieldType) (hty0 : parseFieldDescriptor (T k).2.2.1 = some ty) (hn : narrow ty (.long x) = .long x) (hfit : fits ty (.long x) = true) (hd : decode cc pc = .ok (.putfield index, 3)) (K : J p l e R s m args below meth c cells slots Q D dA G A H0 nL (v) (stw w a k x) lv (pc + 3) (st)) : J p l e R s m args below meth c cells slots Q D dA G A H0 nL v w lv (pc) (.long x :: .ref a :: st) := by
  intro H locs ls hH hS hl
  obtain ⟨r, h1, cell, q1, q2, q3, q4⟩ := hH a _ hG
  have hr : r = (C, T, N) := Option.some.inj (h1.symm.trans hc)
  subst hr
  obtain ⟨hx, hb, -, hown, hT, hK, -, hA, -⟩ := E
  have hts : ∀ w ∈ u_ws C T N, w.before args s = true := fun w hw => hT.use (hin w hw) (by obtain ⟨j, -, rfl⟩ := List.mem_map.mp hw; unfold u_lay; split <;> rfl) args
  have hap := va_apart (own := own) hts (fun w h => h) ty0 hty hnm hK hc
  obtain ⟨hSl, hfc, kC, hkC, hkind⟩ := hK.1 ci _ hc
  obtain ⟨cf, kf, fi, f, hi, hsl⟩ := hSl k hk
  have hlay := hts _ (u_in_lay hk)
  unfold u_lay at hlay
  rw [if_neg (by rw [hfin]; decide)] at hlay
  have hst := (u_facts hfc hkC (u_lays hts (fun w h => h) hk) hi).1
  have h6 := u_store hfc hkC hkind hlay hi hty0 hn hfit
  refine va_WputK hx hb (f := f) hown (hT.use hl0 rfl args) hi hst (by rw [q2]; exact h6) q1 q3 (by rw [hsl]; exact k2_hasslot (q4 k hk)) rfl rfl hd fun H' e1 e2 e3 => ?_
  rw [hsl] at e1 ⊢
  refine K H' _ ls (fun b sh hb2 => ?_) (hS.put e2 e3 (hA a (by rw [hG]; rfl))) hl
  by_cases hq : b = a
  · subst hq
    rw [hG] at hb2
    cases hb2
    refine ⟨_, hc, t_OB.to (V := updV (fun k => fv v w b k fs[k]?) k (.long x)) ⟨_, e1, q2, q3, t_set q4 hap hk _⟩ (fun j _ => ?_)⟩
    unfold updV
    by_cases hj : j = k
    · subst hj
      rw [hf]
      simp [fv, stw_s]
    · rw [if_neg hj]
      show fv v w b j fs[j]? = fv (v) (stw w b k x) b j fs[j]?
      rcases fs[j]? with _ | g
      · rfl
      · rcases g with g | g | g
        · show Value.int _ = Value.int _
          first | rw [stv_k hj] | rfl
        · show Value.long _ = Value.long _
          first | rw [stw_k hj] | rfl
        · rfl
  · exact (hH b sh hb2).kept (e3 b hq) (fun j => rfl) (fun j => stw_a hq) (fun j => rfl)
theorem J_iald (E : Cx p R s m meth c cells slots cc nL own D dA G A) {n : Nat} {g : Nat → Int × Int × Bool} {a : Nat} {i : Int32} (hG : G a = some (.inr (0, n, .inl g))) (hi : vp_in i n) (hd : decode cc pc = .ok (.iaload, 1)) (K : J p l e R s m args below meth c cells slots Q D dA G A H0 nL v w lv (pc + 1) (.int (v a i.toNatClampNeg) :: st)) : J p l e R s m args below meth c cells slots Q D dA G A H0 nL v w lv (pc) (.int i :: .ref a :: st) := by
  intro H locs ls hH hS hl
  have h1 : H[a]? = some (arrV (dA 0) n (fun j => .int (v a j))) := hH a _ hG
  have hlt : i.toNatClampNeg < n := Nat.not_le.mp fun q => hi (Or.inr q)
  obtain ⟨hx, hb, -, hown, hT, hK, -⟩ := E
  exact W.iald (v := .int (v a i.toNatClampNeg)) hx hb h1 ((hK.2 0 _ rfl).1 n (fun j => .int (v a j))) (fun q => by cases q) (by show ¬ (i < 0 ∨ (arrV _ _ _).slots.size ≤ _); rw [arrV_size]; exact hi) (by show (arrV _ _ _).slots[_]? = _; rw [arrV_read _ _ hlt]) rfl rfl hd (K H locs ls hH hS hl)
theorem J_bald (E : Cx p R s m meth c cells slots cc nL own D dA G A) {n : Nat} {g : Nat → Int × Int × Bool} {a : Nat} {i : Int32} (hG : G a = some (.inr (1, n, .inl g))) (hi : vp_in i n) (hd : decode cc pc = .ok (.baload, 1)) (K : J p l e R s m args below meth c cells slots Q D dA G A H0 nL v w lv (pc + 1) (.int (v a i.toNatClampNeg) :: st)) : J p l e R s m args below meth c cells slots Q D dA G A H0 nL v w lv (pc) (.int i :: .ref a :: st) := by
  intro H locs ls hH hS hl
  have h1 : H[a]? = some (arrV (dA 1) n (fun j => .int (v a j))) := hH a _ hG
  have hlt : i.toNatClampNeg < n := Nat.not_le.mp fun q => hi (Or.inr q)
  obtain ⟨hx, hb, -, hown, hT, hK, -⟩ := E
  exact W.bald (v := .int (v a i.toNatClampNeg)) hx hb h1 ((hK.2 1 _ rfl).1 n (fun j => .int (v a j))) (fun q => by cases q) (by show ¬ (i < 0 ∨ (arrV _ _ _).slots.size ≤ _); rw [arrV_size]; exact hi) (by show (arrV _ _ _).slots[_]? = _; rw [arrV_read _ _ hlt]) rfl rfl hd (K H locs ls hH hS hl)
theorem J_zald (E : Cx p R s m meth c cells slots cc nL own D dA G A) {n : Nat} {g : Nat → Int × Int × Bool} {a : Nat} {i : Int32} (hG : G a = some (.inr (2, n, .inl g))) (hi : vp_in i n) (hd : decode cc pc = .ok (.baload, 1)) (K : J p l e R s m args below meth c cells slots Q D dA G A H0 nL v w lv (pc + 1) (.int (v a i.toNatClampNeg) :: st)) : J p l e R s m args below meth c cells slots Q D dA G A H0 nL v w lv (pc) (.int i :: .ref a :: st) := by
  intro H locs ls hH hS hl
  have h1 : H[a]? = some (arrV (dA 2) n (fun j => .int (v a j))) := hH a _ hG
  have hlt : i.toNatClampNeg < n := Nat.not_le.mp fun q => hi (Or.inr q)
  obtain ⟨hx, hb, -, hown, hT, hK, -⟩ := E
  exact W.zald (v := .int (v a i.toNatClampNeg)) hx hb h1 ((hK.2 2 _ rfl).1 n (fun j => .int (v a j))) (fun q => by cases q) (by show ¬ (i < 0 ∨ (arrV _ _ _).slots.size ≤ _); rw [arrV_size]; exact hi) (by show (arrV _ _ _).slots[_]? = _; rw [arrV_read _ _ hlt]) rfl rfl hd (K H locs ls hH hS hl)
theorem J_iast (E : Cx p R s m meth c cells slots cc nL own D dA G A) {n : Nat} {g : Nat → Int × Int × Bool} {a : Nat} {i x : Int32} (hG : G a = some (.inr (0, n, .inl g))) (hi : vp_in i n) (hd : decode cc pc = .ok (.iastore, 1)) (K : J p l e R s m args below meth c cells slots Q D dA G A H0 nL (stv v a i.toNatClampNeg (x)) w lv (pc + 1) (st)) : J p l e R s m args below meth c cells slots Q D dA G A H0 nL v w lv (pc) (.int x :: .int i :: .ref a :: st) := by
  intro H locs ls hH hS hl
  have h1 : H[a]? = some (arrV (dA 0) n (fun j => .int (v a j))) := hH a _ hG
  obtain ⟨hx, hb, -, hown, hT, hK, -, hA, -⟩ := E
  refine W.iast hx hb h1 ((hK.2 0 _ rfl).1 n (fun j => .int (v a j))) (fun q => by cases q) (by show ¬ (i < 0 ∨ (arrV _ _ _).slots.size ≤ _); rw [arrV_size]; exact hi) rfl rfl hd fun H' e1 e2 e3 => ?_
  refine K H' _ ls (fun b sh hb2 => ?_) (hS.put e2 e3 (hA a (by rw [hG]; rfl))) hl
  by_cases hq : b = a
  · subst hq
    rw [hG] at hb2
    cases hb2
    show H'[b]? = some (arrV (dA 0) n _)
    rw [e1, arrV_store]
    congr 2
    funext j
    by_cases hj : j = i.toNatClampNeg
    · subst hj
      simp [updV, stv]
      try rfl
    · simp [updV, stv, hj]
  · exact (hH b sh hb2).kept (e3 b hq) (fun j => stv_a hq) (fun j => rfl) (fun j => rfl)
theorem J_bast (E : Cx p R s m meth c cells slots cc nL own D dA G A) {n : Nat} {g : Nat → Int × Int × Bool} {a : Nat} {i x : Int32} (hG : G a = some (.inr (1, n, .inl g))) (hi : vp_in i n) (hd : decode cc pc = .ok (.bastore, 1)) (K : J p l e R s m args below meth c cells slots Q D dA G A H0 nL (stv v a i.toNatClampNeg (vp_nar .byte x)) w lv (pc + 1) (st)) : J p l e R s m args below meth c cells slots Q D dA G A H0 nL v w lv (pc) (.int x :: .int i :: .ref a :: st) := by
  intro H locs ls hH hS hl
  have h1 : H[a]? = some (arrV (dA 1) n (fun j => .int (v a j))) := hH a _ hG
  obtain ⟨hx, hb, -, hown, hT, hK, -, hA, -⟩ := E
  refine W.bast hx hb h1 ((hK.2 1 _ rfl).1 n (fun j => .int (v a j))) (fun q => by cases q) (by show ¬ (i < 0 ∨ (arrV _ _ _).slots.size ≤ _); rw [arrV_size]; exact hi) rfl rfl hd fun H' e1 e2 e3 => ?_
  refine K H' _ ls (fun b sh hb2 => ?_) (hS.put e2 e3 (hA a (by rw [hG]; rfl))) hl
  by_cases hq : b = a
  · subst hq
    rw [hG] at hb2
    cases hb2
    show H'[b]? = some (arrV (dA 1) n _)
    rw [e1, arrV_store]
    congr 2
    funext j
    by_cases hj : j = i.toNatClampNeg
    · subst hj
      simp [updV, stv, vp_nar]
      try rfl
    · simp [updV, stv, hj]
  · exact (hH b sh hb2).kept (e3 b hq) (fun j => stv_a hq) (fun j => rfl) (fun j => rfl)
theorem J_zast (E : Cx p R s m meth c cells slots cc nL own D dA G A) {n : Nat} {g : Nat → Int × Int × Bool} {a : Nat} {i x : Int32} (hG : G a = some (.inr (2, n, .inl g))) (hi : vp_in i n) (hd : decode cc pc = .ok (.bastore, 1)) (K : J p l e R s m args below meth c cells slots Q D dA G A H0 nL (stv v a i.toNatClampNeg (vp_nar .boolean x)) w lv (pc + 1) (st)) : J p l e R s m args below meth c cells slots Q D dA G A H0 nL v w lv (pc) (.int x :: .int i :: .ref a :: st) := by
  intro H locs ls hH hS hl
  have h1 : H[a]? = some (arrV (dA 2) n (fun j => .int (v a j))) := hH a _ hG
  obtain ⟨hx, hb, -, hown, hT, hK, -, hA, -⟩ := E
  refine W.zast hx hb h1 ((hK.2 2 _ rfl).1 n (fun j => .int (v a j))) (fun q => by cases q) (by show ¬ (i < 0 ∨ (arrV _ _ _).slots.size ≤ _); rw [arrV_size]; exact hi) rfl rfl hd fun H' e1 e2 e3 => ?_
  refine K H' _ ls (fun b sh hb2 => ?_) (hS.put e2 e3 (hA a (by rw [hG]; rfl))) hl
  by_cases hq : b = a
  · subst hq
    rw [hG] at hb2
    cases hb2
    show H'[b]? = some (arrV (dA 2) n _)
    rw [e1, arrV_store]
    congr 2
    funext j
    by_cases hj : j = i.toNatClampNeg
    · subst hj
      simp [updV, stv, vp_nar]
      try rfl
    · simp [updV, stv, hj]
  · exact (hH b sh hb2).kept (e3 b hq) (fun j => stv_a hq) (fun j => rfl) (fun j => rfl)
theorem J_aald3 (E : Cx p R s m meth c cells slots cc nL own D dA G A) {n : Nat} {L : List Nat} {a b : Nat} {i : Int32} (hG : G a = some (.inr (3, n, .inr L))) (hi : vp_in i n) (hw : w.2 a i.toNatClampNeg = some b) (hd : decode cc pc = .ok (.aaload, 1)) (K : J p l e R s m args below meth c cells slots Q D dA G A H0 nL v w lv (pc + 1) (.ref b :: st)) : J p l e R s m args below meth c cells slots Q D dA G A H0 nL v w lv (pc) (.int i :: .ref a :: st) := by
  intro H locs ls hH hS hl
  have h1 : H[a]? = some (arrV (dA 3) n (fun j => va_rf (w.2 a j))) := hH a _ hG
  have hlt : i.toNatClampNeg < n := Nat.not_le.mp fun q => hi (Or.inr q)
  obtain ⟨hx, hb, -, hown, hT, hK, -⟩ := E
  have h2 := K H locs ls hH hS hl
  have h3 : va_rf (w.2 a i.toNatClampNeg) = Value.ref b := by rw [hw]; rfl
  rw [← h3] at h2
  exact W.aald (v := va_rf (w.2 a i.toNatClampNeg)) (ty := .object RX6) hx hb h1 ((hK.2 3 _ rfl).1 n (fun j => va_rf (w.2 a j))) rfl (fun q => by cases q) (by show ¬ (i < 0 ∨ (arrV _ _ _).slots.size ≤ _); rw [arrV_size]; exact hi) (by show (arrV _ _ _).slots[_]? = _; rw [arrV_read _ _ hlt]) rfl rfl hd h2
theorem J_aast3 (E : Cx p R s m meth c cells slots cc nL own D dA G A) {n : Nat} {L : List Nat} {a b : Nat} {i : Int32} {fs : List Fk} (hG : G a = some (.inr (3, n, .inr L))) (hB : G b = some (.inl (6, fs))) (hi : vp_in i n) (hd : decode cc pc = .ok (.aastore, 1)) (K : J p l e R s m args below meth c cells slots Q D dA G A H0 nL v (stu w a i.toNatClampNeg (some b)) lv (pc + 1) (st)) : J p l e R s m args below meth c cells slots Q D dA G A H0 nL v w lv (pc) (.ref b :: .int i :: .ref a :: st) := by
  intro H locs ls hH hS hl
  have h1 : H[a]? = some (arrV (dA 3) n (fun j => va_rf (w.2 a j))) := hH a _ hG
  have hlt : i.toNatClampNeg < n := Nat.not_le.mp fun q => hi (Or.inr q)
  have h0 : ¬ i < 0 := fun q => hi (Or.inl q)
  obtain ⟨hx, hb, -, hown, hT, hK, -, hA, -⟩ := E
  obtain ⟨r', hr', cellV, g1, g2, g3, -⟩ := hH b _ hB
  have hcls := (hK.1 6 _ rfl).2
  obtain ⟨kA, comp, k1, k2, k3, -⟩ := (hK.2 3 _ rfl).2
  have hcomp : comp = D.1 6 := Option.some.inj (k3.symm.trans hcls.1)
  subst hcomp
  obtain ⟨kC, hkC, -⟩ := hcls.2
  refine W.aast hx hb h1 (fun q h => by cases h) (fun h => by cases h) k1 k2 rfl hkC ⟨h0, by show _ < (arrV _ _ _).slots.size; rw [arrV_size]; exact hlt⟩ g1 (fun q h => by rw [g3] at h; cases h) (by rw [g2]; exact hkC) (by rw [g2]; exact va_assign hcls) rfl rfl hd fun H' e1 e2 e3 => ?_
  refine K H' _ ls (fun b2 sh hb2 => ?_) (hS.put e2 e3 (hA a (by rw [hG]; rfl))) hl
  by_cases hq : b2 = a
  · subst hq
    rw [hG] at hb2
    cases hb2
    show H'[b2]? = some (arrV (dA 3) n _)
    rw [e1, arrV_store]
    congr 2
    funext j
    by_cases hj : j = i.toNatClampNeg
    · subst hj
      simp [updV, stu, va_rf]
    · simp [updV, stu, hj]
  · exact (hH b2 sh hb2).kept (e3 b2 hq) (fun j => rfl) (fun j => rfl) (fun j => stu_a hq)
theorem J_aald4 (E : Cx p R s m meth c cells slots cc nL own D dA G A) {n : Nat} {L : List Nat} {a b : Nat} {i : Int32} (hG : G a = some (.inr (4, n, .inr L))) (hi : vp_in i n) (hw : w.2 a i.toNatClampNeg = some b) (hd : decode cc pc = .ok (.aaload, 1)) (K : J p l e R s m args below meth c cells slots Q D dA G A H0 nL v w lv (pc + 1) (.ref b :: st)) : J p l e R s m args below meth c cells slots Q D dA G A H0 nL v w lv (pc) (.int i :: .ref a :: st) := by
  intro H locs ls hH hS hl
  have h1 : H[a]? = some (arrV (dA 4) n (fun j => va_rf (w.2 a j))) := hH a _ hG
  have hlt : i.toNatClampNeg < n := Nat.not_le.mp fun q => hi (Or.inr q)
  obtain ⟨hx, hb, -, hown, hT, hK, -⟩ := E
  have h2 := K H locs ls hH hS hl
  have h3 : va_rf (w.2 a i.toNatClampNeg) = Value.ref b := by rw [hw]; rfl
  rw [← h3] at h2
  exact W.aald (v := va_rf (w.2 a i.toNatClampNeg)) (ty := .object RX2) hx hb h1 ((hK.2 4 _ rfl).1 n (fun j => va_rf (w.2 a j))) rfl (fun q => by cases q) (by show ¬ (i < 0 ∨ (arrV _ _ _).slots.size ≤ _); rw [arrV_size]; exact hi) (by show (arrV _ _ _).slots[_]? = _; rw [arrV_read _ _ hlt]) rfl rfl hd h2
theorem J_aast4 (E : Cx p R s m meth c cells slots cc nL own D dA G A) {n : Nat} {L : List Nat} {a b : Nat} {i : Int32} {fs : List Fk} (hG : G a = some (.inr (4, n, .inr L))) (hB : G b = some (.inl (2, fs))) (hi : vp_in i n) (hd : decode cc pc = .ok (.aastore, 1)) (K : J p l e R s m args below meth c cells slots Q D dA G A H0 nL v (stu w a i.toNatClampNeg (some b)) lv (pc + 1) (st)) : J p l e R s m args below meth c cells slots Q D dA G A H0 nL v w lv (pc) (.ref b :: .int i :: .ref a :: st) := by
  intro H locs ls hH hS hl
  have h1 : H[a]? = some (arrV (dA 4) n (fun j => va_rf (w.2 a j))) := hH a _ hG
  have hlt : i.toNatClampNeg < n := Nat.not_le.mp fun q => hi (Or.inr q)
  have h0 : ¬ i < 0 := fun q => hi (Or.inl q)
  obtain ⟨hx, hb, -, hown, hT, hK, -, hA, -⟩ := E
  obtain ⟨r', hr', cellV, g1, g2, g3, -⟩ := hH b _ hB
  have hcls := (hK.1 2 _ rfl).2
  obtain ⟨kA, comp, k1, k2, k3, -⟩ := (hK.2 4 _ rfl).2
  have hcomp : comp = D.1 2 := Option.some.inj (k3.symm.trans hcls.1)
  subst hcomp
  obtain ⟨kC, hkC, -⟩ := hcls.2
  refine W.aast hx hb h1 (fun q h => by cases h) (fun h => by cases h) k1 k2 rfl hkC ⟨h0, by show _ < (arrV _ _ _).slots.size; rw [arrV_size]; exact hlt⟩ g1 (fun q h => by rw [g3] at h; cases h) (by rw [g2]; exact hkC) (by rw [g2]; exact va_assign hcls) rfl rfl hd fun H' e1 e2 e3 => ?_
  refine K H' _ ls (fun b2 sh hb2 => ?_) (hS.put e2 e3 (hA a (by rw [hG]; rfl))) hl
  by_cases hq : b2 = a
  · subst hq
    rw [hG] at hb2
    cases hb2
    show H'[b2]? = some (arrV (dA 4) n _)
    rw [e1, arrV_store]
    congr 2
    funext j
    by_cases hj : j = i.toNatClampNeg
    · subst hj
      simp [updV, stu, va_rf]
    · simp [updV, stu, hj]
  · exact (hH b2 sh hb2).kept (e3 b2 hq) (fun j => rfl) (fun j => rfl) (fun j => stu_a hq)
end JR
