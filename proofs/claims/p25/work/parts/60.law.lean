/-! THE CLAIM OUT OF ONE WALK OF THE LAW'S BODY. Your part is whole_start (and what it stands on); all else here is the same for every law, but numbers. -/
def R_law : String := "StoneHeldLaw"
def lw_P (b : Addr) (xs : List Int32) (args : Array Value) (s : State) : Prop := args = #[.ref b] ∧ s.IntsAt b xs ∧ xs.length ≤ 2560 ∧ (Jvm.Cond.and given_1 narrow_1).before args s = true
def lw_Q (_ : Array Value) (s : State) (o : Outcome) (t : State) : Prop := o = .returned (some (.int 1)) ∧ Framed s o t [] 600000 7302250
def lw_Z (below : List Frame) (a : Array Value) (s : State) : State → Prop := fun t => ∃ o, t.status = .running ∧ Ended t below o ∧ lw_Q a s o t
/-- the law's own end, with 1 on the stack, nothing written that was there before, its room as the claim has it -/
theorem lw_ret {p : Program} {l : Launch} {e : Env} {s : State} {m : MethodId} {below : List Frame} {meth : Method} {c : Code} {b : Nat} (hx : p.tables.exec = Jvm.exec) (hb : c.code = code) (hr : meth.sig.returnType = ret) (hlocks : meth.locks = false) {pc : Nat} {H : Heap} {ls : Array Slot} (hdg : decode code pc = .ok (.ireturn, 1)) : W p l e room_1 s m #[Value.ref b] below meth c H [] 600000 7302250 (lw_Z below #[Value.ref b] s) (F0 m pc ls [.int 1]) := by
  intro T hT X
  obtain ⟨fs, hret, hrun, hended, hW, hframe⟩ := X.leave (v := some (.int 1)) (hlocks := hlocks) (fun h => by rw [hr] at h; cases h)
  have hmeth' : T.vm.method? m = some meth := X.method'
  refine ⟨T.setFrames fs, ?_, .returned (some (.int 1)), hrun, hended, rfl, ⟨_, rfl⟩, hW, hframe⟩
  jvm_step X.here [X.here.top, hx, hb, hdg, hmeth', hr, ret, narrow_b1]
  (try refine ⟨rfl, ?_⟩); (try refine ⟨rfl, ?_⟩)
  first | (intro acts; rw [hret _ acts rfl rfl rfl]) | rw [hret _ _ rfl rfl rfl]
  exact Steps.refl _
/-- what holds at the law's entry: the machine, the code, the tables' words (any of lw_tbl by 'hts w (by decide +kernel)'), the script of L ints xs at the cell b, what the Statement gives of the start (any of its parts by flat_of_before) -/
def lw_At (p : Program) (s : State) (m : MethodId) (meth : Method) (c : Code) (b L : Nat) (xs : Nat → Int32) : Prop :=
  p.tables.exec = Jvm.exec ∧ c.code = code ∧ meth.sig.returnType = ret ∧ c.maxLocals = 4 ∧ s.vm.findClass R_law = some m.cls ∧ (∀ w ∈ lw_tbl, w.before #[Value.ref b] s = true) ∧ va_X b L xs s s.heap ∧ b < s.heap.size ∧ meth.locks = false ∧ (Jvm.Cond.and given_1 narrow_1).before #[Value.ref b] s = true
/-! THE LAW'S ROWS: its script, its end -/
abbrev Al (s : State) : Nat → Prop := fun q => s.heap.size ≤ q
abbrev LV (b a7 a8 : Nat) (x : Int32) : List (Nat × Value) := [(3, .int x), (2, .ref a8), (1, .ref a7), (0, .ref b)]
section JL
variable {p : Program} {l : Launch} {e : Env} {R : Room} {s : State} {m : MethodId} {args : Array Value} {below : List Frame} {meth : Method} {c : Code} {cells slots : Nat} {Q : State → Prop} {D : va_G} {dA : Nat → ClassId} {G : Gm} {A : Nat → Prop} {nL : Nat} {cc : ByteArray} {own : String} {v : Mv} {w : Mw} {lv lv' : List (Nat × Value)} {pc : Nat} {st : List Value} {b L : Nat} {xs : Nat → Int32}
theorem J_slen (E : Cx p R s m meth c cells slots cc nL own D dA G A) (hX : va_X b L xs s s.heap) (hbl : b < s.heap.size) (hbA : ¬ A b) (hd : decode cc pc = .ok (.arraylength, 1)) (K : J p l e R s m args below meth c cells slots Q D dA G A s.heap nL v w lv (pc + 1) (.int (Int32.ofNat L) :: st)) : J p l e R s m args below meth c cells slots Q D dA G A s.heap nL v w lv (pc) (.ref b :: st) := fun H locs ls hH hS hl => va_slen E.1 E.2.1 hX hbl hbA hS hd (K H locs ls hH hS hl)
theorem J_sld (E : Cx p R s m meth c cells slots cc nL own D dA G A) (hX : va_X b L xs s s.heap) (hbl : b < s.heap.size) (hbA : ¬ A b) {i : Int32} (hi : vp_in i L) (hd : decode cc pc = .ok (.iaload, 1)) (K : J p l e R s m args below meth c cells slots Q D dA G A s.heap nL v w lv (pc + 1) (.int (xs i.toNatClampNeg) :: st)) : J p l e R s m args below meth c cells slots Q D dA G A s.heap nL v w lv (pc) (.int i :: .ref b :: st) := fun H locs ls hH hS hl => va_sld E.1 E.2.1 hX hbl hbA hS hi hd (K H locs ls hH hS hl)
theorem J_arg {a7 a8 : Nat} {x : Int32} (k : Int) (kx : Int32) (E : Cx p R s m meth c cells slots cc nL own D dA G A) (hX : va_X b L xs s s.heap) (hbl : b < s.heap.size) (hbA : ¬ A b) (hk : Int32.ofInt k = kx) (hi : vp_in (x + kx) L) (d0 : decode cc pc = .ok (.aload_n 0, 1)) (d1 : decode cc (pc + 1) = .ok (.iload_n 3, 1)) (d2 : decode cc (pc + 2) = .ok (.iconst k, 1)) (d3 : decode cc (pc + 3) = .ok (.iadd, 1)) (d4 : decode cc (pc + 4) = .ok (.iaload, 1)) (K : J p l e R s m args below meth c cells slots Q D dA G A s.heap nL v w (LV b a7 a8 x) (pc + 5) (.int (xs (x + kx).toNatClampNeg) :: st)) : J p l e R s m args below meth c cells slots Q D dA G A s.heap nL v w (LV b a7 a8 x) (pc) (st) := by
  refine J_aload_n E d0 3 rfl ?_
  refine J_iload_n E d1 0 rfl ?_
  refine J_iconst E kx d2 hk ?_
  refine J_iadd E d3 (fun z ez => ?_)
  subst ez
  exact J_sld E hX hbl hbA hi d4 K
end JL
theorem arg_in {x : Int32} {L : Nat} (kx : Int32) (hb : Bd x 0 ((L : Int) - 5)) (hL : L ≤ 2560) (hk : Bd kx 1 4) : vp_in (x + kx) L := (Bd.add rfl hb hk (by show (-2147483648 : Int) ≤ _ ∧ _ ≤ (2147483647 : Int); constructor <;> omega)).in (by constructor <;> omega)
theorem arg_in0 {x : Int32} {L : Nat} (hb : Bd x 0 ((L : Int) - 5)) : vp_in x L := hb.in (by constructor <;> omega)
theorem img_eq {P : Prop} {r1 r2 : Int32} (h1 : (¬ P ∨ r1 = 1) ∧ (P ∨ r1 = -2)) (h2 : (¬ P ∨ r2 = 1) ∧ (P ∨ r2 = -2)) : r1 = r2 := by
  rcases Classical.em P with q | q
  · exact (h1.1.resolve_left (fun z => z q)).trans (h2.1.resolve_left (fun z => z q)).symm
  · exact (h1.2.resolve_left q).trans (h2.2.resolve_left q).symm
theorem Ok.same {G : Gm} {v v1 : Mv} {w w1 : Mw} (h : Ok G v w) (e1 : v1 = v) (e2 : w1 = w) : Ok G v1 w1 := by rw [e1, e2]; exact h
/-- what the law's walk stands on, once both objects are there -/
def LwE (p : Program) (s : State) (m : MethodId) (meth : Method) (c : Code) (cells slots : Nat) (D : va_G) (dA : Nat → ClassId) (G : Gm) (b L : Nat) (xs : Nat → Int32) (a7 a8 : Nat) (adK adV : Nat → Nat) : Prop := Cx p room_1 s m meth c cells slots code 4 RL D dA G (Al s) ∧ va_X b L xs s s.heap ∧ b < s.heap.size ∧ T_X7 G a7 ∧ T_X8 G a8 ∧ StX (Al s) adK adV s s.heap ∧ StR adK s
