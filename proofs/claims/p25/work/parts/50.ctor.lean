/-! MAKING OBJECTS: the shapes grow -/
def ext (G : Gm) (a : Nat) (sh : Sh) : Gm := fun b => if b = a then some sh else G b
def zv (v : Mv) (a : Nat) : Mv := fun b j => if b = a then 0 else v b j
def zw (w : Mw) (a : Nat) : Mw := (fun b j => if b = a then 0 else w.1 b j, fun b j => if b = a then none else w.2 b j)
def un (G2 G : Gm) : Gm := fun b => match G2 b with
  | some sh => some sh
  | none => G b
def uv (G2 : Gm) (v2 v : Mv) : Mv := fun b j => if (G2 b).isSome then v2 b j else v b j
def uw (G2 : Gm) (w2 w : Mw) : Mw := (fun b j => if (G2 b).isSome then w2.1 b j else w.1 b j, fun b j => if (G2 b).isSome then w2.2 b j else w.2 b j)
theorem ext_s {G : Gm} {a : Nat} {sh : Sh} : ext G a sh a = some sh := if_pos rfl
theorem ext_n {G : Gm} {a b : Nat} {sh : Sh} (h : b ≠ a) : ext G a sh b = G b := if_neg h
theorem Hc.lt {D : va_G} {dA : Nat → ClassId} {v : Mv} {w : Mw} {H : Heap} {a : Nat} {sh : Sh} (h : Hc D dA v w H a sh) : a < H.size := by
  rcases sh with ⟨ci, fs⟩ | ⟨t, n, g | g⟩
  · obtain ⟨r, -, cell, h1, -⟩ := h
    exact (Array.getElem?_eq_some_iff.mp h1).1
  · have h : H[a]? = some (arrV (dA t) n (fun j => .int (v a j))) := h
    exact (Array.getElem?_eq_some_iff.mp h).1
  · have h : H[a]? = some (arrV (dA t) n (fun j => va_rf (w.2 a j))) := h
    exact (Array.getElem?_eq_some_iff.mp h).1
/-- all cells but those of a tag stay -/
def Lt (G G' : Gm) (ci : Nat) : Prop := ∀ (c : Nat) (s : Sh), G c = some s → Nat.beq (tg s) ci = false → G' c = some s
theorem Lt.tr {G G1 G2 : Gm} {ci : Nat} (h : Lt G G1 ci) (h2 : Lt G1 G2 ci) : Lt G G2 ci := fun c s hc ht => h2 c s (h c s hc ht) ht
theorem rf_eq {G G' : Gm} {a k : Nat} (h : G' a = G a) : rf G' a k = rf G a k := by unfold rf; rw [h]
theorem rl_eq {G G' : Gm} {a : Nat} (h : G' a = G a) : rl G' a = rl G a := by unfold rl; rw [h]
theorem S_X2.lt {G G' : Gm} {a ci : Nat} (h : Lt G G' ci) (hs : S_X2 G a) (h1 : Nat.beq 2 ci = false) (h2 : Nat.beq 107 ci = false) : S_X2 G' a := by
  obtain ⟨q0, q1, q2⟩ := hs
  have e0 := h a _ q0 h1
  have er : ∀ k, rf G' a k = rf G a k := fun k => rf_eq (e0.trans q0.symm)
  unfold S_X2
  rw [er, er]
  exact ⟨e0, h _ _ q1 h2, h _ _ q2 h2⟩
theorem S_X4.lt {G G' : Gm} {a n ci : Nat} (h : Lt G G' ci) (hs : S_X4 G a n) (h1 : Nat.beq 4 ci = false) (h2 : Nat.beq (100 + 10000 * 0 + 4 * n) ci = false) : S_X4 G' a n := by
  obtain ⟨q0, q1⟩ := hs
  have e0 := h a _ q0 h1
  have er : ∀ k, rf G' a k = rf G a k := fun k => rf_eq (e0.trans q0.symm)
  unfold S_X4
  rw [er]
  exact ⟨e0, h _ _ q1 h2⟩
theorem S_X0.lt {G G' : Gm} {a ci : Nat} (h : Lt G G' ci) (hs : S_X0 G a) (h1 : Nat.beq 0 ci = false) (h2 : Nat.beq 109 ci = false) : S_X0 G' a := by
  obtain ⟨q0, q1⟩ := hs
  have e0 := h a _ q0 h1
  have er : ∀ k, rf G' a k = rf G a k := fun k => rf_eq (e0.trans q0.symm)
  unfold S_X0
  rw [er]
  exact ⟨e0, h _ _ q1 h2⟩
theorem S_X1.lt {G G' : Gm} {a ci : Nat} (h : Lt G G' ci) (hs : S_X1 G a) (h1 : Nat.beq 1 ci = false) (h2 : Nat.beq 107 ci = false) (h3 : Nat.beq 996 ci = false) : S_X1 G' a := by
  obtain ⟨q0, q1, q2⟩ := hs
  have e0 := h a _ q0 h1
  have er : ∀ k, rf G' a k = rf G a k := fun k => rf_eq (e0.trans q0.symm)
  unfold S_X1
  rw [er, er]
  exact ⟨e0, h _ _ q1 h2, h _ _ q2 h3⟩
theorem S_X6.lt {G G' : Gm} {a ci : Nat} (h : Lt G G' ci) (hs : S_X6 G a) (h1 : Nat.beq 6 ci = false) (h2 : Nat.beq 107 ci = false) (h3 : Nat.beq 2 ci = false) (h4 : Nat.beq 40108 ci = false) (h5 : Nat.beq 4 ci = false) (h6 : Nat.beq 120 ci = false) (h7 : Nat.beq 124 ci = false) : S_X6 G' a := by
  obtain ⟨q0, q1, q2, q4, q5, q6, ⟨q7, q7b⟩, q9, q10, q11⟩ := hs
  have e0 := h a _ q0 h1
  have er : ∀ k, rf G' a k = rf G a k := fun k => rf_eq (e0.trans q0.symm)
  have e7 := h _ _ q7 h4
  unfold S_X6
  simp only [er]
  have el : rl G' (rf G a 7) = rl G (rf G a 7) := rl_eq (e7.trans q7.symm)
  rw [el]
  exact ⟨e0, h _ _ q1 h2, h _ _ q2 h2, h _ _ q4 h2, h _ _ q5 h2, q6.lt h h3 h2, ⟨e7, fun b hb => (q7b b hb).lt h h3 h2⟩, q9.lt h h5 h6, q10.lt h h5 h7, q11.lt h h5 h7⟩
theorem S_X3.lt {G G' : Gm} {a ci : Nat} (h : Lt G G' ci) (hs : S_X3 G a) (h0 : Nat.beq 3 ci = false) (h8 : Nat.beq 250 ci = false) (h1 : Nat.beq 6 ci = false) (h2 : Nat.beq 107 ci = false) (h3 : Nat.beq 2 ci = false) (h4 : Nat.beq 40108 ci = false) (h5 : Nat.beq 4 ci = false) (h6 : Nat.beq 120 ci = false) (h7 : Nat.beq 124 ci = false) : S_X3 G' a := by
  obtain ⟨q0, q1, q2⟩ := hs
  have e0 := h a _ q0 h0
  have er : ∀ k, rf G' a k = rf G a k := fun k => rf_eq (e0.trans q0.symm)
  unfold S_X3
  simp only [er]
  exact ⟨e0, h _ _ q1 h8, q2.lt h h1 h2 h3 h4 h5 h6 h7⟩
/-- what stays when a cell comes -/
theorem Lt.extN {G : Gm} {a ci : Nat} {sh : Sh} (h : G a = none) : Lt G (ext G a sh) ci := fun c s hc _ => by
  rw [ext_n (fun q => by rw [q, h] at hc; cases hc)]
  exact hc
theorem Lt.setN {G : Gm} {a ci : Nat} {s0 sh : Sh} (h : G a = some s0) (ht : tg s0 = ci) : Lt G (ext G a sh) ci := fun c s hc hn => by
  rw [ext_n (fun q => by
    rw [q, h] at hc
    cases hc
    rw [ht, Nat.beq_refl] at hn
    cases hn)]
  exact hc
theorem Lt.unN {G2 G : Gm} {a ci : Nat} {s0 : Sh} (h : G a = some s0) (ht : tg s0 = ci) (hd : ∀ b, (G2 b).isSome = true → b = a ∨ G b = none) : Lt G (un G2 G) ci := fun c s hc hn => by
  unfold un
  cases h2 : G2 c with
  | none => exact hc
  | some s2 =>
    exfalso
    rcases hd c (by rw [h2]; rfl) with q | q
    · rw [q, h] at hc
      cases hc
      rw [ht, Nat.beq_refl] at hn
      cases hn
    · rw [q] at hc
      cases hc
theorem Lt.unM {G2 G : Gm} {ci : Nat} : Lt G2 (un G2 G) ci := fun c s hc _ => by unfold un; rw [hc]
theorem un_old {G2 G : Gm} {a c : Nat} {s : Sh} (hd : ∀ b, (G2 b).isSome = true → b = a ∨ G b = none) (hc : G c = some s) (hn : c ≠ a) : G2 c = none := by
  cases h2 : G2 c with
  | none => rfl
  | some s2 =>
    exfalso
    rcases hd c (by rw [h2]; rfl) with q | q
    · exact hn q
    · rw [q] at hc
      cases hc
/-- bounds over all cells; references of arrays apart (while an array is still being filled) -/
def Oi (G : Gm) (v : Mv) : Prop := ∀ (a : Nat) (sh : Sh), G a = some sh → ∀ (k : Nat) (r : Int × Int × Bool), rng sh k = some r → Bd (v a k) r.1 r.2.1
def Or2 (G : Gm) (w : Mw) (p0 : Nat) : Prop := ∀ (a t n : Nat) (L : List Nat), a ≠ p0 → G a = some (.inr (t, n, .inr L)) → ∀ j, j < n → ∃ b, b ∈ L ∧ w.2 a j = some b
theorem Oi.extN {G : Gm} {v : Mv} {a : Nat} {sh : Sh} (h : Oi G v) (hz : ∀ k r, rng sh k = some r → r.1 ≤ 0 ∧ 0 ≤ r.2.1) : Oi (ext G a sh) (zv v a) := by
  intro b sh' hb k r hr
  unfold zv
  by_cases hq : b = a
  · rw [if_pos hq]
    rw [hq, ext_s] at hb
    cases hb
    have := hz k r hr
    unfold Bd
    have e : (0 : Int32).toInt = 0 := by decide
    omega
  · rw [if_neg hq]
    rw [ext_n hq] at hb
    exact h b sh' hb k r hr
theorem Oi.setN {G : Gm} {v : Mv} {a : Nat} {sh : Sh} (h : Oi G v) (hz : ∀ k r, rng sh k = some r → Bd (v a k) r.1 r.2.1) : Oi (ext G a sh) v := by
  intro b sh' hb k r hr
  by_cases hq : b = a
  · rw [hq, ext_s] at hb
    cases hb
    rw [hq]
    exact hz k r hr
  · rw [ext_n hq] at hb
    exact h b sh' hb k r hr
theorem Oi.unN {G2 G : Gm} {v2 v : Mv} (h2 : Oi G2 v2) (h : Oi G v) : Oi (un G2 G) (uv G2 v2 v) := by
  intro b sh hb k r hr
  unfold un at hb
  unfold uv
  cases hq : G2 b with
  | none => rw [hq] at hb; simp only [Option.isSome_none, Bool.false_eq_true, if_false]; exact h b sh hb k r hr
  | some s2 => rw [hq] at hb; simp only [Option.isSome_some, if_true]; cases hb; exact h2 b _ hq k r hr
section JC
variable {p : Program} {l : Launch} {e : Env} {R : Room} {s : State} {m : MethodId} {args : Array Value} {below : List Frame} {meth : Method} {c : Code} {cells slots : Nat} {Q : State → Prop} {D : va_G} {dA : Nat → ClassId} {G : Gm} {A : Nat → Prop} {H0 : Heap} {nL : Nat} {cc : ByteArray} {own : String} {v : Mv} {w : Mw} {lv lv' : List (Nat × Value)} {pc : Nat} {st : List Value}
theorem J.widen {k n : Nat} (h1 : cells ≤ k) (h2 : slots ≤ n) (K : J p l e R s m args below meth c k n Q D dA G A H0 nL v w lv (pc) (st)) : J p l e R s m args below meth c cells slots Q D dA G A H0 nL v w lv (pc) (st) := fun H locs ls hH hS hl => W.widen h1 h2 (K H locs ls hH hS hl)
theorem Cx.widen (E : Cx p R s m meth c cells slots cc nL own D dA G A) {k n : Nat} (h : k ≤ R.cells ∧ n ≤ R.slots) : Cx p R s m meth c k n cc nL own D dA G A := ⟨E.1, E.2.1, E.2.2.1, E.2.2.2.1, E.2.2.2.2.1, E.2.2.2.2.2.1, h, E.2.2.2.2.2.2.2.1, E.2.2.2.2.2.2.2.2⟩
theorem Cx.grow (E : Cx p R s m meth c cells slots cc nL own D dA G A) {k n : Nat} {G' : Gm} (h : k ≤ R.cells ∧ n ≤ R.slots) (hA : ∀ q, (G' q).isSome = true → A q) : Cx p R s m meth c k n cc nL own D dA G' A := ⟨E.1, E.2.1, E.2.2.1, E.2.2.2.1, E.2.2.2.2.1, E.2.2.2.2.2.1, h, hA, E.2.2.2.2.2.2.2.2⟩
theorem Hp.extN {v : Mv} {w : Mw} {H H1 : Heap} {a : Nat} {sh : Sh} (hH : Hp D dA G v w H) (ha : G a = none) (hk : ∀ b, b < H.size → H1[b]? = H[b]?) (hn : Hc D dA (zv v a) (zw w a) H1 a sh) : Hp D dA (ext G a sh) (zv v a) (zw w a) H1 := by
  intro b sh' hb
  by_cases hq : b = a
  · rw [hq, ext_s] at hb
    cases hb
    rw [hq]
    exact hn
  · rw [ext_n hq] at hb
    have h1 := hH b sh' hb
    exact h1.kept (hk b h1.lt) (fun k => if_neg hq) (fun k => if_neg hq) (fun k => if_neg hq)
theorem J_objInit (E : Cx p R s m meth c cells slots cc nL own D dA G A) {idx a : Nat} (hl0 : Cond.methodLink own idx objectInit ∈ lw_tbl) (hi0 : Cond.instanceMethod objectInit ∈ lw_tbl) (hc0 : Cond.code objectInit ⟨#[0xb1]⟩ 1 none ∈ lw_tbl) (hR : 1 ≤ R.frames ∧ (st.map fun v => v.category).sum + 12 ≤ R.locals) (hd : decode cc pc = .ok (.invokespecial idx, 3)) (K : J p l e R s m args below meth c cells slots Q D dA G A H0 nL v w lv (pc + 3) (st)) : J p l e R s m args below meth c cells slots Q D dA G A H0 nL v w lv (pc) (.ref a :: st) := by
  intro H locs ls hH hS hl
  obtain ⟨hx, hb, hml, hown, hT, -⟩ := E
  refine W.objInit hx hb hown (hT.use hl0 rfl args) (hT.use hi0 rfl args) (hT.use hc0 rfl args) rfl (by rw [hml]; exact hl.1) rfl hd hR.1 (by show 2 * 0 + _ + 12 ≤ _; have := hR.2; omega) ?_
  exact K H locs ls hH hS hl
theorem J_new (E : Cx p R s m meth c cells slots cc nL own D dA G A) {C : String} {T : u_T} {N ci index : Nat} (hin : ∀ w ∈ u_ws C T N, w ∈ lw_tbl) (ty : Nat → FieldType) (hty : ∀ k, k < N → parseFieldDescriptor (T k).2.2.1 = some (ty k)) (hcl : Cond.classLink own index C ∈ lw_tbl) (hins : Cond.instantiable C N ∈ lw_tbl) (hini : Cond.initialized C ∈ lw_tbl) (hc : classes[ci]? = some (C, T, N)) (fs : List Fk) (hfs : ∀ a j, j < N → defaultValue (ty j) = fv (zv v a) (zw w a) a j fs[j]?) (hA0 : ∀ q, H0.size ≤ q → A q) (hro : cells + 1 ≤ R.cells ∧ slots + N ≤ R.slots) (hd : decode cc pc = .ok (.new index, 3))
    (K : ∀ a : Nat, (∀ q, (G q).isSome = true → q < a) → H0.size ≤ a → Cx p R s m meth c (cells + 1) (slots + N) cc nL own D dA (ext G a (.inl (ci, fs))) A → J p l e R s m args below meth c (cells + 1) (slots + N) Q D dA (ext G a (.inl (ci, fs))) A H0 nL (zv v a) (zw w a) lv (pc + 3) (.ref a :: st)) : J p l e R s m args below meth c cells slots Q D dA G A H0 nL v w lv (pc) (st) := by
  intro H locs ls hH hS hl
  have E0 := E
  obtain ⟨hx, hb, hml, hown, hT, hK, hro0, hA, hlk⟩ := E
  have hts : ∀ w ∈ u_ws C T N, w.before args s = true := fun w hw => hT.use (hin w hw) (by obtain ⟨j, -, rfl⟩ := List.mem_map.mp hw; unfold u_lay; split <;> rfl) args
  have hKn := hK.1 ci _ hc
  refine W.newcK hx hb hown (hT.use hcl rfl args) (hT.use hins rfl args) (hT.use hini rfl args) rfl hd hro.1 hro.2 hKn.2.1 rfl fun H1 kC hkC e1 z1 o1 => ?_
  have hg : G H.size = none := by
    cases hq : G H.size with
    | none => rfl
    | some sh => exact absurd (hH _ _ hq).lt (Nat.lt_irrefl _)
  refine K H.size (fun q hq => by cases hz : G q with | none => rw [hz] at hq; cases hq | some sh => exact (hH q sh hz).lt) hS.1 (E0.grow hro (fun q hq => ?_)) H1 locs ls (hH.extN hg o1 ⟨_, hc, (u_born ty hts (fun w h => h) hKn hkC e1 hty).to (hfs H.size)⟩) ⟨Nat.le_trans hS.1 (by omega), fun x h1 h2 => (o1 x (Nat.lt_of_lt_of_le h1 hS.1)).trans (hS.2.1 x h1 h2), hS.2.2⟩ hl
  by_cases hqa : q = H.size
  · rw [hqa]; exact hA0 _ hS.1
  · rw [ext_n hqa] at hq; exact hA q hq
theorem J_newarr_int (E : Cx p R s m meth c cells slots cc nL own D dA G A) {x : Int32} (n : Nat) (g : Nat → Int × Int × Bool) (hw : Cond.arrayClass .int ∈ lw_tbl) (hn : ¬ x < 0) (hN : x.toNatClampNeg = n) (hby : n * componentBytes .int ≤ 536870912) (hA0 : ∀ q, H0.size ≤ q → A q) (hro : cells + 1 ≤ R.cells ∧ slots + n ≤ R.slots) (hd : decode cc pc = .ok (.newarray .int, 2))
    (K : ∀ a : Nat, (∀ q, (G q).isSome = true → q < a) → H0.size ≤ a → Cx p R s m meth c (cells + 1) (slots + n) cc nL own D dA (ext G a (.inr (0, n, .inl g))) A → J p l e R s m args below meth c (cells + 1) (slots + n) Q D dA (ext G a (.inr (0, n, .inl g))) A H0 nL (zv v a) (zw w a) lv (pc + 2) (.ref a :: st)) : J p l e R s m args below meth c cells slots Q D dA G A H0 nL v w lv (pc) (.int x :: st) := by
  intro H locs ls hH hS hl
  have E0 := E
  obtain ⟨hx, hb, hml, hown, hT, hK, hro0, hA, hlk⟩ := E
  refine va_newaK hx hb (atype := .int) (hT.use hw rfl args) rfl hd rfl hn hN hby hro.1 hro.2 rfl fun H1 cA e1 z1 o1 hAr hNm => ?_
  have hcA : cA = dA 0 := Option.some.inj (hNm.symm.trans (hK.2 0 _ rfl).2)
  have hg : G H.size = none := by
    cases hq : G H.size with
    | none => rfl
    | some sh => exact absurd (hH _ _ hq).lt (Nat.lt_irrefl _)
  have hnew : H1[H.size]? = some (arrV (dA 0) n (fun j => .int (zv v H.size H.size j))) := by
    rw [e1, hcA]
    congr 2
    funext j
    show _ = Value.int (if H.size = H.size then 0 else _)
    rw [if_pos rfl]
    rfl
  refine K H.size (fun q hq => by cases hz : G q with | none => rw [hz] at hq; cases hq | some sh => exact (hH q sh hz).lt) hS.1 (E0.grow hro (fun q hq => ?_)) H1 locs ls (hH.extN hg o1 hnew) ⟨Nat.le_trans hS.1 (by omega), fun x h1 h2 => (o1 x (Nat.lt_of_lt_of_le h1 hS.1)).trans (hS.2.1 x h1 h2), hS.2.2⟩ hl
  by_cases hqa : q = H.size
  · rw [hqa]; exact hA0 _ hS.1
  · rw [ext_n hqa] at hq; exact hA q hq
theorem J_newarr_byte (E : Cx p R s m meth c cells slots cc nL own D dA G A) {x : Int32} (n : Nat) (g : Nat → Int × Int × Bool) (hw : Cond.arrayClass .byte ∈ lw_tbl) (hn : ¬ x < 0) (hN : x.toNatClampNeg = n) (hby : n * componentBytes .byte ≤ 536870912) (hA0 : ∀ q, H0.size ≤ q → A q) (hro : cells + 1 ≤ R.cells ∧ slots + n ≤ R.slots) (hd : decode cc pc = .ok (.newarray .byte, 2))
    (K : ∀ a : Nat, (∀ q, (G q).isSome = true → q < a) → H0.size ≤ a → Cx p R s m meth c (cells + 1) (slots + n) cc nL own D dA (ext G a (.inr (1, n, .inl g))) A → J p l e R s m args below meth c (cells + 1) (slots + n) Q D dA (ext G a (.inr (1, n, .inl g))) A H0 nL (zv v a) (zw w a) lv (pc + 2) (.ref a :: st)) : J p l e R s m args below meth c cells slots Q D dA G A H0 nL v w lv (pc) (.int x :: st) := by
  intro H locs ls hH hS hl
  have E0 := E
  obtain ⟨hx, hb, hml, hown, hT, hK, hro0, hA, hlk⟩ := E
  refine va_newaK hx hb (atype := .byte) (hT.use hw rfl args) rfl hd rfl hn hN hby hro.1 hro.2 rfl fun H1 cA e1 z1 o1 hAr hNm => ?_
  have hcA : cA = dA 1 := Option.some.inj (hNm.symm.trans (hK.2 1 _ rfl).2)
  have hg : G H.size = none := by
    cases hq : G H.size with
    | none => rfl
    | some sh => exact absurd (hH _ _ hq).lt (Nat.lt_irrefl _)
  have hnew : H1[H.size]? = some (arrV (dA 1) n (fun j => .int (zv v H.size H.size j))) := by
    rw [e1, hcA]
    congr 2
    funext j
    show _ = Value.int (if H.size = H.size then 0 else _)
    rw [if_pos rfl]
    rfl
  refine K H.size (fun q hq => by cases hz : G q with | none => rw [hz] at hq; cases hq | some sh => exact (hH q sh hz).lt) hS.1 (E0.grow hro (fun q hq => ?_)) H1 locs ls (hH.extN hg o1 hnew) ⟨Nat.le_trans hS.1 (by omega), fun x h1 h2 => (o1 x (Nat.lt_of_lt_of_le h1 hS.1)).trans (hS.2.1 x h1 h2), hS.2.2⟩ hl
  by_cases hqa : q = H.size
  · rw [hqa]; exact hA0 _ hS.1
  · rw [ext_n hqa] at hq; exact hA q hq
theorem J_newarr_boolean (E : Cx p R s m meth c cells slots cc nL own D dA G A) {x : Int32} (n : Nat) (g : Nat → Int × Int × Bool) (hw : Cond.arrayClass .boolean ∈ lw_tbl) (hn : ¬ x < 0) (hN : x.toNatClampNeg = n) (hby : n * componentBytes .boolean ≤ 536870912) (hA0 : ∀ q, H0.size ≤ q → A q) (hro : cells + 1 ≤ R.cells ∧ slots + n ≤ R.slots) (hd : decode cc pc = .ok (.newarray .boolean, 2))
    (K : ∀ a : Nat, (∀ q, (G q).isSome = true → q < a) → H0.size ≤ a → Cx p R s m meth c (cells + 1) (slots + n) cc nL own D dA (ext G a (.inr (2, n, .inl g))) A → J p l e R s m args below meth c (cells + 1) (slots + n) Q D dA (ext G a (.inr (2, n, .inl g))) A H0 nL (zv v a) (zw w a) lv (pc + 2) (.ref a :: st)) : J p l e R s m args below meth c cells slots Q D dA G A H0 nL v w lv (pc) (.int x :: st) := by
  intro H locs ls hH hS hl
  have E0 := E
  obtain ⟨hx, hb, hml, hown, hT, hK, hro0, hA, hlk⟩ := E
  refine va_newaK hx hb (atype := .boolean) (hT.use hw rfl args) rfl hd rfl hn hN hby hro.1 hro.2 rfl fun H1 cA e1 z1 o1 hAr hNm => ?_
  have hcA : cA = dA 2 := Option.some.inj (hNm.symm.trans (hK.2 2 _ rfl).2)
  have hg : G H.size = none := by
    cases hq : G H.size with
    | none => rfl
    | some sh => exact absurd (hH _ _ hq).lt (Nat.lt_irrefl _)
  have hnew : H1[H.size]? = some (arrV (dA 2) n (fun j => .int (zv v H.size H.size j))) := by
    rw [e1, hcA]
    congr 2
    funext j
    show _ = Value.int (if H.size = H.size then 0 else _)
    rw [if_pos rfl]
    rfl
  refine K H.size (fun q hq => by cases hz : G q with | none => rw [hz] at hq; cases hq | some sh => exact (hH q sh hz).lt) hS.1 (E0.grow hro (fun q hq => ?_)) H1 locs ls (hH.extN hg o1 hnew) ⟨Nat.le_trans hS.1 (by omega), fun x h1 h2 => (o1 x (Nat.lt_of_lt_of_le h1 hS.1)).trans (hS.2.1 x h1 h2), hS.2.2⟩ hl
  by_cases hqa : q = H.size
  · rw [hqa]; exact hA0 _ hS.1
  · rw [ext_n hqa] at hq; exact hA q hq
theorem J_anew3 (E : Cx p R s m meth c cells slots cc nL own D dA G A) {x : Int32} {index : Nat} (n : Nat) (L : List Nat) (hcl : Cond.classLink own index RX6 ∈ lw_tbl) (hw : Cond.arrayOver (.object RX6) ∈ lw_tbl) (hn : ¬ x < 0) (hN : x.toNatClampNeg = n) (hby : n * 4 ≤ 536870912) (hA0 : ∀ q, H0.size ≤ q → A q) (hro : cells + 1 ≤ R.cells ∧ slots + n ≤ R.slots) (hd : decode cc pc = .ok (.anewarray index, 3))
    (K : ∀ a : Nat, (∀ q, (G q).isSome = true → q < a) → H0.size ≤ a → Cx p R s m meth c (cells + 1) (slots + n) cc nL own D dA (ext G a (.inr (3, n, .inr L))) A → J p l e R s m args below meth c (cells + 1) (slots + n) Q D dA (ext G a (.inr (3, n, .inr L))) A H0 nL (zv v a) (zw w a) lv (pc + 3) (.ref a :: st)) : J p l e R s m args below meth c cells slots Q D dA G A H0 nL v w lv (pc) (.int x :: st) := by
  intro H locs ls hH hS hl
  have E0 := E
  obtain ⟨hx, hb, hml, hown, hT, hK, hro0, hA, hlk⟩ := E
  subst hN
  refine W.anew hx hb hown (hT.use hcl rfl args) (hT.use hw rfl args) rfl hd rfl hn hby hro.1 hro.2 fun cA kA comp f1 f2 f3 f4 => ?_
  generalize hH1 : H.push ({ cls := cA, slots := Array.replicate x.toNatClampNeg .null, vm := .none } : Cell) = H1
  have z1 : H1.size = H.size + 1 := by rw [← hH1, Array.size_push]
  have e1 : H1[H.size]? = some (arrV cA x.toNatClampNeg (fun _ => .null)) := by rw [← hH1, Array.getElem?_push_size, ← arrV_new]
  have o1 : ∀ q : Nat, q < H.size → H1[q]? = H[q]? := fun q hq => by rw [← hH1, Array.getElem?_push, if_neg (Nat.ne_of_lt hq)]
  obtain ⟨kB, cB, g1, g2, g3, g4⟩ := (hK.2 3 _ rfl).2
  have hcA : cA = dA 3 := Option.some.inj (f1.symm.trans g4)
  have hg : G H.size = none := by
    cases hq : G H.size with
    | none => rfl
    | some sh => exact absurd (hH _ _ hq).lt (Nat.lt_irrefl _)
  have hnew : H1[H.size]? = some (arrV (dA 3) x.toNatClampNeg (fun j => va_rf ((zw w H.size).2 H.size j))) := by
    rw [e1, hcA]
    congr 2
    funext j
    show _ = va_rf (if H.size = H.size then none else _)
    rw [if_pos rfl]
    rfl
  refine K H.size (fun q hq => by cases hz : G q with | none => rw [hz] at hq; cases hq | some sh => exact (hH q sh hz).lt) hS.1 (E0.grow hro (fun q hq => ?_)) H1 locs ls (hH.extN hg o1 hnew) ⟨Nat.le_trans hS.1 (by omega), fun x h1 h2 => (o1 x (Nat.lt_of_lt_of_le h1 hS.1)).trans (hS.2.1 x h1 h2), hS.2.2⟩ hl
  by_cases hqa : q = H.size
  · rw [hqa]; exact hA0 _ hS.1
  · rw [ext_n hqa] at hq; exact hA q hq
theorem J_anew4 (E : Cx p R s m meth c cells slots cc nL own D dA G A) {x : Int32} {index : Nat} (n : Nat) (L : List Nat) (hcl : Cond.classLink own index RX2 ∈ lw_tbl) (hw : Cond.arrayOver (.object RX2) ∈ lw_tbl) (hn : ¬ x < 0) (hN : x.toNatClampNeg = n) (hby : n * 4 ≤ 536870912) (hA0 : ∀ q, H0.size ≤ q → A q) (hro : cells + 1 ≤ R.cells ∧ slots + n ≤ R.slots) (hd : decode cc pc = .ok (.anewarray index, 3))
    (K : ∀ a : Nat, (∀ q, (G q).isSome = true → q < a) → H0.size ≤ a → Cx p R s m meth c (cells + 1) (slots + n) cc nL own D dA (ext G a (.inr (4, n, .inr L))) A → J p l e R s m args below meth c (cells + 1) (slots + n) Q D dA (ext G a (.inr (4, n, .inr L))) A H0 nL (zv v a) (zw w a) lv (pc + 3) (.ref a :: st)) : J p l e R s m args below meth c cells slots Q D dA G A H0 nL v w lv (pc) (.int x :: st) := by
  intro H locs ls hH hS hl
  have E0 := E
  obtain ⟨hx, hb, hml, hown, hT, hK, hro0, hA, hlk⟩ := E
  subst hN
  refine W.anew hx hb hown (hT.use hcl rfl args) (hT.use hw rfl args) rfl hd rfl hn hby hro.1 hro.2 fun cA kA comp f1 f2 f3 f4 => ?_
  generalize hH1 : H.push ({ cls := cA, slots := Array.replicate x.toNatClampNeg .null, vm := .none } : Cell) = H1
  have z1 : H1.size = H.size + 1 := by rw [← hH1, Array.size_push]
  have e1 : H1[H.size]? = some (arrV cA x.toNatClampNeg (fun _ => .null)) := by rw [← hH1, Array.getElem?_push_size, ← arrV_new]
  have o1 : ∀ q : Nat, q < H.size → H1[q]? = H[q]? := fun q hq => by rw [← hH1, Array.getElem?_push, if_neg (Nat.ne_of_lt hq)]
  obtain ⟨kB, cB, g1, g2, g3, g4⟩ := (hK.2 4 _ rfl).2
  have hcA : cA = dA 4 := Option.some.inj (f1.symm.trans g4)
  have hg : G H.size = none := by
    cases hq : G H.size with
    | none => rfl
    | some sh => exact absurd (hH _ _ hq).lt (Nat.lt_irrefl _)
  have hnew : H1[H.size]? = some (arrV (dA 4) x.toNatClampNeg (fun j => va_rf ((zw w H.size).2 H.size j))) := by
    rw [e1, hcA]
    congr 2
    funext j
    show _ = va_rf (if H.size = H.size then none else _)
    rw [if_pos rfl]
    rfl
  refine K H.size (fun q hq => by cases hz : G q with | none => rw [hz] at hq; cases hq | some sh => exact (hH q sh hz).lt) hS.1 (E0.grow hro (fun q hq => ?_)) H1 locs ls (hH.extN hg o1 hnew) ⟨Nat.le_trans hS.1 (by omega), fun x h1 h2 => (o1 x (Nat.lt_of_lt_of_le h1 hS.1)).trans (hS.2.1 x h1 h2), hS.2.2⟩ hl
  by_cases hqa : q = H.size
  · rw [hqa]; exact hA0 _ hS.1
  · rw [ext_n hqa] at hq; exact hA q hq
theorem J_finR (E : Cx p R s m meth c cells slots cc nL own D dA G A) {C : String} {T : u_T} {N ci index : Nat} {fs : List Fk} {a : Nat} (hin : ∀ w ∈ u_ws C T N, w ∈ lw_tbl) (hc : classes[ci]? = some (C, T, N)) (hG : G a = some (.inl (ci, fs))) (k : Nat) (hk : k < N) (hl0 : Cond.fieldLink own index (T k).1 (T k).2.1 (T k).2.2.1 ∈ lw_tbl) (ty0 : Nat → FieldType) (hty : ∀ k, k < N → parseFieldDescriptor (T k).2.2.1 = some (ty0 k)) (hnm : ∀ a, a < N → ∀ b, b < N → a ≠ b → (T a).2.1 ≠ (T b).2.1) (hfin : (T k).2.2.2 = true) (hin2 : meth.name = "<init>") (hdecl : (T k).1 = own) {b : Nat} (hkl : k < fs.length) (ty : FieldType) (hty0 : parseFieldDescriptor (T k).2.2.1 = some ty) (hn : narrow ty (.ref b) = .ref b) (hfit : fits ty (.ref b) = true) (hd : decode cc pc = .ok (.putfield index, 3)) (K : Cx p R s m meth c cells slots cc nL own D dA (ext G a (.inl (ci, fs.set k (.inr (.inr (some b)))))) A → J p l e R s m args below meth c cells slots Q D dA (ext G a (.inl (ci, fs.set k (.inr (.inr (some b)))))) A H0 nL v w lv (pc + 3) (st)) : J p l e R s m args below meth c cells slots Q D dA G A H0 nL v w lv (pc) (.ref b :: .ref a :: st) := by
  intro H locs ls hH hS hl
  have E0 := E
  obtain ⟨r0, h1, cell, q1, q2, q3, q4⟩ := hH a _ hG
  have hr : r0 = (C, T, N) := Option.some.inj (h1.symm.trans hc)
  subst hr
  obtain ⟨hx, hb, -, hown, hT, hK, hro, hA, -⟩ := E
  have hts : ∀ w ∈ u_ws C T N, w.before args s = true := fun w hw => hT.use (hin w hw) (by obtain ⟨j, -, rfl⟩ := List.mem_map.mp hw; unfold u_lay; split <;> rfl) args
  have hap := va_apart (own := own) hts (fun w h => h) ty0 hty hnm hK hc
  obtain ⟨hSl, hfc, kC, hkC, hkind⟩ := hK.1 ci _ hc
  obtain ⟨cf, kf, fi, f, hi, hsl⟩ := hSl k hk
  have hlay := hts _ (u_in_lay hk)
  unfold u_lay at hlay
  rw [if_pos hfin] at hlay
  have hst := (u_facts hfc hkC (u_lays hts (fun w h => h) hk) hi).1
  have hcf : m.cls = cf := by
    obtain ⟨_, _, c', _, _, _, -, -, hf', -, -, -, hown2, -⟩ := Cond.laysFinal_spec hlay
    have e1 : c' = cf := by have := hi.symm.trans hf'; simp at this; exact this.1.symm
    rw [hdecl] at hown2
    rw [← e1]; exact Option.some.inj (hown.symm.trans hown2)
  have h6 := u_fits hfc hkC hkind (Or.inr hlay) hi hty0 hn hfit
  refine W.putFinK hx hb hown (hT.use hl0 rfl args) hi hst hcf hin2 (by rw [q2]; exact h6) q1 q3 (by rw [hsl]; exact k2_hasslot (q4 k hk)) rfl rfl hd fun H' e1 e2 e3 => ?_
  rw [hsl] at e1 ⊢
  refine K (E0.grow hro (fun q hq => ?_)) H' _ ls (fun b2 sh hb2 => ?_) (hS.put e2 e3 (hA a (by rw [hG]; rfl))) hl
  · by_cases hqa : q = a
    · rw [hqa]; exact hA a (by rw [hG]; rfl)
    · rw [ext_n hqa] at hq; exact hA q hq
  by_cases hq : b2 = a
  · subst hq
    rw [ext_s] at hb2
    cases hb2
    refine ⟨_, hc, t_OB.to (V := updV (fun k => fv v w b2 k fs[k]?) k (.ref b)) ⟨_, e1, q2, q3, t_set q4 hap hk _⟩ (fun j _ => ?_)⟩
    unfold updV
    by_cases hj : j = k
    · subst hj
      rw [if_pos rfl, List.getElem?_set_self hkl]
      rfl
    · rw [if_neg hj, List.getElem?_set_ne (fun q => hj q.symm)]
  · rw [ext_n hq] at hb2
    exact (hH b2 sh hb2).kept (e3 b2 hq) (fun j => rfl) (fun j => rfl) (fun j => rfl)
theorem J_finI (E : Cx p R s m meth c cells slots cc nL own D dA G A) {C : String} {T : u_T} {N ci index : Nat} {fs : List Fk} {a : Nat} (hin : ∀ w ∈ u_ws C T N, w ∈ lw_tbl) (hc : classes[ci]? = some (C, T, N)) (hG : G a = some (.inl (ci, fs))) (k : Nat) (hk : k < N) (hl0 : Cond.fieldLink own index (T k).1 (T k).2.1 (T k).2.2.1 ∈ lw_tbl) (ty0 : Nat → FieldType) (hty : ∀ k, k < N → parseFieldDescriptor (T k).2.2.1 = some (ty0 k)) (hnm : ∀ a, a < N → ∀ b, b < N → a ≠ b → (T a).2.1 ≠ (T b).2.1) (hfin : (T k).2.2.2 = true) (hin2 : meth.name = "<init>") (hdecl : (T k).1 = own) {b : Int32} (r : Int × Int × Bool) (hkl : k < fs.length) (ty : FieldType) (hty0 : parseFieldDescriptor (T k).2.2.1 = some ty) (hn : narrow ty (.int b) = .int b) (hfit : fits ty (.int b) = true) (hd : decode cc pc = .ok (.putfield index, 3)) (K : Cx p R s m meth c cells slots cc nL own D dA (ext G a (.inl (ci, fs.set k (.inl r)))) A → J p l e R s m args below meth c cells slots Q D dA (ext G a (.inl (ci, fs.set k (.inl r)))) A H0 nL (stv v a k b) w lv (pc + 3) (st)) : J p l e R s m args below meth c cells slots Q D dA G A H0 nL v w lv (pc) (.int b :: .ref a :: st) := by
  intro H locs ls hH hS hl
  have E0 := E
  obtain ⟨r0, h1, cell, q1, q2, q3, q4⟩ := hH a _ hG
  have hr : r0 = (C, T, N) := Option.some.inj (h1.symm.trans hc)
  subst hr
  obtain ⟨hx, hb, -, hown, hT, hK, hro, hA, -⟩ := E
  have hts : ∀ w ∈ u_ws C T N, w.before args s = true := fun w hw => hT.use (hin w hw) (by obtain ⟨j, -, rfl⟩ := List.mem_map.mp hw; unfold u_lay; split <;> rfl) args
  have hap := va_apart (own := own) hts (fun w h => h) ty0 hty hnm hK hc
  obtain ⟨hSl, hfc, kC, hkC, hkind⟩ := hK.1 ci _ hc
  obtain ⟨cf, kf, fi, f, hi, hsl⟩ := hSl k hk
  have hlay := hts _ (u_in_lay hk)
  unfold u_lay at hlay
  rw [if_pos hfin] at hlay
  have hst := (u_facts hfc hkC (u_lays hts (fun w h => h) hk) hi).1
  have hcf : m.cls = cf := by
    obtain ⟨_, _, c', _, _, _, -, -, hf', -, -, -, hown2, -⟩ := Cond.laysFinal_spec hlay
    have e1 : c' = cf := by have := hi.symm.trans hf'; simp at this; exact this.1.symm
    rw [hdecl] at hown2
    rw [← e1]; exact Option.some.inj (hown.symm.trans hown2)
  have h6 := u_fits hfc hkC hkind (Or.inr hlay) hi hty0 hn hfit
  refine W.putFinK hx hb hown (hT.use hl0 rfl args) hi hst hcf hin2 (by rw [q2]; exact h6) q1 q3 (by rw [hsl]; exact k2_hasslot (q4 k hk)) rfl rfl hd fun H' e1 e2 e3 => ?_
  rw [hsl] at e1 ⊢
  refine K (E0.grow hro (fun q hq => ?_)) H' _ ls (fun b2 sh hb2 => ?_) (hS.put e2 e3 (hA a (by rw [hG]; rfl))) hl
  · by_cases hqa : q = a
    · rw [hqa]; exact hA a (by rw [hG]; rfl)
    · rw [ext_n hqa] at hq; exact hA q hq
  by_cases hq : b2 = a
  · subst hq
    rw [ext_s] at hb2
    cases hb2
    refine ⟨_, hc, t_OB.to (V := updV (fun k => fv v w b2 k fs[k]?) k (.int b)) ⟨_, e1, q2, q3, t_set q4 hap hk _⟩ (fun j _ => ?_)⟩
    unfold updV
    by_cases hj : j = k
    · subst hj
      rw [if_pos rfl, List.getElem?_set_self hkl]
      show Value.int _ = Value.int _; rw [stv_s]
    · rw [if_neg hj, List.getElem?_set_ne (fun q => hj q.symm)]
      show fv v w b2 j fs[j]? = fv (stv v b2 k b) w b2 j fs[j]?
      rcases fs[j]? with _ | g
      · rfl
      · rcases g with g | g | g
        · show Value.int _ = Value.int _
          rw [stv_k hj]
        · rfl
        · rfl
  · rw [ext_n hq] at hb2
    exact (hH b2 sh hb2).kept (e3 b2 hq) (fun j => stv_a hq) (fun j => rfl) (fun j => rfl)
end JC
/-- references of arrays -/
def Orr (G : Gm) (w : Mw) : Prop := ∀ (a t n : Nat) (L : List Nat), G a = some (.inr (t, n, .inr L)) → ∀ j, j < n → ∃ b, b ∈ L ∧ w.2 a j = some b
def isRA (sh : Sh) : Bool := match sh with
  | .inr (_, _, .inr _) => true
  | _ => false
theorem Orr.extN {G : Gm} {w : Mw} {a : Nat} {sh : Sh} (h : Orr G w) (hs : isRA sh = false) : Orr (ext G a sh) (zw w a) := by
  intro b t n L hb j hj
  by_cases hq : b = a
  · rw [hq, ext_s] at hb
    cases hb
    cases hs
  · rw [ext_n hq] at hb
    obtain ⟨c, h1, h2⟩ := h b t n L hb j hj
    exact ⟨c, h1, by show (if b = a then none else w.2 b j) = some c; rw [if_neg hq]; exact h2⟩
theorem Orr.setN {G : Gm} {w : Mw} {a : Nat} {sh : Sh} (h : Orr G w) (hs : isRA sh = false) : Orr (ext G a sh) w := by
  intro b t n L hb j hj
  by_cases hq : b = a
  · rw [hq, ext_s] at hb
    cases hb
    cases hs
  · rw [ext_n hq] at hb
    exact h b t n L hb j hj
theorem Orr.unN {G2 G : Gm} {w2 w : Mw} (h2 : Orr G2 w2) (h : Orr G w) : Orr (un G2 G) (uw G2 w2 w) := by
  intro b t n L hb j hj
  unfold un at hb
  cases hq : G2 b with
  | none =>
    rw [hq] at hb
    obtain ⟨c, h1, h3⟩ := h b t n L hb j hj
    exact ⟨c, h1, by show (if (G2 b).isSome then w2.2 b j else w.2 b j) = some c; rw [hq]; exact h3⟩
  | some s2 =>
    rw [hq] at hb
    cases hb
    obtain ⟨c, h1, h3⟩ := h2 b t n L hq j hj
    exact ⟨c, h1, by show (if (G2 b).isSome then w2.2 b j else w.2 b j) = some c; rw [hq]; exact h3⟩
def An (h0 sz : Nat) : Nat → Prop := fun q => q = h0 ∨ sz ≤ q
def one (h0 : Nat) (sh : Sh) : Gm := fun b => if b = h0 then some sh else none
def vz : Mv := fun _ _ => 0
def wz : Mw := (fun _ _ => 0, fun _ _ => none)
theorem one_s {h0 : Nat} {sh : Sh} : one h0 sh h0 = some sh := if_pos rfl
theorem Oi.oneN {h0 : Nat} {sh : Sh} (hz : ∀ k r, rng sh k = some r → r.1 ≤ 0 ∧ 0 ≤ r.2.1) : Oi (one h0 sh) vz := by
  intro b sh' hb k r hr
  unfold one at hb
  split at hb
  · cases hb
    have := hz k r hr
    unfold Bd vz
    have e : (0 : Int32).toInt = 0 := by decide
    omega
  · cases hb
theorem Orr.oneN {h0 : Nat} {sh : Sh} (hs : isRA sh = false) : Orr (one h0 sh) wz := by
  intro b t n L hb j hj
  unfold one at hb
  split at hb
  · cases hb
    cases hs
  · cases hb
abbrev PcN (D : va_G) (dA : Nat → ClassId) (h0 : Nat) (sh : Sh) (As : List Value) (sz : Nat) : Array Value → State → Prop := va_Pc (.ref h0 :: As) (fun U => U.heap.size = sz ∧ Hp D dA (one h0 sh) vz wz U.heap ∧ va_K D classes (tysA dA) U ∧ Tb U)
abbrev QcN (D : va_G) (dA : Nat → ClassId) (h0 sz : Nat) (post : Gm → Mv → Mw → Prop) := va_Qv (S := Gm × Mv × Mw) (fun u => post u.1 u.2.1 u.2.2) (fun u t => Hp D dA u.1 u.2.1 u.2.2 t.heap ∧ ∀ a, (u.1 a).isSome = true → An h0 sz a) (An h0 sz)
def CtN (l : Launch) (y : MethodName) (cc : ByteArray) (maxL : Nat) (rm : Room) (D : va_G) (dA : Nat → ClassId) (h0 : Nat) (sh : Sh) (As : List Value) (mc ms : Nat) (post : Gm → Mv → Mw → Prop) : Prop :=
  ∀ sz : Nat, Met l y [Cond.code y cc maxL none] rm (PcN D dA h0 sh As sz) (QcN D dA h0 sz post) mc ms (An h0 sz)
theorem PcN.blind {D : va_G} {dA : Nat → ClassId} {h0 sz : Nat} {sh : Sh} {As : List Value} : FrameBlind (PcN D dA h0 sh As sz) := by
  intro a U g mk q
  obtain ⟨q0, q1, q2, q3, q4⟩ := q
  exact ⟨q0, q1, q2, va_K.moved (u := U) (U := U.calling g mk a) (Vm.Alike.refl U.vm) q3, q4.call a g mk⟩
theorem CtN.of {l : Launch} {y : MethodName} {cc : ByteArray} {maxL : Nat} {rm : Room} {D : va_G} {dA : Nat → ClassId} {h0 : Nat} {sh : Sh} {As : List Value} {mc ms : Nat} {post : Gm → Mv → Mw → Prop} (own : String) (lv : List (Nat × Value)) (hlen : (lg_sl (.ref h0 :: As)).length ≤ maxL) (hlv : lv_args 0 (.ref h0 :: As) = lv) (hy : plainName y.cls = true) (hyo : y.cls = own) (hyn : y.name = "<init>")
    (body : ∀ (p : Program) (e : Env) (s : State) (m : MethodId) (args : Array Value) (below : List Frame) (meth : Method) (c : Code), Cx p rm s m meth c 0 0 cc maxL own D dA (one h0 sh) (An h0 s.heap.size) → meth.sig.returnType = none → meth.name = "<init>" → J p l e rm s m args below meth c 0 0 (MQ below (QcN D dA h0 s.heap.size post) args s mc ms (An h0 s.heap.size)) D dA (one h0 sh) (An h0 s.heap.size) s.heap maxL vz wz lv 0 []) : CtN l y cc maxL rm D dA h0 sh As mc ms post := by
  intro sz
  refine Met.ofW (cc := cc) (maxL := maxL) (ret := none) hy rfl ?_
  intro p e s m args below meth c s₁ B hml hv
  obtain ⟨rfl, hsz, hH, hK, hT⟩ := hv
  subst hsz
  have hown : s.vm.findClass own = some m.cls := hyo ▸ findClass_of_methodNamed B.named
  have hin : meth.name = "<init>" := (name_of_methodNamed B.named B.method).1.trans hyn
  have hl := lv_entry (.ref h0 :: As) (n := maxL) hlen
  rw [lg_entry_eq]
  generalize (lg_sl (.ref h0 :: As) ++ List.replicate (maxL - (lg_sl (.ref h0 :: As)).length) Slot.unset).toArray = ls at hl ⊢
  refine body p e s m _ below meth c ⟨B.exec, B.bytes, hml, hown, hT, hK, ⟨Nat.zero_le _, Nat.zero_le _⟩, fun q h => ?_, B.notSynchronized⟩ B.returns hin s.heap [] ls hH va_S.rf (hlv ▸ hl)
  unfold one at h
  split at h
  · rename_i hq
    exact Or.inl hq
  · cases h
section JV
variable {p : Program} {l : Launch} {e : Env} {R : Room} {s : State} {m : MethodId} {args : Array Value} {below : List Frame} {meth : Method} {c : Code} {cells slots : Nat} {Q : State → Prop} {D : va_G} {dA : Nat → ClassId} {G : Gm} {A : Nat → Prop} {H0 : Heap} {nL : Nat} {cc : ByteArray} {own : String} {v : Mv} {w : Mw} {lv : List (Nat × Value)} {pc : Nat} {st : List Value}
theorem J_vretN {h0 : Nat} {post : Gm → Mv → Mw → Prop} (E : Cx p R s m meth c cells slots cc nL own D dA G (An h0 s.heap.size)) (hr : meth.sig.returnType = none) (hd : decode cc pc = .ok (.return_, 1)) (hq : post G v w) : J p l e R s m args below meth c cells slots (MQ below (QcN D dA h0 s.heap.size post) args s cells slots (An h0 s.heap.size)) D dA G (An h0 s.heap.size) s.heap nL v w lv pc [] :=
  fun H locs ls hH hS hl => W.vret E.1 E.2.1 hr (fun t ht hW => ⟨⟨(G, v, w), rfl, hq, by show Hp D dA G v w t.heap; rw [ht]; exact hH, E.2.2.2.2.2.2.2.1⟩, hS.F ht⟩) hS.2.2 hd E.2.2.2.2.2.2.2.2
def CalI (y : MethodName) (bytes : ByteArray) (maxL : Nat) (n : Nat) : Prop := Cond.code y bytes maxL none ∈ lw_tbl ∧ Cond.initialized y.cls ∈ lw_tbl ∧ Cond.instanceMethod y ∈ lw_tbl ∧ y.name = "<init>" ∧ y.cls ≠ "java/lang/invoke/MethodHandle" ∧ y.cls ≠ "java/lang/invoke/VarHandle" ∧ (parseMethodDescriptor y.desc).map (fun d => d.parameters.length) = some n
theorem Hp.oneN {H : Heap} {a : Nat} {sh : Sh} (hH : Hp D dA G v w H) (hG : G a = some sh) (hz : ∀ k, v a k = 0 ∧ w.1 a k = 0 ∧ w.2 a k = none) : Hp D dA (one a sh) vz wz H := by
  intro b sh' hb
  unfold one at hb
  split at hb
  · rename_i hq
    cases hb
    rw [hq]
    exact (hH a _ hG).kept rfl (fun k => (hz k).1.symm) (fun k => (hz k).2.1.symm) (fun k => (hz k).2.2.symm)
  · cases hb
theorem Hp.unN {H H1 : Heap} {a : Nat} {G2 : Gm} {v2 : Mv} {w2 : Mw} (hH : Hp D dA G v w H) (hH2 : Hp D dA G2 v2 w2 H1) (ha : (G2 a).isSome = true) (hk : ∀ q : Nat, q < H.size → ¬ An a H.size q → H1[q]? = H[q]?) : Hp D dA (un G2 G) (uv G2 v2 v) (uw G2 w2 w) H1 := by
  intro b sh hb
  unfold un at hb
  cases hq : G2 b with
  | some s2 =>
    rw [hq] at hb
    cases hb
    exact (hH2 b _ hq).kept rfl (fun k => by unfold uv; rw [hq]; rfl) (fun k => by show (if (G2 b).isSome then w2.1 b k else w.1 b k) = _; rw [hq]; rfl) (fun k => by show (if (G2 b).isSome then w2.2 b k else w.2 b k) = _; rw [hq]; rfl)
  | none =>
    rw [hq] at hb
    have h1 := hH b sh hb
    have hlt := h1.lt
    have hne : b ≠ a := fun q => by rw [q] at hq; rw [hq] at ha; cases ha
    exact h1.kept (hk b hlt (fun z => z.elim hne (fun z => absurd hlt (Nat.not_lt.mpr z)))) (fun k => by unfold uv; rw [hq]; rfl) (fun k => by show (if (G2 b).isSome then w2.1 b k else w.1 b k) = _; rw [hq]; rfl) (fun k => by show (if (G2 b).isSome then w2.2 b k else w.2 b k) = _; rw [hq]; rfl)
variable {y : MethodName} {bytes : ByteArray} {maxL n index mc ms a : Nat} {rm : Room} {host : String} {sh : Sh}
theorem J_callI {post : Gm → Mv → Mw → Prop} (E : Cx p R s m meth c cells slots cc nL own D dA G A) (hc : CalI y bytes maxL n) (hl0 : Cond.methodLink own index y ∈ lw_tbl) (As rest : List Value) (hM : CtN l y bytes maxL rm D dA a sh As mc ms post) (hps : ∀ G2 v2 w2, post G2 v2 w2 → (G2 a).isSome = true) (hG : G a = some sh) (hz : ∀ k, v a k = 0 ∧ w.1 a k = 0 ∧ w.2 a k = none) (hA0 : ∀ q, H0.size ≤ q → A q) (hn : As.length = n) (hst : st = As.reverse ++ .ref a :: rest) (hW0 : (rest.map fun v => v.category).sum ≤ 8) (hrm : rm.cells = mc ∧ rm.slots = ms) (hRo : rm.frames + 1 ≤ R.frames ∧ 8 + (maxL + 11) + rm.locals ≤ R.locals) (hro2 : cells + mc ≤ R.cells ∧ slots + ms ≤ R.slots) (hd : decode cc pc = .ok (.invokespecial index, 3))
    (K : ∀ (G2 : Gm) (v2 : Mv) (w2 : Mw), post G2 v2 w2 → (∀ b, (G2 b).isSome = true → b = a ∨ (G b = none ∧ H0.size ≤ b)) → Cx p R s m meth c (cells + mc) (slots + ms) cc nL own D dA (un G2 G) A → J p l e R s m args below meth c (cells + mc) (slots + ms) Q D dA (un G2 G) A H0 nL (uv G2 v2 v) (uw G2 w2 w) lv (pc + 3) (rest)) : J p l e R s m args below meth c cells slots Q D dA G A H0 nL v w lv (pc) (st) := by
  intro H locs ls hH hS hl
  have E0 := E
  obtain ⟨hcd, hini, hinst, hyn, hd1, hd2, hd3⟩ := hc
  obtain ⟨hx, hb, hml, hown, hT, hK, hro, hA, -⟩ := E
  subst hst
  have hAa : A a := hA a (by rw [hG]; rfl)
  have hAn : ∀ q, An a H.size q → A q := fun q h => h.elim (fun z => by rw [z]; exact hAa) (fun z => hA0 q (Nat.le_trans hS.1 z))
  have hpV : PreS s H (PcN D dA a sh As H.size) (.ref a :: As) := ⟨PcN.blind, fun U hU hW => ⟨rfl, by rw [hU], by rw [hU]; exact hH.oneN hG hz, va_K.moved hW.alike hK, hT.moved hW⟩⟩
  refine va_callv (va_runI (Ts := []) (n := n) (rest := rest) (As := As) ⟨hx, hb, hml, hown, fun _ h => absurd h List.not_mem_nil⟩ (hM H.size) ⟨⟨hrm.1, hrm.2, hRo.1, hRo.2, (fun w hw a' U hW => by rw [List.mem_singleton.mp hw]; exact word_at hW (Or.inl rfl) (hT.use hcd rfl args)), List.mem_singleton.mpr rfl, hT.use hcd rfl args, hT.use hini rfl args, ⟨hd1, hd2⟩, (fun sig h => by rw [h] at hd3; exact (Option.some.inj hd3).symm), hT.use hl0 rfl args⟩, hyn, hT.use hinst rfl args⟩ hpV rfl hn hl.1 rfl (lv_room hW0) hd hro2) hS (fun q _ h => hAn q h) hAn (fun u t H1 locs1 ht hvm hw hB hz1 hk1 hS1 => ?_)
  have h2 : Hp D dA u.1 u.2.1 u.2.2 H1 := by rw [← ht]; exact hB.1
  have hdm : ∀ b, (u.1 b).isSome = true → b = a ∨ (G b = none ∧ H0.size ≤ b) := fun b hb2 => (hB.2 b hb2).imp id (fun z => ⟨by
    cases hq : G b with
    | none => rfl
    | some s2 => exact absurd (hH b _ hq).lt (Nat.not_lt.mpr z), Nat.le_trans hS.1 z⟩)
  refine K u.1 u.2.1 u.2.2 hw hdm (E0.grow hro2 (fun q hq => ?_)) H1 locs1 ls (hH.unN h2 (hps _ _ _ hw) hk1) hS1 hl
  unfold un at hq
  cases h3 : u.1 q with
  | none => rw [h3] at hq; exact hA q hq
  | some s2 => exact (hdm q (by rw [h3]; rfl)).elim (fun z => by rw [z]; exact hAa) (fun z => hA0 q z.2)
theorem J_callIN {post : Gm → Mv → Mw → Prop} (E : Cx p R s m meth c cells slots cc nL own D dA G A) (hc : CalI y bytes maxL n) (hl0 : Cond.methodLinkNest own index y host ∈ lw_tbl) (As rest : List Value) (hM : CtN l y bytes maxL rm D dA a sh As mc ms post) (hps : ∀ G2 v2 w2, post G2 v2 w2 → (G2 a).isSome = true) (hG : G a = some sh) (hz : ∀ k, v a k = 0 ∧ w.1 a k = 0 ∧ w.2 a k = none) (hA0 : ∀ q, H0.size ≤ q → A q) (hn : As.length = n) (hst : st = As.reverse ++ .ref a :: rest) (hW0 : (rest.map fun v => v.category).sum ≤ 8) (hrm : rm.cells = mc ∧ rm.slots = ms) (hRo : rm.frames + 1 ≤ R.frames ∧ 8 + (maxL + 11) + rm.locals ≤ R.locals) (hro2 : cells + mc ≤ R.cells ∧ slots + ms ≤ R.slots) (hd : decode cc pc = .ok (.invokespecial index, 3))
    (K : ∀ (G2 : Gm) (v2 : Mv) (w2 : Mw), post G2 v2 w2 → (∀ b, (G2 b).isSome = true → b = a ∨ (G b = none ∧ H0.size ≤ b)) → Cx p R s m meth c (cells + mc) (slots + ms) cc nL own D dA (un G2 G) A → J p l e R s m args below meth c (cells + mc) (slots + ms) Q D dA (un G2 G) A H0 nL (uv G2 v2 v) (uw G2 w2 w) lv (pc + 3) (rest)) : J p l e R s m args below meth c cells slots Q D dA G A H0 nL v w lv (pc) (st) := by
  intro H locs ls hH hS hl
  have E0 := E
  obtain ⟨hcd, hini, hinst, hyn, hd1, hd2, hd3⟩ := hc
  obtain ⟨hx, hb, hml, hown, hT, hK, hro, hA, -⟩ := E
  subst hst
  have hAa : A a := hA a (by rw [hG]; rfl)
  have hAn : ∀ q, An a H.size q → A q := fun q h => h.elim (fun z => by rw [z]; exact hAa) (fun z => hA0 q (Nat.le_trans hS.1 z))
  have hpV : PreS s H (PcN D dA a sh As H.size) (.ref a :: As) := ⟨PcN.blind, fun U hU hW => ⟨rfl, by rw [hU], by rw [hU]; exact hH.oneN hG hz, va_K.moved hW.alike hK, hT.moved hW⟩⟩
  refine va_callv (va_runIN (Ts := []) (n := n) (rest := rest) (As := As) ⟨hx, hb, hml, hown, fun _ h => absurd h List.not_mem_nil⟩ (hM H.size) ⟨⟨⟨hrm.1, hrm.2, hRo.1, hRo.2, (fun w hw a' U hW => by rw [List.mem_singleton.mp hw]; exact word_at hW (Or.inl rfl) (hT.use hcd rfl args)), List.mem_singleton.mpr rfl⟩, hT.use hcd rfl args, hT.use hini rfl args, ⟨hd1, hd2⟩, (fun sig h => by rw [h] at hd3; exact (Option.some.inj hd3).symm), hT.use hl0 rfl args⟩, hyn, hT.use hinst rfl args⟩ hpV rfl hn hl.1 rfl (lv_room hW0) hd hro2) hS (fun q _ h => hAn q h) hAn (fun u t H1 locs1 ht hvm hw hB hz1 hk1 hS1 => ?_)
  have h2 : Hp D dA u.1 u.2.1 u.2.2 H1 := by rw [← ht]; exact hB.1
  have hdm : ∀ b, (u.1 b).isSome = true → b = a ∨ (G b = none ∧ H0.size ≤ b) := fun b hb2 => (hB.2 b hb2).imp id (fun z => ⟨by
    cases hq : G b with
    | none => rfl
    | some s2 => exact absurd (hH b _ hq).lt (Nat.not_lt.mpr z), Nat.le_trans hS.1 z⟩)
  refine K u.1 u.2.1 u.2.2 hw hdm (E0.grow hro2 (fun q hq => ?_)) H1 locs1 ls (hH.unN h2 (hps _ _ _ hw) hk1) hS1 hl
  unfold un at hq
  cases h3 : u.1 q with
  | none => rw [h3] at hq; exact hA q hq
  | some s2 => exact (hdm q (by rw [h3]; rfl)).elim (fun z => by rw [z]; exact hAa) (fun z => hA0 q z.2)
end JV
