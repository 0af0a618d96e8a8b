/-! CONSTRUCTORS: typings that grow, opaque -/
def Kz (G : Gm) (v : Mv) : Prop := ∀ (a : Nat) (sh : Sh), G a = some sh → ∀ (k : Nat) (lo hi : Int), rng sh k = some (lo, hi, true) → v a k = 0
def Oz (G : Gm) (v : Mv) (w : Mw) (ex : List Nat) : Prop := Oi G v ∧ Kz G v ∧ ∀ (a t n : Nat) (L : List Nat), a ∉ ex → G a = some (.inr (t, n, .inr L)) → ∀ j, j < n → ∃ b, b ∈ L ∧ w.2 a j = some b ∧ (t = 3 → L[j]? = some b)
theorem Oz.ok {G : Gm} {v : Mv} {w : Mw} (h : Oz G v w []) : Ok G v w := ⟨h.1, fun a t n L ha j hj => h.2.2 a t n L List.not_mem_nil ha j hj⟩
def Lf (G G' : Gm) : Prop := ∀ (c : Nat) (s : Sh), G c = some s → G' c = some s
def Lb (G G' : Gm) (a : Nat) : Prop := ∀ (c : Nat) (s : Sh), c ≠ a → G c = some s → G' c = some s
theorem Lf.lt {G G' : Gm} (h : Lf G G') {ci : Nat} : Lt G G' ci := fun c s hc _ => h c s hc
theorem Lf.but {G G1 G' : Gm} {a : Nat} (h : Lf G G1) (hn : G a = none) (hk : Lb G1 G' a) : Lf G G' := fun c s hc => hk c s (fun q => by rw [q, hn] at hc; cases hc) (h c s hc)
def zr (sh : Sh) : Prop := ∀ (k : Nat) (r : Int × Int × Bool), rng sh k = some r → r.1 ≤ 0 ∧ 0 ≤ r.2.1
def zf (f : Fk) : Bool := match f with
  | .inl r => decide (r.1 ≤ 0) && decide (0 ≤ r.2.1)
  | .inr _ => true
theorem zr.obj {ci : Nat} {fs : List Fk} (h : fs.all zf = true) : zr (.inl (ci, fs)) := by
  intro k r hr
  have hr : (match fs[k]? with | some (.inl r) => some r | _ => none) = some r := hr
  split at hr
  · rename_i r1 hq
    cases hr
    have := List.all_eq_true.mp h _ (List.mem_of_getElem? hq)
    have this : (decide (r.1 ≤ 0) && decide (0 ≤ r.2.1)) = true := this
    rw [Bool.and_eq_true, decide_eq_true_eq, decide_eq_true_eq] at this
    exact this
  · cases hr
theorem zr.arr {t n : Nat} {g : Nat → Int × Int × Bool} (h : ∀ k, (g k).1 ≤ 0 ∧ 0 ≤ (g k).2.1) : zr (.inr (t, n, .inl g)) := by
  intro k r hr
  have hr : (if k < n then some (g k) else none) = some r := hr
  split at hr
  · cases hr
    exact h k
  · cases hr
theorem zr.refs {t n : Nat} {L : List Nat} : zr (.inr (t, n, .inr L)) := fun k r hr => by cases hr
theorem z_any : ∀ k, (gany k).1 ≤ 0 ∧ 0 ≤ (gany k).2.1 := fun _ => by constructor <;> (unfold gany; decide)
theorem z_st : ∀ k, (gst k).1 ≤ 0 ∧ 0 ≤ (gst k).2.1 := fun k => by unfold gst; split <;> constructor <;> decide
theorem z_kept : ∀ k, (gkept k).1 ≤ 0 ∧ 0 ≤ (gkept k).2.1 := fun _ => by constructor <;> (unfold gkept; decide)
theorem z_kbyte : ∀ k, (gkbyte k).1 ≤ 0 ∧ 0 ≤ (gkbyte k).2.1 := fun _ => by constructor <;> (unfold gkbyte; decide)
theorem z_kany : ∀ k, (gkany k).1 ≤ 0 ∧ 0 ≤ (gkany k).2.1 := fun _ => by constructor <;> (unfold gkany; decide)
theorem z_all : ∀ k, (gall k).1 ≤ 0 ∧ 0 ≤ (gall k).2.1 := fun k => by
  unfold gall
  repeat' split
  all_goals first | exact z_st _ | (constructor <;> decide)
theorem Kz.extN {G : Gm} {v : Mv} {a : Nat} {sh : Sh} (h : Kz G v) : Kz (ext G a sh) (zv v a) := by
  intro b sh' hb k lo hi hr
  unfold zv
  by_cases hq : b = a
  · rw [if_pos hq]
  · rw [if_neg hq]
    rw [ext_n hq] at hb
    exact h b sh' hb k lo hi hr
theorem Oz.extN {G : Gm} {v : Mv} {w : Mw} {ex : List Nat} {a : Nat} {sh : Sh} (h : Oz G v w ex) (hz : zr sh) (hs : isRA sh = false) : Oz (ext G a sh) (zv v a) (zw w a) ex := by
  refine ⟨h.1.extN hz, h.2.1.extN, ?_⟩
  intro b t n L hx hb j hj
  by_cases hq : b = a
  · rw [hq, ext_s] at hb
    cases hb
    cases hs
  · rw [ext_n hq] at hb
    obtain ⟨c, h1, h2, h9⟩ := h.2.2 b t n L hx hb j hj
    exact ⟨c, h1, by show (if b = a then none else w.2 b j) = some c; rw [if_neg hq]; exact h2, h9⟩
theorem Oz.extR {G : Gm} {v : Mv} {w : Mw} {ex : List Nat} {a : Nat} {sh : Sh} (h : Oz G v w ex) (hz : zr sh) : Oz (ext G a sh) (zv v a) (zw w a) (a :: ex) := by
  refine ⟨h.1.extN hz, h.2.1.extN, ?_⟩
  intro b t n L hx hb j hj
  have hq : b ≠ a := fun q => hx (q ▸ List.mem_cons_self)
  rw [ext_n hq] at hb
  obtain ⟨c, h1, h2, h9⟩ := h.2.2 b t n L (fun q => hx (List.mem_cons_of_mem _ q)) hb j hj
  exact ⟨c, h1, by show (if b = a then none else w.2 b j) = some c; rw [if_neg hq]; exact h2, h9⟩
theorem Kz.unN {G2 G : Gm} {v2 v : Mv} (h2 : Kz G2 v2) (h : Kz G v) : Kz (un G2 G) (uv G2 v2 v) := by
  intro b sh hb k lo hi hr
  unfold un at hb
  unfold uv
  cases hq : G2 b with
  | none => rw [hq] at hb; simp only [Option.isSome_none, Bool.false_eq_true, if_false]; exact h b sh hb k lo hi hr
  | some s2 => rw [hq] at hb; simp only [Option.isSome_some, if_true]; cases hb; exact h2 b _ hq k lo hi hr
theorem Oz.unN {G2 G : Gm} {v2 v : Mv} {w2 w : Mw} {ex : List Nat} (h2 : Oz G2 v2 w2 []) (h : Oz G v w ex) : Oz (un G2 G) (uv G2 v2 v) (uw G2 w2 w) ex := by
  refine ⟨h2.1.unN h.1, h2.2.1.unN h.2.1, ?_⟩
  intro b t n L hx hb j hj
  unfold un at hb
  cases hq : G2 b with
  | none =>
    rw [hq] at hb
    obtain ⟨c, h1, h3, h9⟩ := h.2.2 b t n L hx hb j hj
    exact ⟨c, h1, by show (if (G2 b).isSome then w2.2 b j else w.2 b j) = some c; rw [hq]; exact h3, h9⟩
  | some s2 =>
    rw [hq] at hb
    cases hb
    obtain ⟨c, h1, h3, h9⟩ := h2.2.2 b t n L List.not_mem_nil hq j hj
    exact ⟨c, h1, by show (if (G2 b).isSome then w2.2 b j else w.2 b j) = some c; rw [hq]; exact h3, h9⟩
theorem Oz.stu {G : Gm} {v : Mv} {w : Mw} {ex : List Nat} (h : Oz G v w ex) {a k : Nat} {x : Option Nat} (hx : a ∈ ex) : Oz G v (stu w a k x) ex := by
  refine ⟨h.1, h.2.1, ?_⟩
  intro b t n L hx2 hb j hj
  obtain ⟨c, h1, h3, h9⟩ := h.2.2 b t n L hx2 hb j hj
  exact ⟨c, h1, (stu_a (w := w) (k := k) (x := x) (fun q : b = a => hx2 (by rw [q]; exact hx))).trans h3, h9⟩
theorem Oz.stw {G : Gm} {v : Mv} {w : Mw} {ex : List Nat} (h : Oz G v w ex) {a k : Nat} {x : Int64} : Oz G v (stw w a k x) ex := h
theorem Oz.st {G : Gm} {v : Mv} {w : Mw} {ex : List Nat} (h : Oz G v w ex) {a k : Nat} {x : Int32} {sh : Sh} (ha : G a = some sh) (hb : ∀ r, rng sh k = some r → Bd x r.1 r.2.1 ∧ r.2.2 = false) : Oz G (stv v a k x) w ex := by
  refine ⟨?_, ?_, h.2.2⟩
  · intro b sh' hb' j r hr
    by_cases hq : b = a ∧ j = k
    · obtain ⟨rfl, rfl⟩ := hq
      rw [stv_s]
      rw [ha] at hb'
      cases hb'
      exact (hb r hr).1
    · unfold stv
      rw [if_neg hq]
      exact h.1 b sh' hb' j r hr
  · intro b sh' hb' j lo hi hr
    by_cases hq : b = a ∧ j = k
    · obtain ⟨rfl, rfl⟩ := hq
      rw [ha] at hb'
      cases hb'
      cases (hb _ hr).2
    · unfold stv
      rw [if_neg hq]
      exact h.2.1 b sh' hb' j lo hi hr
theorem Oz.any {G : Gm} {v : Mv} {w : Mw} {ex : List Nat} (h : Oz G v w ex) {a k t n : Nat} {x : Int32} (ha : G a = some (.inr (t, n, .inl gany))) : Oz G (stv v a k x) w ex := h.st ha (fun r hr => by
  have hr : (if k < n then some (gany k) else none) = some r := hr
  split at hr
  · cases hr
    exact ⟨⟨Int32.le_toInt x, Int32.toInt_le x⟩, rfl⟩
  · cases hr)
theorem rng_setR {ci k j : Nat} {fs : List Fk} {b : Option Nat} {r : Int × Int × Bool} (h : rng (.inl (ci, fs.set k (.inr (.inr b)))) j = some r) : rng (.inl (ci, fs)) j = some r := by
  have h : (match (fs.set k (.inr (.inr b)))[j]? with | some (.inl r) => some r | _ => none) = some r := h
  show (match fs[j]? with | some (.inl r) => some r | _ => none) = some r
  by_cases hq : k = j
  · subst hq
    by_cases hl : k < fs.length
    · rw [List.getElem?_set_self hl] at h
      cases h
    · rw [List.getElem?_eq_none (by rw [List.length_set]; omega)] at h
      cases h
  · rw [List.getElem?_set_ne hq] at h
    exact h
theorem Oz.setR {G : Gm} {v : Mv} {w : Mw} {ex : List Nat} {a ci k : Nat} {fs : List Fk} {b : Option Nat} (h : Oz G v w ex) (hG : G a = some (.inl (ci, fs))) : Oz (ext G a (.inl (ci, fs.set k (.inr (.inr b))))) v w ex := by
  refine ⟨h.1.setN (fun j r hr => h.1 a _ hG j r (rng_setR hr)), ?_, ?_⟩
  · intro c sh hc j lo hi hr
    by_cases hq : c = a
    · rw [hq, ext_s] at hc
      cases hc
      rw [hq]
      exact h.2.1 a _ hG j lo hi (rng_setR hr)
    · rw [ext_n hq] at hc
      exact h.2.1 c sh hc j lo hi hr
  · intro c t n L hx hc j hj
    by_cases hq : c = a
    · rw [hq, ext_s] at hc
      cases hc
    · rw [ext_n hq] at hc
      exact h.2.2 c t n L hx hc j hj
theorem Oz.setI {G : Gm} {v : Mv} {w : Mw} {ex : List Nat} {a ci k : Nat} {fs : List Fk} {x : Int32} {r0 : Int × Int × Bool} (h : Oz G v w ex) (hG : G a = some (.inl (ci, fs))) (hk : k < fs.length) (hb : Bd x r0.1 r0.2.1 ∧ r0.2.2 = false) : Oz (ext G a (.inl (ci, fs.set k (.inl r0)))) (stv v a k x) w ex := by
  have key : ∀ j r, rng (.inl (ci, fs.set k (.inl r0))) j = some r → (j = k ∧ r = r0) ∨ (j ≠ k ∧ rng (.inl (ci, fs)) j = some r) := by
    intro j r hr
    have hr : (match (fs.set k (.inl r0))[j]? with | some (.inl r) => some r | _ => none) = some r := hr
    by_cases hq : j = k
    · subst hq
      rw [List.getElem?_set_self hk] at hr
      cases hr
      exact Or.inl ⟨rfl, rfl⟩
    · rw [List.getElem?_set_ne (fun q => hq q.symm)] at hr
      exact Or.inr ⟨hq, hr⟩
  refine ⟨?_, ?_, ?_⟩
  · intro c sh hc j r hr
    by_cases hq : c = a
    · subst hq
      rw [ext_s] at hc
      cases hc
      rcases key j r hr with ⟨rfl, rfl⟩ | ⟨h1, h2⟩
      · rw [stv_s]; exact hb.1
      · rw [stv_k h1]; exact h.1 c _ hG j r h2
    · rw [ext_n hq] at hc
      rw [stv_a hq]
      exact h.1 c sh hc j r hr
  · intro c sh hc j lo hi hr
    by_cases hq : c = a
    · subst hq
      rw [ext_s] at hc
      cases hc
      rcases key j _ hr with ⟨rfl, h2⟩ | ⟨h1, h2⟩
      · have := hb.2
        rw [← h2] at this
        cases this
      · rw [stv_k h1]; exact h.2.1 c _ hG j lo hi h2
    · rw [ext_n hq] at hc
      rw [stv_a hq]
      exact h.2.1 c sh hc j lo hi hr
  · intro c t n L hx hc j hj
    by_cases hq : c = a
    · rw [hq, ext_s] at hc
      cases hc
    · rw [ext_n hq] at hc
      exact h.2.2 c t n L hx hc j hj
/-- the list of an array's references, once it is full -/
theorem Oz.full {G : Gm} {v : Mv} {w : Mw} {ex : List Nat} {a t n : Nat} {L L' : List Nat} (h : Oz G v w (a :: ex)) (hG : G a = some (.inr (t, n, .inr L))) (hf : ∀ j, j < n → ∃ b, b ∈ L' ∧ w.2 a j = some b ∧ (t = 3 → L'[j]? = some b)) : Oz (ext G a (.inr (t, n, .inr L'))) v w ex := by
  refine ⟨h.1.setN (fun j r hr => by cases hr), ?_, ?_⟩
  · intro c sh hc j lo hi hr
    by_cases hq : c = a
    · rw [hq, ext_s] at hc
      cases hc
      cases hr
    · rw [ext_n hq] at hc
      exact h.2.1 c sh hc j lo hi hr
  · intro c t' n' L2 hx hc j hj
    by_cases hq : c = a
    · rw [hq, ext_s] at hc
      cases hc
      rw [hq]
      exact hf j hj
    · rw [ext_n hq] at hc
      exact h.2.2 c t' n' L2 (fun q => (List.mem_cons.mp q).elim hq hx) hc j hj
theorem S_X2.lf {G G' : Gm} {a : Nat} (h : Lf G G') (hs : S_X2 G a) : S_X2 G' a := hs.lt (ci := 99) h.lt rfl rfl
theorem S_X4.lf5 {G G' : Gm} {a : Nat} (h : Lf G G') (hs : S_X4 G a 5) : S_X4 G' a 5 := hs.lt (ci := 99) h.lt rfl rfl
theorem S_X4.lf6 {G G' : Gm} {a : Nat} (h : Lf G G') (hs : S_X4 G a 6) : S_X4 G' a 6 := hs.lt (ci := 99) h.lt rfl rfl
theorem S_X0.lf {G G' : Gm} {a : Nat} (h : Lf G G') (hs : S_X0 G a) : S_X0 G' a := hs.lt (ci := 99) h.lt rfl rfl
theorem S_X1.lf {G G' : Gm} {a : Nat} (h : Lf G G') (hs : S_X1 G a) : S_X1 G' a := hs.lt (ci := 99) h.lt rfl rfl rfl
theorem S_X6.lf {G G' : Gm} {a : Nat} (h : Lf G G') (hs : S_X6 G a) : S_X6 G' a := hs.lt (ci := 99) h.lt rfl rfl rfl rfl rfl rfl rfl
theorem S_X3.lf {G G' : Gm} {a : Nat} (h : Lf G G') (hs : S_X3 G a) : S_X3 G' a := hs.lt (ci := 99) h.lt rfl rfl rfl rfl rfl rfl rfl rfl rfl
theorem rf_at {G : Gm} {a ci : Nat} {fs : List Fk} (h : G a = some (.inl (ci, fs))) {k b : Nat} (hf : fs[k]? = some (.inr (.inr (some b)))) : rf G a k = b := by
  unfold rf
  rw [h]
  show (match fs[k]? with | some (.inr (.inr (some b))) => b | _ => 0) = b
  rw [hf]
theorem rl_at {G : Gm} {a t n : Nat} {L : List Nat} (h : G a = some (.inr (t, n, .inr L))) : rl G a = L := by
  unfold rl
  rw [h]
theorem S_X7.lf {G G' : Gm} {a : Nat} (h : Lf G G') (hs : S_X7 G a) : S_X7 G' a := by
  obtain ⟨q0, q1, q2, ⟨q3, q3b⟩, q4, q5, q6⟩ := hs
  have e0 := h a _ q0
  have er : ∀ k, rf G' a k = rf G a k := fun k => rf_eq (e0.trans q0.symm)
  have e3 := h _ _ q3
  unfold S_X7
  simp only [er]
  have el : rl G' (rf G a 2) = rl G (rf G a 2) := rl_eq (e3.trans q3.symm)
  rw [el]
  exact ⟨e0, q1.lf h, q2.lf h, ⟨e3, fun b hb => (q3b b hb).lf h⟩, q4.lf h, q5.lf h, q6.lf h⟩
theorem S_X8.lf {G G' : Gm} {a : Nat} (h : Lf G G') (hs : S_X8 G a) : S_X8 G' a := by
  obtain ⟨q0, q1, q2, q3, q4, q5, q6, q7, q8⟩ := hs
  have e0 := h a _ q0
  have er : ∀ k, rf G' a k = rf G a k := fun k => rf_eq (e0.trans q0.symm)
  unfold S_X8
  simp only [er]
  exact ⟨e0, h _ _ q1, h _ _ q2, h _ _ q3, h _ _ q4, h _ _ q5, h _ _ q6, h _ _ q7, h _ _ q8⟩
section JO
variable {p : Program} {l : Launch} {e : Env} {R : Room} {s : State} {m : MethodId} {args : Array Value} {below : List Frame} {meth : Method} {c : Code} {cells slots : Nat} {Q : State → Prop} {D : va_G} {dA : Nat → ClassId} {G : Gm} {A : Nat → Prop} {H0 : Heap} {nL : Nat} {cc : ByteArray} {own : String} {v : Mv} {w : Mw} {lv lv' : List (Nat × Value)} {pc : Nat} {st : List Value} {ex : List Nat}
theorem zw_k {a c k : Nat} (hn : G a = none) (hc : (G c).isSome = true) : (zw w a).2 c k = w.2 c k := by
  show (if c = a then none else w.2 c k) = w.2 c k
  rw [if_neg (fun q => by rw [q, hn] at hc; cases hc)]
theorem zw_z {a : Nat} (k : Nat) : zv v a a k = 0 ∧ (zw w a).1 a k = 0 ∧ (zw w a).2 a k = none := ⟨if_pos rfl, if_pos rfl, if_pos rfl⟩
theorem top_none {a : Nat} (h : ∀ q, (G q).isSome = true → q < a) : G a = none := by
  cases hq : G a with
  | none => rfl
  | some sh => exact absurd (h a (by rw [hq]; rfl)) (Nat.lt_irrefl _)
theorem Lf.ext {a : Nat} {sh : Sh} (hn : G a = none) : Lf G (ext G a sh) := fun c s hc => by
  rw [ext_n (fun q => by rw [q, hn] at hc; cases hc)]
  exact hc
theorem N_new (E : Cx p R s m meth c cells slots cc nL own D dA G A) {C : String} {T : u_T} {N ci index : Nat} (hO : Oz G v w ex) (hin : ∀ w ∈ u_ws C T N, w ∈ lw_tbl) (ty : Nat → FieldType) (hty : ∀ k, k < N → parseFieldDescriptor (T k).2.2.1 = some (ty k)) (hcl : Cond.classLink own index C ∈ lw_tbl) (hins : Cond.instantiable C N ∈ lw_tbl) (hini : Cond.initialized C ∈ lw_tbl) (hc : classes[ci]? = some (C, T, N)) (fs : List Fk) (hz : fs.all zf = true) (hfs : ∀ a j, j < N → defaultValue (ty j) = fv (zv v a) (zw w a) a j fs[j]?) (hA0 : ∀ q, H0.size ≤ q → A q) (hro : cells + 1 ≤ R.cells ∧ slots + N ≤ R.slots) (hd : decode cc pc = .ok (.new index, 3))
    (K : ∀ (a : Nat) (G' : Gm) (v' : Mv) (w' : Mw), Lf G G' → G' a = some (.inl (ci, fs)) → Oz G' v' w' ex → (∀ k, v' a k = 0 ∧ w'.1 a k = 0 ∧ w'.2 a k = none) → (∀ q, (G q).isSome = true → q < a) → (∀ c k, (G c).isSome = true → w'.2 c k = w.2 c k) → Cx p R s m meth c (cells + 1) (slots + N) cc nL own D dA G' A → J p l e R s m args below meth c (cells + 1) (slots + N) Q D dA G' A H0 nL v' w' lv (pc + 3) (.ref a :: st)) : J p l e R s m args below meth c cells slots Q D dA G A H0 nL v w lv (pc) (st) :=
  J_new E hin ty hty hcl hins hini hc fs hfs hA0 hro hd (fun a hn _ E' => K a _ _ _ (Lf.ext (top_none hn)) ext_s (hO.extN (zr.obj hz) rfl) zw_z hn (fun c k hc => zw_k (top_none hn) hc) E')
theorem N_arr_int (E : Cx p R s m meth c cells slots cc nL own D dA G A) {x : Int32} (hO : Oz G v w ex) (n : Nat) (g : Nat → Int × Int × Bool) (hz : ∀ k, (g k).1 ≤ 0 ∧ 0 ≤ (g k).2.1) (hw : Cond.arrayClass .int ∈ lw_tbl) (hn : ¬ x < 0) (hN : x.toNatClampNeg = n) (hby : n * componentBytes .int ≤ 536870912) (hA0 : ∀ q, H0.size ≤ q → A q) (hro : cells + 1 ≤ R.cells ∧ slots + n ≤ R.slots) (hd : decode cc pc = .ok (.newarray .int, 2))
    (K : ∀ (a : Nat) (G' : Gm) (v' : Mv) (w' : Mw), Lf G G' → G' a = some (.inr (0, n, .inl g)) → Oz G' v' w' ex → (∀ q, (G q).isSome = true → q < a) → Cx p R s m meth c (cells + 1) (slots + n) cc nL own D dA G' A → J p l e R s m args below meth c (cells + 1) (slots + n) Q D dA G' A H0 nL v' w' lv (pc + 2) (.ref a :: st)) : J p l e R s m args below meth c cells slots Q D dA G A H0 nL v w lv (pc) (.int x :: st) :=
  J_newarr_int E n g hw hn hN hby hA0 hro hd (fun a hn _ E' => K a _ _ _ (Lf.ext (top_none hn)) ext_s (hO.extN (zr.arr hz) rfl) hn E')
theorem N_arr_byte (E : Cx p R s m meth c cells slots cc nL own D dA G A) {x : Int32} (hO : Oz G v w ex) (n : Nat) (g : Nat → Int × Int × Bool) (hz : ∀ k, (g k).1 ≤ 0 ∧ 0 ≤ (g k).2.1) (hw : Cond.arrayClass .byte ∈ lw_tbl) (hn : ¬ x < 0) (hN : x.toNatClampNeg = n) (hby : n * componentBytes .byte ≤ 536870912) (hA0 : ∀ q, H0.size ≤ q → A q) (hro : cells + 1 ≤ R.cells ∧ slots + n ≤ R.slots) (hd : decode cc pc = .ok (.newarray .byte, 2))
    (K : ∀ (a : Nat) (G' : Gm) (v' : Mv) (w' : Mw), Lf G G' → G' a = some (.inr (1, n, .inl g)) → Oz G' v' w' ex → (∀ q, (G q).isSome = true → q < a) → Cx p R s m meth c (cells + 1) (slots + n) cc nL own D dA G' A → J p l e R s m args below meth c (cells + 1) (slots + n) Q D dA G' A H0 nL v' w' lv (pc + 2) (.ref a :: st)) : J p l e R s m args below meth c cells slots Q D dA G A H0 nL v w lv (pc) (.int x :: st) :=
  J_newarr_byte E n g hw hn hN hby hA0 hro hd (fun a hn _ E' => K a _ _ _ (Lf.ext (top_none hn)) ext_s (hO.extN (zr.arr hz) rfl) hn E')
theorem N_arr_boolean (E : Cx p R s m meth c cells slots cc nL own D dA G A) {x : Int32} (hO : Oz G v w ex) (n : Nat) (g : Nat → Int × Int × Bool) (hz : ∀ k, (g k).1 ≤ 0 ∧ 0 ≤ (g k).2.1) (hw : Cond.arrayClass .boolean ∈ lw_tbl) (hn : ¬ x < 0) (hN : x.toNatClampNeg = n) (hby : n * componentBytes .boolean ≤ 536870912) (hA0 : ∀ q, H0.size ≤ q → A q) (hro : cells + 1 ≤ R.cells ∧ slots + n ≤ R.slots) (hd : decode cc pc = .ok (.newarray .boolean, 2))
    (K : ∀ (a : Nat) (G' : Gm) (v' : Mv) (w' : Mw), Lf G G' → G' a = some (.inr (2, n, .inl g)) → Oz G' v' w' ex → (∀ q, (G q).isSome = true → q < a) → Cx p R s m meth c (cells + 1) (slots + n) cc nL own D dA G' A → J p l e R s m args below meth c (cells + 1) (slots + n) Q D dA G' A H0 nL v' w' lv (pc + 2) (.ref a :: st)) : J p l e R s m args below meth c cells slots Q D dA G A H0 nL v w lv (pc) (.int x :: st) :=
  J_newarr_boolean E n g hw hn hN hby hA0 hro hd (fun a hn _ E' => K a _ _ _ (Lf.ext (top_none hn)) ext_s (hO.extN (zr.arr hz) rfl) hn E')
theorem N_anew3 (E : Cx p R s m meth c cells slots cc nL own D dA G A) {x : Int32} {index : Nat} (hO : Oz G v w ex) (n : Nat) (hcl : Cond.classLink own index RX6 ∈ lw_tbl) (hw : Cond.arrayOver (.object RX6) ∈ lw_tbl) (hn : ¬ x < 0) (hN : x.toNatClampNeg = n) (hby : n * 4 ≤ 536870912) (hA0 : ∀ q, H0.size ≤ q → A q) (hro : cells + 1 ≤ R.cells ∧ slots + n ≤ R.slots) (hd : decode cc pc = .ok (.anewarray index, 3))
    (K : ∀ (a : Nat) (G' : Gm) (v' : Mv) (w' : Mw), Lf G G' → G' a = some (.inr (3, n, .inr [])) → Oz G' v' w' (a :: ex) → (∀ q, (G q).isSome = true → q < a) → Cx p R s m meth c (cells + 1) (slots + n) cc nL own D dA G' A → J p l e R s m args below meth c (cells + 1) (slots + n) Q D dA G' A H0 nL v' w' lv (pc + 3) (.ref a :: st)) : J p l e R s m args below meth c cells slots Q D dA G A H0 nL v w lv (pc) (.int x :: st) :=
  J_anew3 E n [] hcl hw hn hN hby hA0 hro hd (fun a hn _ E' => K a _ _ _ (Lf.ext (top_none hn)) ext_s (hO.extR zr.refs) hn E')
theorem N_anew4 (E : Cx p R s m meth c cells slots cc nL own D dA G A) {x : Int32} {index : Nat} (hO : Oz G v w ex) (n : Nat) (hcl : Cond.classLink own index RX2 ∈ lw_tbl) (hw : Cond.arrayOver (.object RX2) ∈ lw_tbl) (hn : ¬ x < 0) (hN : x.toNatClampNeg = n) (hby : n * 4 ≤ 536870912) (hA0 : ∀ q, H0.size ≤ q → A q) (hro : cells + 1 ≤ R.cells ∧ slots + n ≤ R.slots) (hd : decode cc pc = .ok (.anewarray index, 3))
    (K : ∀ (a : Nat) (G' : Gm) (v' : Mv) (w' : Mw), Lf G G' → G' a = some (.inr (4, n, .inr [])) → Oz G' v' w' (a :: ex) → (∀ q, (G q).isSome = true → q < a) → Cx p R s m meth c (cells + 1) (slots + n) cc nL own D dA G' A → J p l e R s m args below meth c (cells + 1) (slots + n) Q D dA G' A H0 nL v' w' lv (pc + 3) (.ref a :: st)) : J p l e R s m args below meth c cells slots Q D dA G A H0 nL v w lv (pc) (.int x :: st) :=
  J_anew4 E n [] hcl hw hn hN hby hA0 hro hd (fun a hn _ E' => K a _ _ _ (Lf.ext (top_none hn)) ext_s (hO.extR zr.refs) hn E')
theorem N_finR (E : Cx p R s m meth c cells slots cc nL own D dA G A) {C : String} {T : u_T} {N ci index : Nat} {fs : List Fk} {a : Nat} (hO : Oz G v w ex) (hin : ∀ w ∈ u_ws C T N, w ∈ lw_tbl) (hc : classes[ci]? = some (C, T, N)) (hG : G a = some (.inl (ci, fs))) (k : Nat) (hk : k < N) (hl0 : Cond.fieldLink own index (T k).1 (T k).2.1 (T k).2.2.1 ∈ lw_tbl) (ty0 : Nat → FieldType) (hty : ∀ k, k < N → parseFieldDescriptor (T k).2.2.1 = some (ty0 k)) (hnm : ∀ a, a < N → ∀ b, b < N → a ≠ b → (T a).2.1 ≠ (T b).2.1) (hfin : (T k).2.2.2 = true) (hin2 : meth.name = "<init>") (hdecl : (T k).1 = own) {b : Nat} (fs' : List Fk) (hf : fs.set k (.inr (.inr (some b))) = fs') (hkl : k < fs.length) (ty : FieldType) (hty0 : parseFieldDescriptor (T k).2.2.1 = some ty) (hn : narrow ty (.ref b) = .ref b) (hfit : fits ty (.ref b) = true) (hd : decode cc pc = .ok (.putfield index, 3)) (K : ∀ G' : Gm, Lt G G' ci → G' a = some (.inl (ci, fs')) → Oz G' v w ex → Cx p R s m meth c cells slots cc nL own D dA G' A → J p l e R s m args below meth c cells slots Q D dA G' A H0 nL v w lv (pc + 3) (st)) : J p l e R s m args below meth c cells slots Q D dA G A H0 nL v w lv (pc) (.ref b :: .ref a :: st) := by
  subst hf
  exact J_finR E hin hc hG k hk hl0 ty0 hty hnm hfin hin2 hdecl hkl ty hty0 hn hfit hd (fun E' => K _ (Lt.setN hG rfl) ext_s (hO.setR hG) E')
theorem N_finI (E : Cx p R s m meth c cells slots cc nL own D dA G A) {C : String} {T : u_T} {N ci index : Nat} {fs : List Fk} {a : Nat} (hO : Oz G v w ex) (hin : ∀ w ∈ u_ws C T N, w ∈ lw_tbl) (hc : classes[ci]? = some (C, T, N)) (hG : G a = some (.inl (ci, fs))) (k : Nat) (hk : k < N) (hl0 : Cond.fieldLink own index (T k).1 (T k).2.1 (T k).2.2.1 ∈ lw_tbl) (ty0 : Nat → FieldType) (hty : ∀ k, k < N → parseFieldDescriptor (T k).2.2.1 = some (ty0 k)) (hnm : ∀ a, a < N → ∀ b, b < N → a ≠ b → (T a).2.1 ≠ (T b).2.1) (hfin : (T k).2.2.2 = true) (hin2 : meth.name = "<init>") (hdecl : (T k).1 = own) {b : Int32} (r : Int × Int × Bool) (hr : Bd b r.1 r.2.1 ∧ r.2.2 = false) (fs' : List Fk) (hf : fs.set k (.inl r) = fs') (hkl : k < fs.length) (ty : FieldType) (hty0 : parseFieldDescriptor (T k).2.2.1 = some ty) (hn : narrow ty (.int b) = .int b) (hfit : fits ty (.int b) = true) (hd : decode cc pc = .ok (.putfield index, 3)) (K : ∀ (G' : Gm) (v' : Mv), Lt G G' ci → G' a = some (.inl (ci, fs')) → Oz G' v' w ex → Cx p R s m meth c cells slots cc nL own D dA G' A → J p l e R s m args below meth c cells slots Q D dA G' A H0 nL v' w lv (pc + 3) (st)) : J p l e R s m args below meth c cells slots Q D dA G A H0 nL v w lv (pc) (.int b :: .ref a :: st) := by
  subst hf
  exact J_finI E hin hc hG k hk hl0 ty0 hty hnm hfin hin2 hdecl r hkl ty hty0 hn hfit hd (fun E' => K _ _ (Lt.setN hG rfl) ext_s (hO.setI hG hkl hr) E')
variable {y : MethodName} {bytes : ByteArray} {maxL n index mc ms a : Nat} {rm : Room} {host : String} {sh : Sh}
abbrev PoN (S : Gm → Prop) : Gm → Mv → Mw → Prop := fun G2 v2 w2 => Oz G2 v2 w2 [] ∧ S G2
theorem N_callI (E : Cx p R s m meth c cells slots cc nL own D dA G A) (hO : Oz G v w ex) (hc : CalI y bytes maxL n) (hl0 : Cond.methodLink own index y ∈ lw_tbl) (As rest : List Value) (S : Gm → Prop) (hmono : ∀ {G1 G2 : Gm}, Lf G1 G2 → S G1 → S G2) (hM : CtN l y bytes maxL rm D dA a sh As mc ms (PoN S)) (hps : ∀ G2, S G2 → (G2 a).isSome = true) (hG : G a = some sh) (hz : ∀ k, v a k = 0 ∧ w.1 a k = 0 ∧ w.2 a k = none) (hA0 : ∀ q, H0.size ≤ q → A q) (hn : As.length = n) (hst : st = As.reverse ++ .ref a :: rest) (hW0 : (rest.map fun v => v.category).sum ≤ 8) (hrm : rm.cells = mc ∧ rm.slots = ms) (hRo : rm.frames + 1 ≤ R.frames ∧ 8 + (maxL + 11) + rm.locals ≤ R.locals) (hro2 : cells + mc ≤ R.cells ∧ slots + ms ≤ R.slots) (hd : decode cc pc = .ok (.invokespecial index, 3))
    (K : ∀ (G' : Gm) (v' : Mv) (w' : Mw), Lb G G' a → S G' → Oz G' v' w' ex → (∀ c k, c ≠ a → (G c).isSome = true → w'.2 c k = w.2 c k) → Cx p R s m meth c (cells + mc) (slots + ms) cc nL own D dA G' A → J p l e R s m args below meth c (cells + mc) (slots + ms) Q D dA G' A H0 nL v' w' lv (pc + 3) (rest)) : J p l e R s m args below meth c cells slots Q D dA G A H0 nL v w lv (pc) (st) :=
  J_callI E hc hl0 As rest hM (fun G2 v2 w2 h => hps G2 h.2) hG hz hA0 hn hst hW0 hrm hRo hro2 hd (fun G2 v2 w2 h hdm E' => K _ _ _ (fun c s hca hcs => by
      show un G2 G c = some s
      unfold un
      cases hq : G2 c with
      | none => exact hcs
      | some s2 =>
        exfalso
        rcases hdm c (by rw [hq]; rfl) with z | z
        · exact hca z
        · rw [z.1] at hcs; cases hcs) (hmono (fun c s hcs => by unfold un; rw [hcs]) h.2) (h.1.unN hO) (fun c k hca hcs => by
      show (if (G2 c).isSome then w2.2 c k else w.2 c k) = w.2 c k
      cases hq : G2 c with
      | none => rfl
      | some s2 =>
        exfalso
        rcases hdm c (by rw [hq]; rfl) with z | z
        · exact hca z
        · rw [z.1] at hcs; cases hcs) E')
theorem N_callIN (E : Cx p R s m meth c cells slots cc nL own D dA G A) (hO : Oz G v w ex) (hc : CalI y bytes maxL n) (hl0 : Cond.methodLinkNest own index y host ∈ lw_tbl) (As rest : List Value) (S : Gm → Prop) (hmono : ∀ {G1 G2 : Gm}, Lf G1 G2 → S G1 → S G2) (hM : CtN l y bytes maxL rm D dA a sh As mc ms (PoN S)) (hps : ∀ G2, S G2 → (G2 a).isSome = true) (hG : G a = some sh) (hz : ∀ k, v a k = 0 ∧ w.1 a k = 0 ∧ w.2 a k = none) (hA0 : ∀ q, H0.size ≤ q → A q) (hn : As.length = n) (hst : st = As.reverse ++ .ref a :: rest) (hW0 : (rest.map fun v => v.category).sum ≤ 8) (hrm : rm.cells = mc ∧ rm.slots = ms) (hRo : rm.frames + 1 ≤ R.frames ∧ 8 + (maxL + 11) + rm.locals ≤ R.locals) (hro2 : cells + mc ≤ R.cells ∧ slots + ms ≤ R.slots) (hd : decode cc pc = .ok (.invokespecial index, 3))
    (K : ∀ (G' : Gm) (v' : Mv) (w' : Mw), Lb G G' a → S G' → Oz G' v' w' ex → (∀ c k, c ≠ a → (G c).isSome = true → w'.2 c k = w.2 c k) → Cx p R s m meth c (cells + mc) (slots + ms) cc nL own D dA G' A → J p l e R s m args below meth c (cells + mc) (slots + ms) Q D dA G' A H0 nL v' w' lv (pc + 3) (rest)) : J p l e R s m args below meth c cells slots Q D dA G A H0 nL v w lv (pc) (st) :=
  J_callIN E hc hl0 As rest hM (fun G2 v2 w2 h => hps G2 h.2) hG hz hA0 hn hst hW0 hrm hRo hro2 hd (fun G2 v2 w2 h hdm E' => K _ _ _ (fun c s hca hcs => by
      show un G2 G c = some s
      unfold un
      cases hq : G2 c with
      | none => exact hcs
      | some s2 =>
        exfalso
        rcases hdm c (by rw [hq]; rfl) with z | z
        · exact hca z
        · rw [z.1] at hcs; cases hcs) (hmono (fun c s hcs => by unfold un; rw [hcs]) h.2) (h.1.unN hO) (fun c k hca hcs => by
      show (if (G2 c).isSome then w2.2 c k else w.2 c k) = w.2 c k
      cases hq : G2 c with
      | none => rfl
      | some s2 =>
        exfalso
        rcases hdm c (by rw [hq]; rfl) with z | z
        · exact hca z
        · rw [z.1] at hcs; cases hcs) E')
theorem J.full {t : Nat} {L L' : List Nat} {arr : Nat} (E : Cx p R s m meth c cells slots cc nL own D dA G A) (hO : Oz G v w (arr :: ex)) (hG : G arr = some (.inr (t, n, .inr L))) (hf : ∀ j, j < n → ∃ b, b ∈ L' ∧ w.2 arr j = some b ∧ (t = 3 → L'[j]? = some b)) (K : ∀ G' : Gm, Lt G G' (100 + 10000 * t + n) → G' arr = some (.inr (t, n, .inr L')) → Oz G' v w ex → Cx p R s m meth c cells slots cc nL own D dA G' A → J p l e R s m args below meth c cells slots Q D dA G' A H0 nL v w lv (pc) (st)) : J p l e R s m args below meth c cells slots Q D dA G A H0 nL v w lv (pc) (st) := by
  intro H locs ls hH hS hl
  refine K (ext G arr (.inr (t, n, .inr L'))) (Lt.setN hG rfl) ext_s (hO.full hG hf) (E.grow E.2.2.2.2.2.2.1 (fun q hq => ?_)) H locs ls (fun b sh hb => ?_) hS hl
  · by_cases hqa : q = arr
    · rw [hqa]; exact E.2.2.2.2.2.2.2.1 arr (by rw [hG]; rfl)
    · rw [ext_n hqa] at hq; exact E.2.2.2.2.2.2.2.1 q hq
  · by_cases hqa : b = arr
    · rw [hqa, ext_s] at hb
      cases hb
      rw [hqa]
      have := hH arr _ hG
      exact this
    · rw [ext_n hqa] at hb
      exact hH b sh hb
end JO
theorem wd137 : Cond.code objectInit ⟨#[0xb1]⟩ 1 none ∈ lw_tbl := List.mem_of_getElem? (i := 137) (by decide +kernel)
