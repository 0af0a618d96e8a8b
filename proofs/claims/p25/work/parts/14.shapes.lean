/-! THE SHAPES of the program's objects, and what their places may hold -/
def rf (G : Gm) (a k : Nat) : Nat := match G a with
  | some (.inl (_, fs)) => match fs[k]? with
    | some (.inr (.inr (some b))) => b
    | _ => 0
  | _ => 0
def rl (G : Gm) (a : Nat) : List Nat := match G a with
  | some (.inr (_, _, .inr L)) => L
  | _ => []
def gany (_ : Nat) : Int × Int × Bool := (I0, I1, false)
def gst (j : Nat) : Int × Int × Bool := if 9 ≤ j then (-1, 6, false) else (I0, I1, false)
def gkany (_ : Nat) : Int × Int × Bool := (I0, I1, true)
def gkbyte (_ : Nat) : Int × Int × Bool := (-128, 127, true)
def gall (k : Nat) : Int × Int × Bool := if k % 246 ≤ 1 then (0, 7, true) else if k % 246 = 2 then (0, 5, true) else if k % 246 ≤ 4 then (0, 6, true) else if k % 246 = 5 then (0, 8, false) else if k % 246 < 34 then (I0, I1, true) else if k % 246 < 50 then gst (k % 246 - 34) else if k % 246 < 118 then (I0, I1, true) else gst ((k % 246 - 118) % 16)
def gkept (_ : Nat) : Int × Int × Bool := (0, 1, true)
def tg (s : Sh) : Nat := match s with
  | .inl (ci, _) => ci
  | .inr (t, n, _) => 100 + 10000 * t + n
theorem tg_ne {G : Gm} {a b : Nat} {s t : Sh} (ha : G a = some s) (hb : G b = some t) (h : Nat.beq (tg s) (tg t) = false) : a ≠ b := by
  intro q
  subst q
  rw [ha] at hb
  cases hb
  have : Nat.beq (tg s) (tg s) = true := Nat.beq_refl _
  rw [this] at h
  cases h
def S_X2 (G : Gm) (a : Nat) : Prop := G a = some (.inl (2, [fr (rf G a 0), fr (rf G a 1), fi I0 I1, fi I0 I1])) ∧ G (rf G a 0) = some (.inr (0, 7, .inl gany)) ∧ G (rf G a 1) = some (.inr (0, 7, .inl gany))
theorem S_X2.h {G : Gm} {a : Nat} (h : S_X2 G a) : G a = some (.inl (2, [fr (rf G a 0), fr (rf G a 1), fi I0 I1, fi I0 I1])) := h.1
theorem S_X2.f0 {G : Gm} {a : Nat} (h : S_X2 G a) : G (rf G a 0) = some (.inr (0, 7, .inl gany)) := h.2.1
theorem S_X2.f1 {G : Gm} {a : Nat} (h : S_X2 G a) : G (rf G a 1) = some (.inr (0, 7, .inl gany)) := h.2.2
def S_X4 (G : Gm) (a n : Nat) : Prop := G a = some (.inl (4, [fi n n, fr (rf G a 1), fq 0 n])) ∧ G (rf G a 1) = some (.inr (0, 4 * n, .inl gkany))
theorem S_X4.h {G : Gm} {a n : Nat} (h : S_X4 G a n) : G a = some (.inl (4, [fi n n, fr (rf G a 1), fq 0 n])) := h.1
theorem S_X4.f1 {G : Gm} {a n : Nat} (h : S_X4 G a n) : G (rf G a 1) = some (.inr (0, 4 * n, .inl gkany)) := h.2
def S_X0 (G : Gm) (a : Nat) : Prop := G a = some (.inl (0, [fr (rf G a 0), fi 0 9])) ∧ G (rf G a 0) = some (.inr (0, 9, .inl gany))
theorem S_X0.h {G : Gm} {a : Nat} (h : S_X0 G a) : G a = some (.inl (0, [fr (rf G a 0), fi 0 9])) := h.1
theorem S_X0.f0 {G : Gm} {a : Nat} (h : S_X0 G a) : G (rf G a 0) = some (.inr (0, 9, .inl gany)) := h.2
def S_X1 (G : Gm) (a : Nat) : Prop := G a = some (.inl (1, [fr (rf G a 0), fr (rf G a 1), fi 0 7])) ∧ G (rf G a 0) = some (.inr (0, 7, .inl gany)) ∧ G (rf G a 1) = some (.inr (0, 896, .inl gany))
theorem S_X1.h {G : Gm} {a : Nat} (h : S_X1 G a) : G a = some (.inl (1, [fr (rf G a 0), fr (rf G a 1), fi 0 7])) := h.1
theorem S_X1.f0 {G : Gm} {a : Nat} (h : S_X1 G a) : G (rf G a 0) = some (.inr (0, 7, .inl gany)) := h.2.1
theorem S_X1.f1 {G : Gm} {a : Nat} (h : S_X1 G a) : G (rf G a 1) = some (.inr (0, 896, .inl gany)) := h.2.2
def S_X6 (G : Gm) (a : Nat) : Prop := G a = some (.inl (6, [fq 0 7, fr (rf G a 1), fr (rf G a 2), fq 0 7, fr (rf G a 4), fr (rf G a 5), fr (rf G a 6), fr (rf G a 7), fi 0 8, fr (rf G a 9), fr (rf G a 10), fr (rf G a 11)])) ∧ G (rf G a 1) = some (.inr (0, 7, .inl gkany)) ∧ G (rf G a 2) = some (.inr (0, 7, .inl gkany)) ∧ G (rf G a 4) = some (.inr (0, 7, .inl gkany)) ∧ G (rf G a 5) = some (.inr (0, 7, .inl gkany)) ∧ S_X2 G (rf G a 6) ∧ (G (rf G a 7) = some (.inr (4, 8, .inr (rl G (rf G a 7)))) ∧ ∀ b ∈ rl G (rf G a 7), S_X2 G b) ∧ S_X4 G (rf G a 9) 5 ∧ S_X4 G (rf G a 10) 6 ∧ S_X4 G (rf G a 11) 6
theorem S_X6.h {G : Gm} {a : Nat} (h : S_X6 G a) : G a = some (.inl (6, [fq 0 7, fr (rf G a 1), fr (rf G a 2), fq 0 7, fr (rf G a 4), fr (rf G a 5), fr (rf G a 6), fr (rf G a 7), fi 0 8, fr (rf G a 9), fr (rf G a 10), fr (rf G a 11)])) := h.1
theorem S_X6.f1 {G : Gm} {a : Nat} (h : S_X6 G a) : G (rf G a 1) = some (.inr (0, 7, .inl gkany)) := h.2.1
theorem S_X6.f2 {G : Gm} {a : Nat} (h : S_X6 G a) : G (rf G a 2) = some (.inr (0, 7, .inl gkany)) := h.2.2.1
theorem S_X6.f4 {G : Gm} {a : Nat} (h : S_X6 G a) : G (rf G a 4) = some (.inr (0, 7, .inl gkany)) := h.2.2.2.1
theorem S_X6.f5 {G : Gm} {a : Nat} (h : S_X6 G a) : G (rf G a 5) = some (.inr (0, 7, .inl gkany)) := h.2.2.2.2.1
theorem S_X6.f6 {G : Gm} {a : Nat} (h : S_X6 G a) : S_X2 G (rf G a 6) := h.2.2.2.2.2.1
theorem S_X6.f7 {G : Gm} {a : Nat} (h : S_X6 G a) : (G (rf G a 7) = some (.inr (4, 8, .inr (rl G (rf G a 7)))) ∧ ∀ b ∈ rl G (rf G a 7), S_X2 G b) := h.2.2.2.2.2.2.1
theorem S_X6.f9 {G : Gm} {a : Nat} (h : S_X6 G a) : S_X4 G (rf G a 9) 5 := h.2.2.2.2.2.2.2.1
theorem S_X6.f10 {G : Gm} {a : Nat} (h : S_X6 G a) : S_X4 G (rf G a 10) 6 := h.2.2.2.2.2.2.2.2.1
theorem S_X6.f11 {G : Gm} {a : Nat} (h : S_X6 G a) : S_X4 G (rf G a 11) 6 := h.2.2.2.2.2.2.2.2.2
def S_X3 (G : Gm) (a : Nat) : Prop := G a = some (.inl (3, [fr (rf G a 0), fq 0 150, fi 0 150, fi I0 I1, fi 0 150, fi I0 I1, fr (rf G a 6)])) ∧ G (rf G a 0) = some (.inr (0, 150, .inl gkany)) ∧ S_X6 G (rf G a 6)
theorem S_X3.h {G : Gm} {a : Nat} (h : S_X3 G a) : G a = some (.inl (3, [fr (rf G a 0), fq 0 150, fi 0 150, fi I0 I1, fi 0 150, fi I0 I1, fr (rf G a 6)])) := h.1
theorem S_X3.f0 {G : Gm} {a : Nat} (h : S_X3 G a) : G (rf G a 0) = some (.inr (0, 150, .inl gkany)) := h.2.1
theorem S_X3.f6 {G : Gm} {a : Nat} (h : S_X3 G a) : S_X6 G (rf G a 6) := h.2.2
def S_X7 (G : Gm) (a : Nat) : Prop := G a = some (.inl (7, [fr (rf G a 0), fr (rf G a 1), fr (rf G a 2), fq I0 I1, fr (rf G a 4), fr (rf G a 5), fr (rf G a 6), fl, fl, fi I0 I1, fi I0 I1, fi I0 I1])) ∧ S_X6 G (rf G a 0) ∧ S_X3 G (rf G a 1) ∧ (G (rf G a 2) = some (.inr (3, 2, .inr (rl G (rf G a 2)))) ∧ ∀ b ∈ rl G (rf G a 2), S_X6 G b) ∧ S_X1 G (rf G a 4) ∧ S_X0 G (rf G a 5) ∧ S_X2 G (rf G a 6)
theorem S_X7.h {G : Gm} {a : Nat} (h : S_X7 G a) : G a = some (.inl (7, [fr (rf G a 0), fr (rf G a 1), fr (rf G a 2), fq I0 I1, fr (rf G a 4), fr (rf G a 5), fr (rf G a 6), fl, fl, fi I0 I1, fi I0 I1, fi I0 I1])) := h.1
theorem S_X7.f0 {G : Gm} {a : Nat} (h : S_X7 G a) : S_X6 G (rf G a 0) := h.2.1
theorem S_X7.f1 {G : Gm} {a : Nat} (h : S_X7 G a) : S_X3 G (rf G a 1) := h.2.2.1
theorem S_X7.f2 {G : Gm} {a : Nat} (h : S_X7 G a) : (G (rf G a 2) = some (.inr (3, 2, .inr (rl G (rf G a 2)))) ∧ ∀ b ∈ rl G (rf G a 2), S_X6 G b) := h.2.2.2.1
theorem S_X7.f4 {G : Gm} {a : Nat} (h : S_X7 G a) : S_X1 G (rf G a 4) := h.2.2.2.2.1
theorem S_X7.f5 {G : Gm} {a : Nat} (h : S_X7 G a) : S_X0 G (rf G a 5) := h.2.2.2.2.2.1
theorem S_X7.f6 {G : Gm} {a : Nat} (h : S_X7 G a) : S_X2 G (rf G a 6) := h.2.2.2.2.2.2
def S_X8 (G : Gm) (a : Nat) : Prop := G a = some (.inl (8, [fr (rf G a 0), fr (rf G a 1), fr (rf G a 2), fr (rf G a 3), fr (rf G a 4), fq 0 150, fi 0 150, fi 0 150, fi I0 I1, fi 0 999, fi 0 1, fi I0 I1, fr (rf G a 12), fr (rf G a 13), fr (rf G a 14), fl, fl])) ∧ G (rf G a 0) = some (.inr (0, 3, .inl gany)) ∧ G (rf G a 1) = some (.inr (0, 984, .inl gall)) ∧ G (rf G a 2) = some (.inr (2, 2, .inl gkept)) ∧ G (rf G a 3) = some (.inr (0, 16, .inl gst)) ∧ G (rf G a 4) = some (.inr (1, 150, .inl gkbyte)) ∧ G (rf G a 12) = some (.inr (0, 1024, .inl gany)) ∧ G (rf G a 13) = some (.inr (0, 1024, .inl gany)) ∧ G (rf G a 14) = some (.inr (0, 7, .inl gany))
theorem S_X8.h {G : Gm} {a : Nat} (h : S_X8 G a) : G a = some (.inl (8, [fr (rf G a 0), fr (rf G a 1), fr (rf G a 2), fr (rf G a 3), fr (rf G a 4), fq 0 150, fi 0 150, fi 0 150, fi I0 I1, fi 0 999, fi 0 1, fi I0 I1, fr (rf G a 12), fr (rf G a 13), fr (rf G a 14), fl, fl])) := h.1
theorem S_X8.f0 {G : Gm} {a : Nat} (h : S_X8 G a) : G (rf G a 0) = some (.inr (0, 3, .inl gany)) := h.2.1
theorem S_X8.f1 {G : Gm} {a : Nat} (h : S_X8 G a) : G (rf G a 1) = some (.inr (0, 984, .inl gall)) := h.2.2.1
theorem S_X8.f2 {G : Gm} {a : Nat} (h : S_X8 G a) : G (rf G a 2) = some (.inr (2, 2, .inl gkept)) := h.2.2.2.1
theorem S_X8.f3 {G : Gm} {a : Nat} (h : S_X8 G a) : G (rf G a 3) = some (.inr (0, 16, .inl gst)) := h.2.2.2.2.1
theorem S_X8.f4 {G : Gm} {a : Nat} (h : S_X8 G a) : G (rf G a 4) = some (.inr (1, 150, .inl gkbyte)) := h.2.2.2.2.2.1
theorem S_X8.f12 {G : Gm} {a : Nat} (h : S_X8 G a) : G (rf G a 12) = some (.inr (0, 1024, .inl gany)) := h.2.2.2.2.2.2.1
theorem S_X8.f13 {G : Gm} {a : Nat} (h : S_X8 G a) : G (rf G a 13) = some (.inr (0, 1024, .inl gany)) := h.2.2.2.2.2.2.2.1
theorem S_X8.f14 {G : Gm} {a : Nat} (h : S_X8 G a) : G (rf G a 14) = some (.inr (0, 7, .inl gany)) := h.2.2.2.2.2.2.2.2
/-- stores, with a name for what comes of them -/
theorem Ok.pf {G : Gm} {v v1 : Mv} {w : Mw} {a k ci : Nat} {fs : List Fk} {x : Int32} {lo hi : Int} {b : Bool} (h : Ok G v w) (e : v1 = stv v a k x) (hG : G a = some (.inl (ci, fs))) (hf : fs[k]? = some (.inl (lo, hi, b))) (hx : Bd x lo hi) : Ok G v1 w := by
  subst e
  refine h.st hG (fun r hr => ?_)
  have e1 : rng (.inl (ci, fs)) k = some (lo, hi, b) := by unfold rng; simp only [hf]
  rw [e1] at hr
  cases hr
  exact hx
theorem Kp.pf {G : Gm} {v0 v v1 : Mv} {a k ci : Nat} {fs : List Fk} {x : Int32} {lo hi : Int} (h : Kp G v0 v) (e : v1 = stv v a k x) (hG : G a = some (.inl (ci, fs))) (hf : fs[k]? = some (.inl (lo, hi, false))) : Kp G v0 v1 := by
  subst e
  refine h.st hG (fun l2 h2 hr => ?_)
  have e1 : rng (.inl (ci, fs)) k = some (lo, hi, false) := by unfold rng; simp only [hf]
  rw [e1] at hr
  cases hr
theorem Ok.fd {G : Gm} {v : Mv} {w : Mw} {a k ci : Nat} {fs : List Fk} {x : Int32} {lo hi : Int} {b : Bool} (h : Ok G v w) (e : x = v a k) (hG : G a = some (.inl (ci, fs))) (hf : fs[k]? = some (.inl (lo, hi, b))) : Bd x lo hi := by
  subst e
  exact h.1 a _ hG k (lo, hi, b) (by unfold rng; simp only [hf])
theorem Ok.el {G : Gm} {v : Mv} {w : Mw} (h : Ok G v w) {a t n : Nat} {L : List Nat} (hG : G a = some (.inr (t, n, .inr L))) {i : Int32} (hi : vp_in i n) : ∃ b, b ∈ L ∧ w.2 a i.toNatClampNeg = some b := (h.2 a t n L hG _ (Nat.not_le.mp fun q => hi (Or.inr q))).imp fun _ q => ⟨q.1, q.2.1⟩
def rgP (g : Nat → Int × Int × Bool) (a n : Nat) (L U : Int) : Bool := (List.range n).all (fun j => decide ((g (a + j)).1 ≤ L) && decide (U ≤ (g (a + j)).2.1))
theorem Ok.sw {G : Gm} {v : Mv} {w : Mw} (h : Ok G v w) {a t n : Nat} {g : Nat → Int × Int × Bool} (hG : G a = some (.inr (t, n, .inl g))) {i x : Int32} {lo hi L U : Int} (hi0 : Bd i lo hi) (hx : Bd x L U) (lo' k : Nat) (hs : (lo' : Int) ≤ lo ∧ hi < (lo' + k : Nat) ∧ lo' + k ≤ n) (hg : rgP g lo' k L U = true) : Ok G (stv v a i.toNatClampNeg x) w := by
  refine h.st hG (fun r hr => ?_)
  obtain ⟨h1, h2⟩ := hi0
  obtain ⟨s1, s2, s3⟩ := hs
  have e : i.toNatClampNeg = i.toInt.toNat := rfl
  have hj : i.toInt.toNat - lo' < k := by omega
  have h3 := List.all_eq_true.mp hg (i.toInt.toNat - lo') (List.mem_range.mpr hj)
  rw [show lo' + (i.toInt.toNat - lo') = i.toInt.toNat by omega] at h3
  simp only [Bool.and_eq_true, decide_eq_true_eq] at h3
  rw [e] at hr
  have hr : (if i.toInt.toNat < n then some (g i.toInt.toNat) else none) = some r := hr
  rw [if_pos (by omega)] at hr
  have hr := Option.some.inj hr
  rw [← hr]
  exact ⟨Int.le_trans h3.1 hx.1, Int.le_trans hx.2 h3.2⟩
/-- counters: up to C, down to C -/
def Mu (x : Int32) (C : Int) (n : Nat) : Prop := C - x.toInt < (n : Int)
def Md (x : Int32) (C : Int) (n : Nat) : Prop := x.toInt - C < (n : Int)
theorem Mu.start {x : Int32} {C a b : Int} (n : Nat) (hx : Bd x a b) (h : C - a < (n : Int)) : Mu x C n := by have := hx.1; unfold Mu; omega
theorem Md.start {x : Int32} {C a b : Int} (n : Nat) (hx : Bd x a b) (h : b - C < (n : Int)) : Md x C n := by have := hx.2; unfold Md; omega
theorem Mu.zero {x : Int32} {C a b : Int} {P : Prop} (h : Mu x C 0) (hx : Bd x a b) (hb : b ≤ C) : P := by have := hx.2; unfold Mu at h; omega
theorem Md.zero {x : Int32} {C a b : Int} {P : Prop} (h : Md x C 0) (hx : Bd x a b) (hb : C ≤ a) : P := by have := hx.1; unfold Md at h; omega
theorem Mu.step {x z d : Int32} {C a b c1 c2 : Int} {n : Nat} (h : Mu x C (n + 1)) (e : z = x + d) (hx : Bd x a b) (hd : Bd d c1 c2) (hb : I0 ≤ a + c1 ∧ b + c2 ≤ I1 ∧ 1 ≤ c1) : Mu z C n := by
  have h3 := (Bd.add e hx hd ⟨hb.1, hb.2.1⟩)
  obtain ⟨h1, h2⟩ := hx; obtain ⟨h4, h5⟩ := hd; obtain ⟨b1, b2, b3⟩ := hb; unfold I0 at b1; unfold I1 at b2
  have e2 : z.toInt = x.toInt + d.toInt := by rw [e]; exact fb_addI (by omega) (by omega)
  unfold Mu at *
  omega
theorem Md.step {x z d : Int32} {C a b c1 c2 : Int} {n : Nat} (h : Md x C (n + 1)) (e : z = x + d) (hx : Bd x a b) (hd : Bd d c1 c2) (hb : I0 ≤ a + c1 ∧ b + c2 ≤ I1 ∧ c2 ≤ -1) : Md z C n := by
  obtain ⟨h1, h2⟩ := hx; obtain ⟨h4, h5⟩ := hd; obtain ⟨b1, b2, b3⟩ := hb; unfold I0 at b1; unfold I1 at b2
  have e2 : z.toInt = x.toInt + d.toInt := by rw [e]; exact fb_addI (by omega) (by omega)
  unfold Md at *
  omega
section JN
variable {p : Program} {l : Launch} {e : Env} {R : Room} {s : State} {m : MethodId} {args : Array Value} {below : List Frame} {meth : Method} {c : Code} {cells slots : Nat} {Q : State → Prop} {D : va_G} {dA : Nat → ClassId} {G : Gm} {A : Nat → Prop} {H0 : Heap} {nL : Nat} {cc : ByteArray} {own : String} {v : Mv} {w : Mw} {lv lv' : List (Nat × Value)} {pc : Nat} {st : List Value}
theorem J_getI (E : Cx p R s m meth c cells slots cc nL own D dA G A) {C : String} {T : u_T} {N ci index : Nat} {fs : List Fk} {a : Nat} (hin : ∀ w ∈ u_ws C T N, w ∈ lw_tbl) (hc : classes[ci]? = some (C, T, N)) (hG : G a = some (.inl (ci, fs))) (k : Nat) (hk : k < N) (hl0 : Cond.fieldLink own index (T k).1 (T k).2.1 (T k).2.2.1 ∈ lw_tbl) {b : Int × Int × Bool} (hf : fs[k]? = some (.inl b)) (hd : decode cc pc = .ok (.getfield index, 3)) (K : ∀ x : Int32, x = v a k → J p l e R s m args below meth c cells slots Q D dA G A H0 nL v w lv (pc + 3) (.int x :: st)) : J p l e R s m args below meth c cells slots Q D dA G A H0 nL v w lv (pc) (.ref a :: st) := J_get E hin hc hG k hk hl0 hd (by rw [hf]; exact K _ rfl)
theorem J_getL (E : Cx p R s m meth c cells slots cc nL own D dA G A) {C : String} {T : u_T} {N ci index : Nat} {fs : List Fk} {a : Nat} (hin : ∀ w ∈ u_ws C T N, w ∈ lw_tbl) (hc : classes[ci]? = some (C, T, N)) (hG : G a = some (.inl (ci, fs))) (k : Nat) (hk : k < N) (hl0 : Cond.fieldLink own index (T k).1 (T k).2.1 (T k).2.2.1 ∈ lw_tbl) (hf : fs[k]? = some (.inr (.inl ()))) (hd : decode cc pc = .ok (.getfield index, 3)) (K : ∀ x : Int64, x = w.1 a k → J p l e R s m args below meth c cells slots Q D dA G A H0 nL v w lv (pc + 3) (.long x :: st)) : J p l e R s m args below meth c cells slots Q D dA G A H0 nL v w lv (pc) (.ref a :: st) := J_get E hin hc hG k hk hl0 hd (by rw [hf]; exact K _ rfl)
theorem J_getR (E : Cx p R s m meth c cells slots cc nL own D dA G A) {C : String} {T : u_T} {N ci index : Nat} {fs : List Fk} {a : Nat} (hin : ∀ w ∈ u_ws C T N, w ∈ lw_tbl) (hc : classes[ci]? = some (C, T, N)) (hG : G a = some (.inl (ci, fs))) (k : Nat) (hk : k < N) (hl0 : Cond.fieldLink own index (T k).1 (T k).2.1 (T k).2.2.1 ∈ lw_tbl) {b : Nat} (hf : fs[k]? = some (.inr (.inr (some b)))) (hd : decode cc pc = .ok (.getfield index, 3)) (K : J p l e R s m args below meth c cells slots Q D dA G A H0 nL v w lv (pc + 3) (.ref b :: st)) : J p l e R s m args below meth c cells slots Q D dA G A H0 nL v w lv (pc) (.ref a :: st) := J_get E hin hc hG k hk hl0 hd (by rw [hf]; exact K)
theorem J_pI (E : Cx p R s m meth c cells slots cc nL own D dA G A) {C : String} {T : u_T} {N ci index : Nat} {fs : List Fk} {a : Nat} (hin : ∀ w ∈ u_ws C T N, w ∈ lw_tbl) (hc : classes[ci]? = some (C, T, N)) (hG : G a = some (.inl (ci, fs))) (k : Nat) (hk : k < N) (hl0 : Cond.fieldLink own index (T k).1 (T k).2.1 (T k).2.2.1 ∈ lw_tbl) (ty0 : Nat → FieldType) (hty : ∀ k, k < N → parseFieldDescriptor (T k).2.2.1 = some (ty0 k)) (hnm : ∀ a, a < N → ∀ b, b < N → a ≠ b → (T a).2.1 ≠ (T b).2.1) (hfin : (T k).2.2.2 = false) {x : Int32} {b : Int × Int × Bool} (hf : fs[k]? = some (.inl b)) (ty : FieldType) (hty0 : parseFieldDescriptor (T k).2.2.1 = some ty) (hn : narrow ty (.int x) = .int x) (hfit : fits ty (.int x) = true) (hd : decode cc pc = .ok (.putfield index, 3)) (K : ∀ v1 : Mv, v1 = stv v a k x → J p l e R s m args below meth c cells slots Q D dA G A H0 nL v1 w lv (pc + 3) (st)) : J p l e R s m args below meth c cells slots Q D dA G A H0 nL v w lv (pc) (.int x :: .ref a :: st) := J_putI E hin hc hG k hk hl0 ty0 hty hnm hfin hf ty hty0 hn hfit hd (K _ rfl)
theorem J_pL (E : Cx p R s m meth c cells slots cc nL own D dA G A) {C : String} {T : u_T} {N ci index : Nat} {fs : List Fk} {a : Nat} (hin : ∀ w ∈ u_ws C T N, w ∈ lw_tbl) (hc : classes[ci]? = some (C, T, N)) (hG : G a = some (.inl (ci, fs))) (k : Nat) (hk : k < N) (hl0 : Cond.fieldLink own index (T k).1 (T k).2.1 (T k).2.2.1 ∈ lw_tbl) (ty0 : Nat → FieldType) (hty : ∀ k, k < N → parseFieldDescriptor (T k).2.2.1 = some (ty0 k)) (hnm : ∀ a, a < N → ∀ b, b < N → a ≠ b → (T a).2.1 ≠ (T b).2.1) (hfin : (T k).2.2.2 = false) {x : Int64} (hf : fs[k]? = some (.inr (.inl ()))) (ty : FieldType) (hty0 : parseFieldDescriptor (T k).2.2.1 = some ty) (hn : narrow ty (.long x) = .long x) (hfit : fits ty (.long x) = true) (hd : decode cc pc = .ok (.putfield index, 3)) (K : ∀ w1 : Mw, w1 = stw w a k x → J p l e R s m args below meth c cells slots Q D dA G A H0 nL v w1 lv (pc + 3) (st)) : J p l e R s m args below meth c cells slots Q D dA G A H0 nL v w lv (pc) (.long x :: .ref a :: st) := J_putL E hin hc hG k hk hl0 ty0 hty hnm hfin hf ty hty0 hn hfit hd (K _ rfl)
theorem J_getIN (E : Cx p R s m meth c cells slots cc nL own D dA G A) {C : String} {T : u_T} {N ci index : Nat} {fs : List Fk} {a : Nat} (hin : ∀ w ∈ u_ws C T N, w ∈ lw_tbl) (hc : classes[ci]? = some (C, T, N)) (hG : G a = some (.inl (ci, fs))) (k : Nat) (hk : k < N) {host : String} (hl0 : Cond.fieldLinkNest own index (T k).1 (T k).2.1 (T k).2.2.1 host ∈ lw_tbl) {b : Int × Int × Bool} (hf : fs[k]? = some (.inl b)) (hd : decode cc pc = .ok (.getfield index, 3)) (K : ∀ x : Int32, x = v a k → J p l e R s m args below meth c cells slots Q D dA G A H0 nL v w lv (pc + 3) (.int x :: st)) : J p l e R s m args below meth c cells slots Q D dA G A H0 nL v w lv (pc) (.ref a :: st) := J_getN E hin hc hG k hk hl0 hd (by rw [hf]; exact K _ rfl)
theorem J_getLN (E : Cx p R s m meth c cells slots cc nL own D dA G A) {C : String} {T : u_T} {N ci index : Nat} {fs : List Fk} {a : Nat} (hin : ∀ w ∈ u_ws C T N, w ∈ lw_tbl) (hc : classes[ci]? = some (C, T, N)) (hG : G a = some (.inl (ci, fs))) (k : Nat) (hk : k < N) {host : String} (hl0 : Cond.fieldLinkNest own index (T k).1 (T k).2.1 (T k).2.2.1 host ∈ lw_tbl) (hf : fs[k]? = some (.inr (.inl ()))) (hd : decode cc pc = .ok (.getfield index, 3)) (K : ∀ x : Int64, x = w.1 a k → J p l e R s m args below meth c cells slots Q D dA G A H0 nL v w lv (pc + 3) (.long x :: st)) : J p l e R s m args below meth c cells slots Q D dA G A H0 nL v w lv (pc) (.ref a :: st) := J_getN E hin hc hG k hk hl0 hd (by rw [hf]; exact K _ rfl)
theorem J_getRN (E : Cx p R s m meth c cells slots cc nL own D dA G A) {C : String} {T : u_T} {N ci index : Nat} {fs : List Fk} {a : Nat} (hin : ∀ w ∈ u_ws C T N, w ∈ lw_tbl) (hc : classes[ci]? = some (C, T, N)) (hG : G a = some (.inl (ci, fs))) (k : Nat) (hk : k < N) {host : String} (hl0 : Cond.fieldLinkNest own index (T k).1 (T k).2.1 (T k).2.2.1 host ∈ lw_tbl) {b : Nat} (hf : fs[k]? = some (.inr (.inr (some b)))) (hd : decode cc pc = .ok (.getfield index, 3)) (K : J p l e R s m args below meth c cells slots Q D dA G A H0 nL v w lv (pc + 3) (.ref b :: st)) : J p l e R s m args below meth c cells slots Q D dA G A H0 nL v w lv (pc) (.ref a :: st) := J_getN E hin hc hG k hk hl0 hd (by rw [hf]; exact K)
theorem J_pIN (E : Cx p R s m meth c cells slots cc nL own D dA G A) {C : String} {T : u_T} {N ci index : Nat} {fs : List Fk} {a : Nat} (hin : ∀ w ∈ u_ws C T N, w ∈ lw_tbl) (hc : classes[ci]? = some (C, T, N)) (hG : G a = some (.inl (ci, fs))) (k : Nat) (hk : k < N) {host : String} (hl0 : Cond.fieldLinkNest own index (T k).1 (T k).2.1 (T k).2.2.1 host ∈ lw_tbl) (ty0 : Nat → FieldType) (hty : ∀ k, k < N → parseFieldDescriptor (T k).2.2.1 = some (ty0 k)) (hnm : ∀ a, a < N → ∀ b, b < N → a ≠ b → (T a).2.1 ≠ (T b).2.1) (hfin : (T k).2.2.2 = false) {x : Int32} {b : Int × Int × Bool} (hf : fs[k]? = some (.inl b)) (ty : FieldType) (hty0 : parseFieldDescriptor (T k).2.2.1 = some ty) (hn : narrow ty (.int x) = .int x) (hfit : fits ty (.int x) = true) (hd : decode cc pc = .ok (.putfield index, 3)) (K : ∀ v1 : Mv, v1 = stv v a k x → J p l e R s m args below meth c cells slots Q D dA G A H0 nL v1 w lv (pc + 3) (st)) : J p l e R s m args below meth c cells slots Q D dA G A H0 nL v w lv (pc) (.int x :: .ref a :: st) := J_putIN E hin hc hG k hk hl0 ty0 hty hnm hfin hf ty hty0 hn hfit hd (K _ rfl)
theorem J_pLN (E : Cx p R s m meth c cells slots cc nL own D dA G A) {C : String} {T : u_T} {N ci index : Nat} {fs : List Fk} {a : Nat} (hin : ∀ w ∈ u_ws C T N, w ∈ lw_tbl) (hc : classes[ci]? = some (C, T, N)) (hG : G a = some (.inl (ci, fs))) (k : Nat) (hk : k < N) {host : String} (hl0 : Cond.fieldLinkNest own index (T k).1 (T k).2.1 (T k).2.2.1 host ∈ lw_tbl) (ty0 : Nat → FieldType) (hty : ∀ k, k < N → parseFieldDescriptor (T k).2.2.1 = some (ty0 k)) (hnm : ∀ a, a < N → ∀ b, b < N → a ≠ b → (T a).2.1 ≠ (T b).2.1) (hfin : (T k).2.2.2 = false) {x : Int64} (hf : fs[k]? = some (.inr (.inl ()))) (ty : FieldType) (hty0 : parseFieldDescriptor (T k).2.2.1 = some ty) (hn : narrow ty (.long x) = .long x) (hfit : fits ty (.long x) = true) (hd : decode cc pc = .ok (.putfield index, 3)) (K : ∀ w1 : Mw, w1 = stw w a k x → J p l e R s m args below meth c cells slots Q D dA G A H0 nL v w1 lv (pc + 3) (st)) : J p l e R s m args below meth c cells slots Q D dA G A H0 nL v w lv (pc) (.long x :: .ref a :: st) := J_putLN E hin hc hG k hk hl0 ty0 hty hnm hfin hf ty hty0 hn hfit hd (K _ rfl)
theorem J_iald1 (E : Cx p R s m meth c cells slots cc nL own D dA G A) {n : Nat} {g : Nat → Int × Int × Bool} {a : Nat} {i : Int32} (hG : G a = some (.inr (0, n, .inl g))) (hi : vp_in i n) (hd : decode cc pc = .ok (.iaload, 1)) (K : ∀ x : Int32, x = v a i.toNatClampNeg → J p l e R s m args below meth c cells slots Q D dA G A H0 nL v w lv (pc + 1) (.int x :: st)) : J p l e R s m args below meth c cells slots Q D dA G A H0 nL v w lv (pc) (.int i :: .ref a :: st) := J_iald E hG hi hd (K _ rfl)
theorem J_bald1 (E : Cx p R s m meth c cells slots cc nL own D dA G A) {n : Nat} {g : Nat → Int × Int × Bool} {a : Nat} {i : Int32} (hG : G a = some (.inr (1, n, .inl g))) (hi : vp_in i n) (hd : decode cc pc = .ok (.baload, 1)) (K : ∀ x : Int32, x = v a i.toNatClampNeg → J p l e R s m args below meth c cells slots Q D dA G A H0 nL v w lv (pc + 1) (.int x :: st)) : J p l e R s m args below meth c cells slots Q D dA G A H0 nL v w lv (pc) (.int i :: .ref a :: st) := J_bald E hG hi hd (K _ rfl)
theorem J_zald1 (E : Cx p R s m meth c cells slots cc nL own D dA G A) {n : Nat} {g : Nat → Int × Int × Bool} {a : Nat} {i : Int32} (hG : G a = some (.inr (2, n, .inl g))) (hi : vp_in i n) (hd : decode cc pc = .ok (.baload, 1)) (K : ∀ x : Int32, x = v a i.toNatClampNeg → J p l e R s m args below meth c cells slots Q D dA G A H0 nL v w lv (pc + 1) (.int x :: st)) : J p l e R s m args below meth c cells slots Q D dA G A H0 nL v w lv (pc) (.int i :: .ref a :: st) := J_zald E hG hi hd (K _ rfl)
theorem J_iast1 (E : Cx p R s m meth c cells slots cc nL own D dA G A) {n : Nat} {g : Nat → Int × Int × Bool} {a : Nat} {i x : Int32} (hG : G a = some (.inr (0, n, .inl g))) (hi : vp_in i n) (hd : decode cc pc = .ok (.iastore, 1)) (K : ∀ v1 : Mv, v1 = stv v a i.toNatClampNeg (x) → J p l e R s m args below meth c cells slots Q D dA G A H0 nL v1 w lv (pc + 1) (st)) : J p l e R s m args below meth c cells slots Q D dA G A H0 nL v w lv (pc) (.int x :: .int i :: .ref a :: st) := J_iast E hG hi hd (K _ rfl)
theorem J_bast1 (E : Cx p R s m meth c cells slots cc nL own D dA G A) {n : Nat} {g : Nat → Int × Int × Bool} {a : Nat} {i x : Int32} (hG : G a = some (.inr (1, n, .inl g))) (hi : vp_in i n) (hd : decode cc pc = .ok (.bastore, 1)) (K : ∀ v1 : Mv, v1 = stv v a i.toNatClampNeg (vp_nar .byte x) → J p l e R s m args below meth c cells slots Q D dA G A H0 nL v1 w lv (pc + 1) (st)) : J p l e R s m args below meth c cells slots Q D dA G A H0 nL v w lv (pc) (.int x :: .int i :: .ref a :: st) := J_bast E hG hi hd (K _ rfl)
theorem J_zast1 (E : Cx p R s m meth c cells slots cc nL own D dA G A) {n : Nat} {g : Nat → Int × Int × Bool} {a : Nat} {i x : Int32} (hG : G a = some (.inr (2, n, .inl g))) (hi : vp_in i n) (hd : decode cc pc = .ok (.bastore, 1)) (K : ∀ v1 : Mv, v1 = stv v a i.toNatClampNeg (vp_nar .boolean x) → J p l e R s m args below meth c cells slots Q D dA G A H0 nL v1 w lv (pc + 1) (st)) : J p l e R s m args below meth c cells slots Q D dA G A H0 nL v w lv (pc) (.int x :: .int i :: .ref a :: st) := J_zast E hG hi hd (K _ rfl)
end JN
