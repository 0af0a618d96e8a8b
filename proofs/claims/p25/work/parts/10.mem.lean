/-! MEMORY AS FUNCTIONS: ints by address and place; longs, and what arrays of references hold, likewise; the references in fields never move (they are in the shapes). -/
abbrev Mv : Type := Nat → Nat → Int32
abbrev Mw : Type := (Nat → Nat → Int64) × (Nat → Nat → Option Nat)
/-- a field: an int within bounds (true: kept), a long, a reference (or null) that stays -/
abbrev Fk : Type := (Int × Int × Bool) ⊕ (Unit ⊕ Option Nat)
/-- a cell: an object (number of its class, its fields), or an array (number of its type, length; ints with bounds by place, or references out of a list) -/
abbrev Sh : Type := (Nat × List Fk) ⊕ (Nat × Nat × ((Nat → Int × Int × Bool) ⊕ List Nat))
abbrev Gm : Type := Nat → Option Sh
abbrev fi (lo hi : Int) : Fk := .inl (lo, hi, false)
abbrev fq (lo hi : Int) : Fk := .inl (lo, hi, true)
abbrev fl : Fk := .inr (.inl ())
abbrev fr (b : Nat) : Fk := .inr (.inr (some b))
abbrev f0 : Fk := .inr (.inr none)
abbrev I0 : Int := -2147483648
abbrev I1 : Int := 2147483647
def fv (v : Mv) (w : Mw) (a k : Nat) (f : Option Fk) : Value := match f with
  | some (.inl _) => .int (v a k)
  | some (.inr (.inl _)) => .long (w.1 a k)
  | some (.inr (.inr b)) => va_rf b
  | none => .null
abbrev classes : List vw_C := [(RX0, TX0, 2), (RX1, TX1, 3), (RX2, TX2, 4), (RX3, TX3, 7), (RX4, TX4, 3), (RX4, TX4, 3), (RX6, TX6, 12), (RX7, TX7, 12), (RX8, TX8, 17)]
abbrev tysA (dA : Nat → ClassId) : List (ClassId × FieldType) := [(dA 0, .int), (dA 1, .byte), (dA 2, .boolean), (dA 3, .object RX6), (dA 4, .object RX2)]
/-- what the heap holds at an address, by its shape -/
def Hc (D : va_G) (dA : Nat → ClassId) (v : Mv) (w : Mw) (H : Heap) (a : Nat) (sh : Sh) : Prop := match sh with
  | .inl (ci, fs) => ∃ r : vw_C, classes[ci]? = some r ∧ t_OB a (D.1 ci) r.2.2 (D.2 ci) H (fun k => fv v w a k fs[k]?)
  | .inr (t, n, .inl _) => H[a]? = some (arrV (dA t) n (fun j => .int (v a j)))
  | .inr (t, n, .inr _) => H[a]? = some (arrV (dA t) n (fun j => va_rf (w.2 a j)))
def Hp (D : va_G) (dA : Nat → ClassId) (G : Gm) (v : Mv) (w : Mw) (H : Heap) : Prop := ∀ (a : Nat) (sh : Sh), G a = some sh → Hc D dA v w H a sh
/-- the bounds of a place -/
def rng (sh : Sh) (k : Nat) : Option (Int × Int × Bool) := match sh with
  | .inl (_, fs) => match fs[k]? with
    | some (.inl r) => some r
    | _ => none
  | .inr (_, n, .inl g) => if k < n then some (g k) else none
  | .inr (_, _, .inr _) => none
/-- an int within bounds -/
def Bd (x : Int32) (lo hi : Int) : Prop := lo ≤ x.toInt ∧ x.toInt ≤ hi
def Ok (G : Gm) (v : Mv) (w : Mw) : Prop := (∀ (a : Nat) (sh : Sh), G a = some sh → ∀ (k : Nat) (r : Int × Int × Bool), rng sh k = some r → Bd (v a k) r.1 r.2.1) ∧ ∀ (a t n : Nat) (L : List Nat), G a = some (.inr (t, n, .inr L)) → ∀ j, j < n → ∃ b, b ∈ L ∧ w.2 a j = some b ∧ (t = 3 → L[j]? = some b)
/-- the kept places are as they were -/
def Kp (G : Gm) (v v' : Mv) : Prop := ∀ (a : Nat) (sh : Sh), G a = some sh → ∀ (k : Nat) (lo hi : Int), rng sh k = some (lo, hi, true) → v' a k = v a k
theorem Kp.rf {G : Gm} {v : Mv} : Kp G v v := fun _ _ _ _ _ _ _ => rfl
theorem Kp.tr {G : Gm} {v v1 v2 : Mv} (h : Kp G v v1) (h2 : Kp G v1 v2) : Kp G v v2 := fun a sh ha k lo hi hr => (h2 a sh ha k lo hi hr).trans (h a sh ha k lo hi hr)
/-- a store -/
def stv (v : Mv) (a k : Nat) (x : Int32) : Mv := fun b j => if b = a ∧ j = k then x else v b j
def stw (w : Mw) (a k : Nat) (x : Int64) : Mw := (fun b j => if b = a ∧ j = k then x else w.1 b j, w.2)
def stu (w : Mw) (a k : Nat) (x : Option Nat) : Mw := (w.1, fun b j => if b = a ∧ j = k then x else w.2 b j)
theorem stv_s {v : Mv} {a k : Nat} {x : Int32} : stv v a k x a k = x := if_pos ⟨rfl, rfl⟩
theorem stv_k {v : Mv} {a k : Nat} {x : Int32} {b j : Nat} (h : j ≠ k) : stv v a k x b j = v b j := if_neg (fun q => h q.2)
theorem stv_a {v : Mv} {a k : Nat} {x : Int32} {b j : Nat} (h : b ≠ a) : stv v a k x b j = v b j := if_neg (fun q => h q.1)
theorem stw_s {w : Mw} {a k : Nat} {x : Int64} : (stw w a k x).1 a k = x := if_pos ⟨rfl, rfl⟩
theorem stw_k {w : Mw} {a k : Nat} {x : Int64} {b j : Nat} (h : j ≠ k) : (stw w a k x).1 b j = w.1 b j := if_neg (fun q => h q.2)
theorem stw_a {w : Mw} {a k : Nat} {x : Int64} {b j : Nat} (h : b ≠ a) : (stw w a k x).1 b j = w.1 b j := if_neg (fun q => h q.1)
theorem stu_s {w : Mw} {a k : Nat} {x : Option Nat} : (stu w a k x).2 a k = x := if_pos ⟨rfl, rfl⟩
theorem stu_k {w : Mw} {a k : Nat} {x : Option Nat} {b j : Nat} (h : j ≠ k) : (stu w a k x).2 b j = w.2 b j := if_neg (fun q => h q.2)
theorem stu_a {w : Mw} {a k : Nat} {x : Option Nat} {b j : Nat} (h : b ≠ a) : (stu w a k x).2 b j = w.2 b j := if_neg (fun q => h q.1)
theorem Ok.stw {G : Gm} {v : Mv} {w : Mw} (h : Ok G v w) (a k : Nat) (x : Int64) : Ok G v (stw w a k x) := ⟨h.1, h.2⟩
theorem Ok.stu {G : Gm} {v : Mv} {w : Mw} (h : Ok G v w) {a k t n x : Nat} {L : List Nat} (ha : G a = some (.inr (t, n, .inr L))) (hx : x ∈ L) (ht : ¬ t = 3) : Ok G v (stu w a k (some x)) := by
  refine ⟨h.1, fun b t' n' L' hb j hj => ?_⟩
  by_cases hq : b = a ∧ j = k
  · obtain ⟨rfl, rfl⟩ := hq
    rw [ha] at hb
    cases hb
    exact ⟨x, hx, stu_s, fun q => absurd q ht⟩
  · obtain ⟨y, h1, h2, h3⟩ := h.2 b t' n' L' hb j hj
    refine ⟨y, h1, ?_, h3⟩
    show (if b = a ∧ j = k then some x else w.2 b j) = some y
    rw [if_neg hq]
    exact h2
theorem Ok.st {G : Gm} {v : Mv} {w : Mw} (h : Ok G v w) {a k : Nat} {x : Int32} {sh : Sh} (ha : G a = some sh) (hb : ∀ r, rng sh k = some r → Bd x r.1 r.2.1) : Ok G (stv v a k x) w := by
  refine ⟨?_, h.2⟩
  intro b sh' hb' j r hr
  by_cases hq : b = a ∧ j = k
  · obtain ⟨rfl, rfl⟩ := hq
    rw [stv_s]
    rw [ha] at hb'
    cases hb'
    exact hb r hr
  · unfold stv
    rw [if_neg hq]
    exact h.1 b sh' hb' j r hr
theorem Kp.st {G : Gm} {v0 v : Mv} (h : Kp G v0 v) {a k : Nat} {x : Int32} {sh : Sh} (ha : G a = some sh) (hb : ∀ lo hi, rng sh k ≠ some (lo, hi, true)) : Kp G v0 (stv v a k x) := by
  intro b sh' hb' j lo hi hr
  by_cases hq : b = a ∧ j = k
  · obtain ⟨rfl, rfl⟩ := hq
    rw [ha] at hb'
    cases hb'
    exact absurd hr (hb lo hi)
  · unfold stv
    rw [if_neg hq]
    exact h b sh' hb' j lo hi hr
/-- another cell of the heap changes not -/
theorem Hc.kept {D : va_G} {dA : Nat → ClassId} {v v' : Mv} {w w' : Mw} {H H1 : Heap} {a : Nat} {sh : Sh} (h : Hc D dA v w H a sh) (hq : H1[a]? = H[a]?) (hv : ∀ k, v' a k = v a k) (hw : ∀ k, w'.1 a k = w.1 a k) (hu : ∀ k, w'.2 a k = w.2 a k) : Hc D dA v' w' H1 a sh := by
  rcases sh with ⟨ci, fs⟩ | ⟨t, n, g | g⟩
  · obtain ⟨r, h1, h2⟩ := h
    refine ⟨r, h1, (h2.kept hq).to (fun k _ => ?_)⟩
    rcases fs[k]? with _ | f
    · rfl
    · rcases f with f | f | f
      · show Value.int _ = Value.int _
        rw [hv]
      · show Value.long _ = Value.long _
        rw [hw]
      · rfl
  · have h : H[a]? = some (arrV (dA t) n (fun j => .int (v a j))) := h
    show H1[a]? = some (arrV (dA t) n (fun j => .int (v' a j)))
    rw [hq, h]
    congr 2
    funext j
    rw [hv]
  · have h : H[a]? = some (arrV (dA t) n (fun j => va_rf (w.2 a j))) := h
    show H1[a]? = some (arrV (dA t) n (fun j => va_rf (w'.2 a j)))
    rw [hq, h]
    congr 2
    funext j
    rw [hu]
