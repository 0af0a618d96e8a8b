/-! WHAT CLASS AND REFERENCE SHARE BETWEEN TWO CALLS: the worlds -/
def b9 (n : Int) (j : Nat) : Int × Int := if j = 0 then (0, n - 1) else if j = 1 then (0, 99) else if j = 2 then (0, 60) else (0, 1)
def b10 (n : Int) (j : Nat) : Int × Int := if j = 0 then (0, n - 1) else if j = 1 then (1, 30) else (0, 99)
def b11 (n : Int) (j : Nat) : Int × Int := if j = 0 then (0, n - 1) else if j = 1 then (1, 9) else (0, 99)
/-- a list of fours -/
def RR (G : Gm) (A : Nat) (c u : Mv) (h i j n : Nat) (B : Nat → Int × Int) : Prop := (c h 2 = u A i ∧ Bd (c h 2) 0 n) ∧ ∀ t, t < 4 * nn (c h 2) → c (rf G h 1) t = u A (j + t) ∧ Bd (c (rf G h 1) t) (B (t % 4)).1 (B (t % 4)).2
def RW (G : Gm) (A : Nat) (c u : Mv) (a o : Nat) : Prop := RB G A c u a o ∧ RR G A c u (rf G a 9) (o + 2) (o + 50) 5 (b9 (c a 3).toInt) ∧ RR G A c u (rf G a 10) (o + 3) (o + 70) 6 (b10 (c a 0).toInt) ∧ RR G A c u (rf G a 11) (o + 4) (o + 94) 6 (b11 (c a 3).toInt)
section RWS
variable {G : Gm} {w : Mw} {A a b h h' i i' j j' n o o' ha : Nat} {B B' : Nat → Int × Int} {c u c' u' : Mv}
theorem AR.tr2 {f g f' g' : Nat → Int32} {lo hi : Int} {P P' : Nat} (q : AR n f g P lo hi) (hf : ∀ t, t < n → f' t = f t) (hg : ∀ t, t < n → g' (P' + t) = g (P + t)) : AR n f' g' P' lo hi := fun t ht => by
  rw [hf t ht, hg t ht]
  exact q t ht
theorem RR.tr (q : RR G A c u h i j n B) (h1 : c' h' 2 = c h 2) (h2 : ∀ t, t < 4 * nn (c h 2) → c' (rf G h' 1) t = c (rf G h 1) t) (h3 : u' A i' = u A i) (h4 : ∀ t, t < 4 * n → u' A (j' + t) = u A (j + t)) : RR G A c' u' h' i' j' n B := by
  obtain ⟨⟨q1, q2⟩, q3⟩ := q
  have hn : nn (c h 2) ≤ n := nn_le q2
  refine ⟨⟨by rw [h1, h3]; exact q1, by rw [h1]; exact q2⟩, fun t ht => ?_⟩
  rw [h1] at ht
  rw [h2 t ht, h4 t (by omega)]
  exact q3 t ht
theorem RR.wk (q : RR G A c u h i j n B) (hB : ∀ m, m < 4 → (B' m).1 ≤ (B m).1 ∧ (B m).2 ≤ (B' m).2) : RR G A c u h i j n B' := ⟨q.1, fun t ht => ⟨(q.2 t ht).1, (q.2 t ht).2.w _ _ (hB (t % 4) (Nat.mod_lt _ (by omega)))⟩⟩
theorem RR.zero (h1 : c h 2 = 0) (h2 : u A i = 0) : RR G A c u h i j n B := by
  have h0 : (0 : Int32).toInt = 0 := by decide
  refine ⟨⟨h1.trans h2.symm, by rw [h1]; exact ⟨by rw [h0]; omega, by rw [h0]; omega⟩⟩, fun t ht => ?_⟩
  have : nn (c h 2) = 0 := by rw [h1]; rfl
  omega
theorem nnS {x : Int32} {m : Nat} (q : Bd x 0 m) (hm : m ≤ 100) : nn (x + 1) = nn x + 1 ∧ Bd (x + 1) 0 (m + 1 : Nat) := by
  have e := i_add1 q (by decide) (by omega)
  obtain ⟨h1, h2⟩ := q
  exact ⟨by show (x + 1).toInt.toNat = _; rw [e]; show (x.toInt + 1).toNat = x.toInt.toNat + 1; omega, ⟨by rw [e]; omega, by rw [e]; omega⟩⟩
theorem RR.push {x : Nat → Int32} {m : Nat} (q : RR G A c u h i j (m + 1) B) (hm : m ≤ 100) (hn : Bd (c h 2) 0 m) (hx : ∀ k, k < 4 → Bd (x k) (B k).1 (B k).2) (h1 : c' h 2 = c h 2 + 1) (h3 : u' A i = c h 2 + 1) (h2 : ∀ t, t < 4 * nn (c h 2) → c' (rf G h 1) t = c (rf G h 1) t) (h2n : ∀ k, k < 4 → c' (rf G h 1) (4 * nn (c h 2) + k) = x k) (h4 : ∀ t, t < 4 * nn (c h 2) → u' A (j + t) = u A (j + t)) (h4n : ∀ k, k < 4 → u' A (j + (4 * nn (c h 2) + k)) = x k) : RR G A c' u' h i j (m + 1) B := by
  obtain ⟨⟨q1, q2⟩, q3⟩ := q
  obtain ⟨n1, n2⟩ := nnS hn hm
  refine ⟨⟨by rw [h1, h3], by rw [h1]; exact n2⟩, fun t ht => ?_⟩
  rw [h1, n1] at ht
  rcases Nat.lt_or_ge t (4 * nn (c h 2)) with z | z
  · rw [h2 t z, h4 t z]
    exact q3 t z
  · obtain ⟨k, hk⟩ : ∃ k, t = 4 * nn (c h 2) + k := ⟨t - 4 * nn (c h 2), by omega⟩
    have hk4 : k < 4 := by omega
    have hm4 : t % 4 = k := by omega
    rw [hm4, hk, h2n k hk4, h4n k hk4]
    exact ⟨rfl, hx k hk4⟩
theorem RW.tr (q : RW G A c u b o) (h0 : c' a 0 = c b 0 ∧ c' a 3 = c b 3) (h1 : ∀ t, t < 7 → c' (rf G a 1) t = c (rf G b 1) t ∧ c' (rf G a 2) t = c (rf G b 2) t ∧ c' (rf G a 4) t = c (rf G b 4) t ∧ c' (rf G a 5) t = c (rf G b 5) t) (h9 : c' (rf G a 9) 2 = c (rf G b 9) 2 ∧ ∀ t, t < 4 * nn (c (rf G b 9) 2) → c' (rf G (rf G a 9) 1) t = c (rf G (rf G b 9) 1) t) (h10 : c' (rf G a 10) 2 = c (rf G b 10) 2 ∧ ∀ t, t < 4 * nn (c (rf G b 10) 2) → c' (rf G (rf G a 10) 1) t = c (rf G (rf G b 10) 1) t) (h11 : c' (rf G a 11) 2 = c (rf G b 11) 2 ∧ ∀ t, t < 4 * nn (c (rf G b 11) 2) → c' (rf G (rf G a 11) 1) t = c (rf G (rf G b 11) 1) t) (hu : ∀ k, k < 118 → k ≠ 5 → (k < 34 ∨ 50 ≤ k) → u' A (o' + k) = u A (o + k)) : RW G A c' u' a o' := by
  obtain ⟨⟨⟨p1, p2⟩, ⟨p3, p4⟩, p5, p6, p7, p8⟩, p9, p10, p11⟩ := q
  have n0 : nn (c b 0) ≤ 7 := nn_le p3
  have n3 : nn (c b 3) ≤ 7 := nn_le p4
  have u0 : u' A o' = u A o := hu 0 (by omega) (by omega) (by omega)
  unfold RW RB
  rw [h0.1, h0.2]
  refine ⟨⟨⟨p1.trans u0.symm, p2.trans (hu 1 (by omega) (by omega) (by omega)).symm⟩, ⟨p3, p4⟩, ?_, ?_, ?_, ?_⟩, ?_, ?_, ?_⟩
  · exact p5.tr2 (fun t ht => (h1 t (by omega)).1) (fun t ht => by rw [Nat.add_assoc, Nat.add_assoc]; exact hu (6 + t) (by omega) (by omega) (by omega))
  · exact p6.tr2 (fun t ht => (h1 t (by omega)).2.1) (fun t ht => by rw [Nat.add_assoc, Nat.add_assoc]; exact hu (13 + t) (by omega) (by omega) (by omega))
  · exact p7.tr2 (fun t ht => (h1 t (by omega)).2.2.1) (fun t ht => by rw [Nat.add_assoc, Nat.add_assoc]; exact hu (20 + t) (by omega) (by omega) (by omega))
  · exact p8.tr2 (fun t ht => (h1 t (by omega)).2.2.2) (fun t ht => by rw [Nat.add_assoc, Nat.add_assoc]; exact hu (27 + t) (by omega) (by omega) (by omega))
  · exact p9.tr h9.1 h9.2 (hu 2 (by omega) (by omega) (by omega)) (fun t ht => by rw [Nat.add_assoc, Nat.add_assoc]; exact hu (50 + t) (by omega) (by omega) (by omega))
  · exact p10.tr h10.1 h10.2 (hu 3 (by omega) (by omega) (by omega)) (fun t ht => by rw [Nat.add_assoc, Nat.add_assoc]; exact hu (70 + t) (by omega) (by omega) (by omega))
  · exact p11.tr h11.1 h11.2 (hu 4 (by omega) (by omega) (by omega)) (fun t ht => by rw [Nat.add_assoc, Nat.add_assoc]; exact hu (94 + t) (by omega) (by omega) (by omega))
/-- a world's cells are as they were -/
theorem RW.out (q : RW G A c u a o) (C : Ch6 G a ha) (hc : ∀ x, a ≤ x → x < ha → c' x = c x) (hu : ∀ k, k < 118 → k ≠ 5 → (k < 34 ∨ 50 ≤ k) → u' A (o + k) = u A (o + k)) : RW G A c' u' a o := by
  obtain ⟨k1, k2, k3, k4, k5, ⟨k6, k7⟩, k8, k9, k10, k11, k12, k13, k14, k15, -⟩ := C
  unfold Ch4 at k10 k12 k14
  have e0 := hc a (by omega) (by omega)
  have e1 := hc (rf G a 1) (by omega) (by omega)
  have e2 := hc (rf G a 2) (by omega) (by omega)
  have e4 := hc (rf G a 4) (by omega) (by omega)
  have e5 := hc (rf G a 5) (by omega) (by omega)
  have e9 := hc (rf G a 9) (by omega) (by omega)
  have e91 := hc (rf G (rf G a 9) 1) (by omega) (by omega)
  have e10 := hc (rf G a 10) (by omega) (by omega)
  have e101 := hc (rf G (rf G a 10) 1) (by omega) (by omega)
  have e11 := hc (rf G a 11) (by omega) (by omega)
  have e111 := hc (rf G (rf G a 11) 1) (by omega) (by omega)
  exact q.tr ⟨by rw [e0], by rw [e0]⟩ (fun t _ => ⟨by rw [e1], by rw [e2], by rw [e4], by rw [e5]⟩) ⟨by rw [e9], fun t _ => by rw [e91]⟩ ⟨by rw [e10], fun t _ => by rw [e101]⟩ ⟨by rw [e11], fun t _ => by rw [e111]⟩ hu
end RWS
def KR (G : Gm) (a7 a8 : Nat) (c u : Mv) : Prop := ∀ i, i < 2 → (bt (c a7 3) i = true ↔ ¬ u (rf G a8 2) i = 0)
def RX (G : Gm) (a7 a8 : Nat) (c u : Mv) : Prop := RW G (rf G a8 1) c u (rf G a7 0) 0 ∧ (∀ (j b : Nat), (rl G (rf G a7 2))[j]? = some b → RW G (rf G a8 1) c u b (246 * (1 + j))) ∧ KR G a7 a8 c u
section RXS
variable {G : Gm} {w : Mw} {a7 a8 h4 : Nat} {c u c' u' : Mv}
theorem ix2 {L : List Nat} {i0 i1 j b : Nat} (hL : L = [i0, i1]) (h : L[j]? = some b) : (j = 0 ∧ b = i0) ∨ (j = 1 ∧ b = i1) := by
  rw [hL] at h
  match j, h with
  | 0, h => exact Or.inl ⟨rfl, (Option.some.inj h).symm⟩
  | 1, h => exact Or.inr ⟨rfl, (Option.some.inj h).symm⟩
  | j + 2, h => simp at h
/-- where the images lie -/
theorem lay_im (C7 : Ch7 G a7 h4) {i b : Nat} (hi : (rl G (rf G a7 2))[i]? = some b) : ∃ hb, Ch6 G b hb ∧ (∃ h2, Ch3 G (rf G a7 1) h2 ∧ rf G a7 1 < h2 ∧ h2 ≤ b) ∧ i < 2 ∧ ∀ (j b' : Nat), (rl G (rf G a7 2))[j]? = some b' → j ≠ i → ∃ hb', Ch6 G b' hb' ∧ (hb ≤ b' ∨ hb' ≤ b) := by
  obtain ⟨h1, h2', h3', i0, i1, q1, q2, q3, q4, q5, q6, q7, q8, q9⟩ := C7
  obtain ⟨d1, d2, d3⟩ := id q4
  have hl : rf G (rf G a7 1) 6 < h2' := by
    obtain ⟨k1, k2, k3, k4, k5, ⟨k6, k7⟩, k8, k9, k10, k11, k12, k13, k14, k15, -⟩ := d3
    unfold Ch4 at k10 k12 k14
    omega
  have hl2 : i0 < h3' := by
    obtain ⟨k1, k2, k3, k4, k5, ⟨k6, k7⟩, k8, k9, k10, k11, k12, k13, k14, k15, -⟩ := id q7
    unfold Ch4 at k10 k12 k14
    omega
  rcases ix2 q5 hi with ⟨e1, e2⟩ | ⟨e1, e2⟩
  · rw [e2, e1]
    refine ⟨h3', q7, ⟨h2', q4, by omega, q6⟩, by omega, fun j b' hj hne => ?_⟩
    rcases ix2 q5 hj with ⟨z1, z2⟩ | ⟨z1, z2⟩
    · omega
    · rw [z2]
      exact ⟨_, q9, Or.inl q8⟩
  · rw [e2, e1]
    refine ⟨_, q9, ⟨h2', q4, by omega, by omega⟩, by omega, fun j b' hj hne => ?_⟩
    rcases ix2 q5 hj with ⟨z1, z2⟩ | ⟨z1, z2⟩
    · rw [z2]
      exact ⟨_, q7, Or.inr q8⟩
    · omega
/-- the world in use has changed alike, the images not -/
theorem RX.stepG (C7 : Ch7 G a7 h4) (h : RX G a7 a8 c u) (hW : RW G (rf G a8 1) c' u' (rf G a7 0) 0) (hc : ∀ (j b : Nat), (rl G (rf G a7 2))[j]? = some b → ∀ x, b ≤ x → c' x = c x) (h3 : c' a7 3 = c a7 3) (hA : ∀ k, 246 ≤ k → k < 738 → u' (rf G a8 1) k = u (rf G a8 1) k) (h2 : u' (rf G a8 2) = u (rf G a8 2)) : RX G a7 a8 c' u' := by
  refine ⟨hW, fun j b hj => ?_, fun i hi => by rw [h3, h2]; exact h.2.2 i hi⟩
  obtain ⟨hb, q1, -, q3, -⟩ := lay_im C7 hj
  exact (h.2.1 j b hj).out q1 (fun x x1 _ => hc j b hj x x1) (fun k k1 k2 k3 => hA _ (by omega) (by omega))
theorem RX.step (C7 : Ch7 G a7 h4) (h : RX G a7 a8 c u) (hW : RW G (rf G a8 1) c' u' (rf G a7 0) 0) (hc : ∀ x, rf G a7 1 ≤ x → c' x = c x) (h3 : c' a7 3 = c a7 3) (hA : ∀ k, 246 ≤ k → k < 738 → u' (rf G a8 1) k = u (rf G a8 1) k) (h2 : u' (rf G a8 2) = u (rf G a8 2)) : RX G a7 a8 c' u' := h.stepG C7 hW (fun j b hj x hx => by
  obtain ⟨hb, q1, ⟨h2, q2, q3, q4⟩, -⟩ := lay_im C7 hj
  exact hc x (by omega)) h3 hA h2
theorem RX.keep (C7 : Ch7 G a7 h4) (h : RX G a7 a8 c u) (hc : ∀ x, a7 < x → c' x = c x) (h3 : c' a7 3 = c a7 3) (hA : u' (rf G a8 1) = u (rf G a8 1)) (h2 : u' (rf G a8 2) = u (rf G a8 2)) : RX G a7 a8 c' u' := by
  obtain ⟨h1, h2', h3', i0, i1, q1, q2, q3, q4, q5, q6, q7, q8, q9⟩ := id C7
  refine h.step C7 (h.1.out q2 (fun x x1 _ => hc x (by omega)) (fun k _ _ _ => by rw [hA])) (fun x hx => hc x ?_) h3 (fun k _ _ => by rw [hA]) h2
  obtain ⟨k1, k2, k3, k4, k5, ⟨k6, k7⟩, k8, k9, k10, k11, k12, k13, k14, k15, -⟩ := q2
  unfold Ch4 at k10 k12 k14
  omega
theorem RX.cnt (C7 : Ch7 G a7 h4) (S8 : S_X8 G a8) (h : RX G a7 a8 c u) {k k' : Nat} {x y : Int32} (hk : 3 ≠ k) : RX G a7 a8 (stv c a7 k x) (stv u (rf G a8 0) k' y) := h.keep C7 (fun z hz => stv_row (by omega)) (stv_k hk) (stv_row (tg_ne (S_X8.f1 S8) (S_X8.f0 S8) rfl)) (stv_row (tg_ne (S_X8.f2 S8) (S_X8.f0 S8) rfl))
end RXS
