section IT2
variable {G : Gm} {w : Mw} {rd a8 hi : Nat} {c u c1 u1 : Mv}
theorem fdr_thing {a : Nat} {x y : Int32} : Fdr G a c (F_X6_addThing G w c a x y).2 := by
  intro z q1 q2 q3 q4 q5 q6 q7 q8
  unfold F_X6_addThing K_X6_addThing_e
  show (stv (stv (stv (stv c _ _ _) _ _ _) _ _ _) _ _ _) z = c z
  rw [stv_row q1, stv_row q1, stv_row q3, stv_row q2]
theorem fdr_one {a : Nat} {x y k : Int32} : Fdr G a c (F_X6_addOne G w c a x y k).2 := by
  intro z q1 q2 q3 q4 q5 q6 q7 q8
  unfold F_X6_addOne K_X6_addOne_e
  show (stv (stv (stv (stv (stv (stv (stv c _ _ _) _ _ _) _ _ _) _ _ _) _ _ _) _ _ _) _ _ _) z = c z
  rw [stv_row q1, stv_row q1, stv_row q6, stv_row q8, stv_row q7, stv_row q5, stv_row q4]
theorem fsa_add (S8 : S_X8 G a8) {x y : Int32} (hn : Bd (u (rf G a8 1) 738) 0 6) : FSA G a8 u (F_X8_add_738 G w u a8 x y).2 := by
  rw [add738 hn]
  have h6 := nn_le (n := 6) hn
  exact ⟨fun z _ q => by show (stv (stv (stv (stv u _ _ _) _ _ _) _ _ _) _ _ _) z = u z; rw [stv_row q, stv_row q, stv_row q, stv_row q], fun k _ => by show (stv (stv (stv (stv u _ _ _) _ _ _) _ _ _) _ _ _) a8 k = u a8 k; rw [stv_a (Ne.symm (ne81 S8)), stv_a (Ne.symm (ne81 S8)), stv_a (Ne.symm (ne81 S8)), stv_a (Ne.symm (ne81 S8))], fun j q => by show (stv (stv (stv (stv u _ _ _) _ _ _) _ _ _) _ _ _) _ j = u _ j; rw [stv_k (by omega), stv_k (by omega), stv_k (by omega), stv_k (by omega)]⟩
theorem fsa_join (S8 : S_X8 G a8) {x y z : Int32} (hn : Bd (u (rf G a8 1) 739) 0 6) : FSA G a8 u (F_X8_join_738 G w u a8 x y z).2 := by
  rw [join738 hn]
  have h6 := nn_le (n := 6) hn
  exact ⟨fun z _ q => by show (stv (stv (stv (stv (stv (stv u _ _ _) _ _ _) _ _ _) _ _ _) _ _ _) _ _ _) z = u z; rw [stv_row q, stv_row q, stv_row q, stv_row q, stv_row q, stv_row q], fun k _ => by show (stv (stv (stv (stv (stv (stv u _ _ _) _ _ _) _ _ _) _ _ _) _ _ _) _ _ _) a8 k = u a8 k; rw [stv_a (Ne.symm (ne81 S8)), stv_a (Ne.symm (ne81 S8)), stv_a (Ne.symm (ne81 S8)), stv_a (Ne.symm (ne81 S8)), stv_a (Ne.symm (ne81 S8)), stv_a (Ne.symm (ne81 S8))], fun j q => by show (stv (stv (stv (stv (stv (stv u _ _ _) _ _ _) _ _ _) _ _ _) _ _ _) _ _ _) _ j = u _ j; rw [stv_k (by omega), stv_k (by omega), stv_k (by omega), stv_k (by omega), stv_k (by omega), stv_k (by omega)]⟩
theorem thing8 {a : Nat} {x y : Int32} : (F_X6_addThing G w c a x y).2 a 8 = 0 := stv_s
theorem one8 {a : Nat} {x y z : Int32} : (F_X6_addOne G w c a x y z).2 a 8 = 0 := stv_s
/-- a row of the reference alone was written: it goes on reading -/
theorem RUN.draft (S8 : S_X8 G a8) (C : Ch3 G rd hi) (h : RUN G w rd a8 c u) (f : Fdr G (rf G rd 6) c c1) (g : Fa (rf G a8 1) u u1) (hd : DRl G (rf G rd 6) a8 c1 u1) : RUN G w rd a8 c1 u1 := by
  obtain ⟨e1, e2⟩ := fdr_rd C f
  exact h.keep e1 e2 (fun k _ _ => by rw [g.1 a8 (Ne.symm (ne81 S8))]) (g.1 _ (ne814 S8)) hd
theorem fa_add {x y : Int32} (hn : Bd (u (rf G a8 1) 738) 0 6) : Fa (rf G a8 1) u (F_X8_add_738 G w u a8 x y).2 := by
  rw [add738 hn]
  exact ((Fa.rf.st.st).st).st
theorem fa_join {x y z : Int32} (hn : Bd (u (rf G a8 1) 739) 0 6) : Fa (rf G a8 1) u (F_X8_join_738 G w u a8 x y z).2 := by
  rw [join738 hn]
  exact ((((Fa.rf.st.st).st).st).st).st
theorem bd_of {x : Int32} {lo up : Int32} {a b : Int} (h : lo ≤ x ∧ x ≤ up) (h1 : lo.toInt = a) (h2 : up.toInt = b) : Bd x a b := ⟨by have := i_le.mp h.1; omega, by have := i_le.mp h.2; omega⟩
theorem thing_sim (S3 : S_X3 G rd) (S8 : S_X8 G a8) (C : Ch3 G rd hi) (h : RUN G w rd a8 c u) (ht : Bd (c (rf G rd 6) 0) 0 6) : ∃ (r : Int32) (c' : Mv), F_X3_takeThing G w c rd = (r, c') ∧ OUT G w rd a8 r c' (F_X8_readThing G w u a8) ∧ FRD G rd c c' ∧ FSA G a8 u (F_X8_readThing G w u a8) := by
  unfold F_X3_takeThing K_X3_takeThing_e F_X8_readThing K_X8_readThing_e
  rw [if_neg (fun q => by have := i_le.mp q; have := ht.2; have e7 : (7 : Int32).toInt = 7 := by decide
                          omega)]
  obtain ⟨c1, f1, g1, n1⟩ := num_ok S3 S8 C h 0 5
  generalize hA : F_X8_number G w u a8 0 5 = A at *
  obtain ⟨y1, u1⟩ := A
  unfold K_X8_readThing_c1 K_X3_takeThing_c1
  rcases n1 with ⟨e1, e2, h1, w1, b1, d1⟩ | ⟨e1, e2, e3⟩
  · rw [e1, if_neg (show ¬ (1 : Int32) = 0 by decide)]
    obtain ⟨c2, f2, g2, n2⟩ := num_ok S3 S8 C h1 1 30
    simp only at e2 g1 g2 n2 h1
    show ∃ r c', K_X3_takeThing_c2 G w rd (F_X3_takeNumber G w c1 rd 1 30).2 (c1 rd 5) (F_X3_takeNumber G w c1 rd 1 30).1 = (r, c') ∧ OUT G w rd a8 r c' (K_X8_readThing_c2 G w a8 (F_X8_number G w u1 a8 1 30).2 y1 (F_X8_number G w u1 a8 1 30).1) ∧ FRD G rd c c' ∧ FSA G a8 u (K_X8_readThing_c2 G w a8 (F_X8_number G w u1 a8 1 30).2 y1 (F_X8_number G w u1 a8 1 30).1)
    generalize hB : F_X8_number G w u1 a8 1 30 = B at *
    obtain ⟨y2, u2⟩ := B
    simp only at g2 n2
    unfold K_X3_takeThing_c2 K_X8_readThing_c2
    rcases n2 with ⟨z1, z2, h2, w2, b2, d2⟩ | ⟨z1, z2, z3⟩
    · have t2 : Bd (c2 (rf G rd 6) 0) 0 6 := by rw [d2, d1]; exact ht
      have t2u : Bd (u2 (rf G a8 1) 738) 0 6 := by rw [← h2.2.1.1.1.1]; exact t2
      rw [z1, if_neg (show ¬ (1 : Int32) = 0 by decide), if_pos h2.2.2.1]
      unfold K_X3_takeThing_c3 K_X8_readThing_c3
      have hd := thing_ok (w := w) (a8 := a8) C.2.2 h2.2.1.1 h2.2.1.2 t2 (bd_of w1 (by decide) (by decide)) (bd_of w2 (by decide) (by decide))
      rw [e2, z2]
      exact ⟨1, _, rfl, Or.inl ⟨rfl, h2.draft S8 C fdr_thing (fa_add t2u) hd⟩, (f1.tr f2).tr (fdr_d C fdr_thing (fun _ => thing8)), (g1.tr g2).tr (fsa_add S8 t2u)⟩
    · rw [z1, if_pos (show (0 : Int32) = 0 from rfl), if_neg z3]
      exact ⟨0, c2, rfl, Or.inr ⟨rfl, z2, z3⟩, f1.tr f2, g1.tr g2⟩
  · rw [e1, if_pos (show (0 : Int32) = 0 from rfl)]
    show ∃ r c', (0, c1) = (r, c') ∧ OUT G w rd a8 r c' (K_X8_readThing_c2 G w a8 (F_X8_number G w u1 a8 1 30).2 y1 (F_X8_number G w u1 a8 1 30).1) ∧ FRD G rd c c' ∧ FSA G a8 u (K_X8_readThing_c2 G w a8 (F_X8_number G w u1 a8 1 30).2 y1 (F_X8_number G w u1 a8 1 30).1)
    have e3 : ¬ u1 a8 10 = 0 := e3
    unfold K_X8_readThing_c2
    rw [num_w e3, if_neg e3]
    exact ⟨0, c1, rfl, Or.inr ⟨rfl, e2, e3⟩, f1, g1⟩
theorem one_sim (S3 : S_X3 G rd) (S8 : S_X8 G a8) (C : Ch3 G rd hi) (h : RUN G w rd a8 c u) (ht : Bd (c (rf G rd 6) 3) 0 6) : ∃ (r : Int32) (c' : Mv), F_X3_takeOne G w c rd = (r, c') ∧ OUT G w rd a8 r c' (F_X8_readOne G w u a8) ∧ FRD G rd c c' ∧ FSA G a8 u (F_X8_readOne G w u a8) := by
  unfold F_X3_takeOne K_X3_takeOne_e F_X8_readOne K_X8_readOne_e
  rw [if_neg (fun q => by have := i_le.mp q; have := ht.2; have e7 : (7 : Int32).toInt = 7 := by decide
                          omega)]
  obtain ⟨c1, f1, g1, n1⟩ := num_ok S3 S8 C h 0 5
  generalize hA : F_X8_number G w u a8 0 5 = A at *
  obtain ⟨y1, u1⟩ := A
  unfold K_X8_readOne_c1 K_X3_takeOne_c1
  rcases n1 with ⟨e1, e2, h1, w1, b1, d1⟩ | ⟨e1, e2, e3⟩
  · rw [e1, if_neg (show ¬ (1 : Int32) = 0 by decide)]
    obtain ⟨c2, f2, g2, n2⟩ := num_ok S3 S8 C h1 1 9
    simp only at e2 g1 g2 n2 h1
    show ∃ r c', K_X3_takeOne_c2 G w rd (F_X3_takeNumber G w c1 rd 1 9).2 (c1 rd 5) (F_X3_takeNumber G w c1 rd 1 9).1 = (r, c') ∧ OUT G w rd a8 r c' (K_X8_readOne_c2 G w a8 (F_X8_number G w u1 a8 1 9).2 y1 (F_X8_number G w u1 a8 1 9).1) ∧ FRD G rd c c' ∧ FSA G a8 u (K_X8_readOne_c2 G w a8 (F_X8_number G w u1 a8 1 9).2 y1 (F_X8_number G w u1 a8 1 9).1)
    generalize hB : F_X8_number G w u1 a8 1 9 = B at *
    obtain ⟨y2, u2⟩ := B
    simp only at g2 n2
    unfold K_X3_takeOne_c2 K_X8_readOne_c2
    rcases n2 with ⟨z1, z2, h2, w2, b2, d2⟩ | ⟨z1, z2, z3⟩
    · rw [z1, if_neg (show ¬ (1 : Int32) = 0 by decide)]
      obtain ⟨c3, f3, g3, n3⟩ := num_ok S3 S8 C h2 0 99
      show ∃ r c', K_X3_takeOne_c3 G w rd (F_X3_takeNumber G w c2 rd 0 99).2 (c1 rd 5) (c2 rd 5) (F_X3_takeNumber G w c2 rd 0 99).1 = (r, c') ∧ OUT G w rd a8 r c' (K_X8_readOne_c3 G w a8 (F_X8_number G w u2 a8 0 99).2 y1 y2 (F_X8_number G w u2 a8 0 99).1) ∧ FRD G rd c c' ∧ FSA G a8 u (K_X8_readOne_c3 G w a8 (F_X8_number G w u2 a8 0 99).2 y1 y2 (F_X8_number G w u2 a8 0 99).1)
      generalize hD : F_X8_number G w u2 a8 0 99 = D at *
      obtain ⟨y3, u3⟩ := D
      simp only at g3 n3
      unfold K_X3_takeOne_c3 K_X8_readOne_c3
      rcases n3 with ⟨v1, v2, h3, w3, b3, d3⟩ | ⟨v1, v2, v3⟩
      · have t2 : Bd (c3 (rf G rd 6) 3) 0 6 := by rw [d3, d2, d1]; exact ht
        have t2u : Bd (u3 (rf G a8 1) 739) 0 6 := by
          have := h3.2.1.1.1.2
          rw [show u3 (rf G a8 1) 739 = c3 (rf G rd 6) 3 from this.symm]; exact t2
        rw [v1, if_neg (show ¬ (1 : Int32) = 0 by decide), if_pos h3.2.2.1]
        unfold K_X3_takeOne_c4 K_X8_readOne_c4
        have hd := one_ok (w := w) (a8 := a8) C.2.2 h3.2.1.1 h3.2.1.2 t2 (bd_of w1 (by decide) (by decide)) (bd_of w2 (by decide) (by decide)) (bd_of w3 (by decide) (by decide))
        rw [e2, z2, v2]
        exact ⟨1, _, rfl, Or.inl ⟨rfl, h3.draft S8 C fdr_one (fa_join t2u) hd⟩, ((f1.tr f2).tr f3).tr (fdr_d C fdr_one (fun _ => one8)), ((g1.tr g2).tr g3).tr (fsa_join S8 t2u)⟩
      · rw [v1, if_pos (show (0 : Int32) = 0 from rfl), if_neg v3]
        exact ⟨0, c3, rfl, Or.inr ⟨rfl, v2, v3⟩, (f1.tr f2).tr f3, (g1.tr g2).tr g3⟩
    · have z3 : ¬ u2 a8 10 = 0 := z3
      rw [z1, if_pos (show (0 : Int32) = 0 from rfl)]
      show ∃ r c', (0, c2) = (r, c') ∧ OUT G w rd a8 r c' (K_X8_readOne_c3 G w a8 (F_X8_number G w u2 a8 0 99).2 y1 y2 (F_X8_number G w u2 a8 0 99).1) ∧ FRD G rd c c' ∧ FSA G a8 u (K_X8_readOne_c3 G w a8 (F_X8_number G w u2 a8 0 99).2 y1 y2 (F_X8_number G w u2 a8 0 99).1)
      unfold K_X8_readOne_c3
      rw [num_w z3, if_neg z3]
      exact ⟨0, c2, rfl, Or.inr ⟨rfl, z2, z3⟩, f1.tr f2, g1.tr g2⟩
  · have e3 : ¬ u1 a8 10 = 0 := e3
    rw [e1, if_pos (show (0 : Int32) = 0 from rfl)]
    show ∃ r c', (0, c1) = (r, c') ∧ OUT G w rd a8 r c' (K_X8_readOne_c2 G w a8 (F_X8_number G w u1 a8 1 9).2 y1 (F_X8_number G w u1 a8 1 9).1) ∧ FRD G rd c c' ∧ FSA G a8 u (K_X8_readOne_c2 G w a8 (F_X8_number G w u1 a8 1 9).2 y1 (F_X8_number G w u1 a8 1 9).1)
    unfold K_X8_readOne_c2
    rw [num_w e3]
    unfold K_X8_readOne_c3
    rw [num_w e3, if_neg e3]
    exact ⟨0, c1, rfl, Or.inr ⟨rfl, e2, e3⟩, f1, g1⟩
end IT2
