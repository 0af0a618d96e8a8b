/-! WHAT THE LAW'S LOOP KEEPS: the texts (Rtx) and the worlds (RX) -/
theorem gall_k : ∀ n, n < 984 → n % 246 < 118 → n % 246 ≠ 5 → (n % 246 < 34 ∨ 50 ≤ n % 246) → (gall n).2.2 = true := by decide +kernel
section RLS
variable {G : Gm} {w w1 w2 : Mw} {a7 a8 h4 : Nat} {c u c' u' v v1 v2 : Mv} {x r1 r2 : Int32}
theorem RW.fc {ts : List Nat} {A a o : Nat} (S : S_X6 G a) (h : RW G A c u a o) (hf : Fr G ts c c') (h6 : ts.contains 6 = false) (h107 : ts.contains 107 = false) (h4 : ts.contains 4 = false) (h120 : ts.contains 120 = false) (h124 : ts.contains 124 = false) : RW G A c' u a o := h.tr ⟨hf _ 0 _ (S_X6.h S) h6, hf _ 3 _ (S_X6.h S) h6⟩ (fun t _ => ⟨hf _ t _ (S_X6.f1 S) h107, hf _ t _ (S_X6.f2 S) h107, hf _ t _ (S_X6.f4 S) h107, hf _ t _ (S_X6.f5 S) h107⟩) ⟨hf _ 2 _ (S_X4.h (S_X6.f9 S)) h4, fun t _ => hf _ t _ (S_X4.f1 (S_X6.f9 S)) h120⟩ ⟨hf _ 2 _ (S_X4.h (S_X6.f10 S)) h4, fun t _ => hf _ t _ (S_X4.f1 (S_X6.f10 S)) h124⟩ ⟨hf _ 2 _ (S_X4.h (S_X6.f11 S)) h4, fun t _ => hf _ t _ (S_X4.f1 (S_X6.f11 S)) h124⟩ (fun k _ _ _ => rfl)
theorem RX.fc {ts : List Nat} (S7 : S_X7 G a7) (h : RX G a7 a8 c u) (hf : Fr G ts c c') (h6 : ts.contains 6 = false) (h107 : ts.contains 107 = false) (h4 : ts.contains 4 = false) (h120 : ts.contains 120 = false) (h124 : ts.contains 124 = false) (h3 : c' a7 3 = c a7 3) : RX G a7 a8 c' u := ⟨h.1.fc (S_X7.f0 S7) hf h6 h107 h4 h120 h124, fun j b hj => (h.2.1 j b hj).fc ((S_X7.f2 S7).2 b (List.mem_of_getElem? hj)) hf h6 h107 h4 h120 h124, fun i hi => by rw [h3]; exact h.2.2 i hi⟩
theorem RW.cu {A a o : Nat} (h : RW G A c u a o) (hA : u' A = u A) : RW G A c u' a o := h.tr ⟨rfl, rfl⟩ (fun t _ => ⟨rfl, rfl, rfl, rfl⟩) ⟨rfl, fun _ _ => rfl⟩ ⟨rfl, fun _ _ => rfl⟩ ⟨rfl, fun _ _ => rfl⟩ (fun k _ _ _ => by rw [hA])
theorem RX.cu (h : RX G a7 a8 c u) (hA : u' (rf G a8 1) = u (rf G a8 1)) (h2 : u' (rf G a8 2) = u (rf G a8 2)) : RX G a7 a8 c u' := ⟨h.1.cu hA, fun j b hj => (h.2.1 j b hj).cu hA, fun i hi => by rw [h2]; exact h.2.2 i hi⟩
theorem RX.fu {ts : List Nat} (S8 : S_X8 G a8) (h : RX G a7 a8 c u) (hf : Fr G ts u u') (h1 : ts.contains 1084 = false) (h2 : ts.contains 20102 = false) : RX G a7 a8 c u' := h.cu (fr_row hf (S_X8.f1 S8) h1) (fr_row hf (S_X8.f2 S8) h2)
theorem RW.kp {a o : Nat} (S : S_X6 G a) (S8 : S_X8 G a8) (h : RW G (rf G a8 1) v v a o) (ho : o % 246 = 0) (ho2 : o ≤ 738) (hk : Kp G v v1) : RW G (rf G a8 1) v1 v1 a o := by
  have n9 : nn (v (rf G a 9) 2) ≤ 5 := nn_le h.2.1.1.2
  have n10 : nn (v (rf G a 10) 2) ≤ 6 := nn_le h.2.2.1.1.2
  have n11 : nn (v (rf G a 11) 2) ≤ 6 := nn_le h.2.2.2.1.2
  exact h.tr ⟨hk _ _ (S_X6.h S) 0 0 7 rfl, hk _ _ (S_X6.h S) 3 0 7 rfl⟩ (fun t ht => ⟨hk _ _ (S_X6.f1 S) t I0 I1 (if_pos ht), hk _ _ (S_X6.f2 S) t I0 I1 (if_pos ht), hk _ _ (S_X6.f4 S) t I0 I1 (if_pos ht), hk _ _ (S_X6.f5 S) t I0 I1 (if_pos ht)⟩) ⟨hk _ _ (S_X4.h (S_X6.f9 S)) 2 0 5 rfl, fun t ht => hk _ _ (S_X4.f1 (S_X6.f9 S)) t I0 I1 (if_pos (by omega))⟩ ⟨hk _ _ (S_X4.h (S_X6.f10 S)) 2 0 6 rfl, fun t ht => hk _ _ (S_X4.f1 (S_X6.f10 S)) t I0 I1 (if_pos (by omega))⟩ ⟨hk _ _ (S_X4.h (S_X6.f11 S)) 2 0 6 rfl, fun t ht => hk _ _ (S_X4.f1 (S_X6.f11 S)) t I0 I1 (if_pos (by omega))⟩ (fun k k1 k2 k3 => by
    have e : (o + k) % 246 = k := by omega
    have g := gall_k (o + k) (by omega) (by omega) (by omega) (by omega)
    refine hk _ _ (S_X8.f1 S8) (o + k) (gall (o + k)).1 (gall (o + k)).2.1 ?_
    have : rng (.inr (0, 984, .inl gall)) (o + k) = some (gall (o + k)) := if_pos (by omega)
    rw [this, ← g])
theorem RX.kp (S7 : S_X7 G a7) (C7 : Ch7 G a7 h4) (S8 : S_X8 G a8) (h : RX G a7 a8 v v) (hk : Kp G v v1) : RX G a7 a8 v1 v1 := ⟨h.1.kp (S_X7.f0 S7) S8 rfl (by omega) hk, fun j b hj => by
    obtain ⟨-, -, -, hj2, -⟩ := lay_im C7 hj
    exact (h.2.1 j b hj).kp ((S_X7.f2 S7).2 b (List.mem_of_getElem? hj)) S8 (by omega) (by omega) hk, fun i hi => by
    rw [hk _ _ (S_X7.h S7) 3 I0 I1 rfl, hk _ _ (S_X8.f2 S8) i 0 1 (if_pos hi)]
    exact h.2.2 i hi⟩
theorem RX.zero (S7 : S_X7 G a7) (C7 : Ch7 G a7 h4) (S8 : S_X8 G a8) (h : Oz G v w []) : RX G a7 a8 v v := by
  have hA : ∀ n, n < 984 → n % 246 < 118 → n % 246 ≠ 5 → (n % 246 < 34 ∨ 50 ≤ n % 246) → v (rf G a8 1) n = 0 := fun n n1 n2 n3 n4 => by
    have g := gall_k n n1 n2 n3 n4
    refine h.2.1 _ _ (S_X8.f1 S8) n (gall n).1 (gall n).2.1 ?_
    have : rng (.inr (0, 984, .inl gall)) n = some (gall n) := if_pos n1
    rw [this, ← g]
  have hW : ∀ {a o : Nat}, S_X6 G a → o % 246 = 0 → o ≤ 738 → RW G (rf G a8 1) v v a o := fun S o1 o2 => RW.zero ⟨h.2.1 _ _ (S_X6.h S) 0 0 7 rfl, h.2.1 _ _ (S_X6.h S) 3 0 7 rfl⟩ (h.2.1 _ _ (S_X4.h (S_X6.f9 S)) 2 0 5 rfl) (h.2.1 _ _ (S_X4.h (S_X6.f10 S)) 2 0 6 rfl) (h.2.1 _ _ (S_X4.h (S_X6.f11 S)) 2 0 6 rfl) (fun k hk => hA _ (by omega) (by omega) (by omega) (by omega))
  refine ⟨hW (S_X7.f0 S7) rfl (by omega), fun j b hj => ?_, fun i hi => ?_⟩
  · obtain ⟨-, -, -, hj2, -⟩ := lay_im C7 hj
    exact hW ((S_X7.f2 S7).2 b (List.mem_of_getElem? hj)) (by omega) (by omega)
  · rw [h.2.1 _ _ (S_X7.h S7) 3 I0 I1 rfl, h.2.1 _ _ (S_X8.f2 S8) i 0 1 (if_pos hi), b_0]
    exact ⟨fun q => absurd q (by decide), fun q => absurd rfl q⟩
def Rl (G : Gm) (a7 a8 : Nat) (v : Mv) : Prop := Rtx G a7 a8 v ∧ RX G a7 a8 v v
theorem Rl.kp (S7 : S_X7 G a7) (C7 : Ch7 G a7 h4) (S8 : S_X8 G a8) (h : Rl G a7 a8 v) (hk : Kp G v v1) : Rl G a7 a8 v1 := ⟨h.1.kp S7 S8 hk, h.2.kp S7 C7 S8 hk⟩
theorem Rl.same (h : Rl G a7 a8 v) (e : v1 = v) : Rl G a7 a8 v1 := by rw [e]; exact h
theorem Rl.zero (S7 : S_X7 G a7) (C7 : Ch7 G a7 h4) (S8 : S_X8 G a8) (h : Oz G v w []) : Rl G a7 a8 v := ⟨Rtx.zero S7 S8 h, RX.zero S7 C7 S8 h⟩
theorem RX.join {ts : List Nat} (S7 : S_X7 G a7) (h : RX G a7 a8 v1 v2) (hf : Fr G ts v1 v2) (h6 : ts.contains 6 = false) (h107 : ts.contains 107 = false) (h4 : ts.contains 4 = false) (h120 : ts.contains 120 = false) (h124 : ts.contains 124 = false) (h7 : ts.contains 7 = false) : RX G a7 a8 v2 v2 := h.fc S7 hf h6 h107 h4 h120 h124 (hf _ 3 _ (S_X7.h S7) h7)
theorem cap_5 {a : Nat} (S : S_X4 G a 5) (hO : Ok G v w) : v a 0 = 5 := by
  have := hO.fd (x := v a 0) rfl (S_X4.h S) rfl
  obtain ⟨q1, q2⟩ := this
  exact i_eq (by rw [show (5 : Int32).toInt = 5 from by decide]; omega)
theorem cap_6 {a : Nat} (S : S_X4 G a 6) (hO : Ok G v w) : v a 0 = 6 := by
  have := hO.fd (x := v a 0) rfl (S_X4.h S) rfl
  obtain ⟨q1, q2⟩ := this
  exact i_eq (by rw [show (6 : Int32).toInt = 6 from by decide]; omega)
theorem Rl.people (S7 : S_X7 G a7) (C7 : Ch7 G a7 h4) (S8 : S_X8 G a8) (hO : Ok G v w) (h : Rl G a7 a8 v) (p1 : w1 = w ∧ (r1, v1) = F_X7_people G w v a7) (f1 : Fr G [2, 4, 6] v v1) (p2 : w2 = w1 ∧ (r2, v2) = F_X8_people G w1 v1 a8) (f2 : Fr G [1084] v1 v2) (hO2 : Ok G v2 w2) : r1 = r2 ∧ Rl G a7 a8 v2 := by
  obtain ⟨q1, q2⟩ := m_people C7 S8 (h.2.fu S8 f1 rfl rfl) p1.2 p2.2
  exact ⟨q1, (h.1.fr S7 S8 f1 rfl rfl rfl rfl).fr S7 S8 f2 rfl rfl rfl rfl, q2.join S7 f2 rfl rfl rfl rfl rfl rfl⟩
theorem Rl.thing {x0 x1 : Int32} (S7 : S_X7 G a7) (C7 : Ch7 G a7 h4) (S8 : S_X8 G a8) (hO : Ok G v w) (h : Rl G a7 a8 v) (p1 : w1 = w ∧ (r1, v1) = F_X7_thing G w v a7 x0 x1) (f1 : Fr G [6, 7, 107] v v1) (p2 : w2 = w1 ∧ (r2, v2) = F_X8_thing G w1 v1 a8 x0 x1) (f2 : Fr G [103, 1084] v1 v2) (hO2 : Ok G v2 w2) : r1 = r2 ∧ Rl G a7 a8 v2 := by
  obtain ⟨q1, q2⟩ := m_thing C7 S8 (h.2.fu S8 f1 rfl rfl) p1.2 p2.2
  exact ⟨q1, (h.1.fr S7 S8 f1 rfl rfl rfl rfl).fr S7 S8 f2 rfl rfl rfl rfl, q2.join S7 f2 rfl rfl rfl rfl rfl rfl⟩
theorem Rl.one {x0 x1 x2 : Int32} (S7 : S_X7 G a7) (C7 : Ch7 G a7 h4) (S8 : S_X8 G a8) (hO : Ok G v w) (h : Rl G a7 a8 v) (p1 : w1 = w ∧ (r1, v1) = F_X7_one G w v a7 x0 x1 x2) (f1 : Fr G [2, 6, 7, 107] v v1) (p2 : w2 = w1 ∧ (r2, v2) = F_X8_one G w1 v1 a8 x0 x1 x2) (f2 : Fr G [103, 1084] v1 v2) (hO2 : Ok G v2 w2) : r1 = r2 ∧ Rl G a7 a8 v2 := by
  obtain ⟨q1, q2⟩ := m_one C7 S8 (h.2.fu S8 f1 rfl rfl) p1.2 p2.2
  exact ⟨q1, (h.1.fr S7 S8 f1 rfl rfl rfl rfl).fr S7 S8 f2 rfl rfl rfl rfl, q2.join S7 f2 rfl rfl rfl rfl rfl rfl⟩
theorem Rl.seen {x0 x1 x2 x3 : Int32} (S7 : S_X7 G a7) (C7 : Ch7 G a7 h4) (S8 : S_X8 G a8) (hO : Ok G v w) (h : Rl G a7 a8 v) (p1 : w1 = w ∧ (r1, v1) = F_X7_seen G w v a7 x0 x1 x2 x3) (f1 : Fr G [4, 7, 120, 124] v v1) (p2 : w2 = w1 ∧ (r2, v2) = F_X8_seen G w1 v1 a8 x0 x1 x2 x3) (f2 : Fr G [103, 1084] v1 v2) (hO2 : Ok G v2 w2) : r1 = r2 ∧ Rl G a7 a8 v2 := by
  obtain ⟨q1, q2⟩ := m_seen C7 S8 (cap_5 (S_X6.f9 (S_X7.f0 S7)) hO) (h.2.fu S8 f1 rfl rfl) p1.2 p2.2
  exact ⟨q1, (h.1.fr S7 S8 f1 rfl rfl rfl rfl).fr S7 S8 f2 rfl rfl rfl rfl, q2.join S7 f2 rfl rfl rfl rfl rfl rfl⟩
theorem Rl.note {x0 x1 x2 x3 : Int32} (S7 : S_X7 G a7) (C7 : Ch7 G a7 h4) (S8 : S_X8 G a8) (hO : Ok G v w) (h : Rl G a7 a8 v) (p1 : w1 = w ∧ (r1, v1) = F_X7_note G w v a7 x0 x1 x2 x3) (f1 : Fr G [4, 7, 120, 124] v v1) (p2 : w2 = w1 ∧ (r2, v2) = F_X8_note G w1 v1 a8 x0 x1 x2 x3) (f2 : Fr G [103, 1084] v1 v2) (hO2 : Ok G v2 w2) : r1 = r2 ∧ Rl G a7 a8 v2 := by
  obtain ⟨q1, q2⟩ := m_note C7 S8 (cap_6 (S_X6.f10 (S_X7.f0 S7)) hO) (h.2.fu S8 f1 rfl rfl) p1.2 p2.2
  exact ⟨q1, (h.1.fr S7 S8 f1 rfl rfl rfl rfl).fr S7 S8 f2 rfl rfl rfl rfl, q2.join S7 f2 rfl rfl rfl rfl rfl rfl⟩
theorem Rl.mark {x0 x1 x2 x3 : Int32} (S7 : S_X7 G a7) (C7 : Ch7 G a7 h4) (S8 : S_X8 G a8) (hO : Ok G v w) (h : Rl G a7 a8 v) (p1 : w1 = w ∧ (r1, v1) = F_X7_mark G w v a7 x0 x1 x2 x3) (f1 : Fr G [4, 7, 120, 124] v v1) (p2 : w2 = w1 ∧ (r2, v2) = F_X8_mark G w1 v1 a8 x0 x1 x2 x3) (f2 : Fr G [103, 1084] v1 v2) (hO2 : Ok G v2 w2) : r1 = r2 ∧ Rl G a7 a8 v2 := by
  obtain ⟨q1, q2⟩ := m_mark C7 S8 (cap_6 (S_X6.f11 (S_X7.f0 S7)) hO) (h.2.fu S8 f1 rfl rfl) p1.2 p2.2
  exact ⟨q1, (h.1.fr S7 S8 f1 rfl rfl rfl rfl).fr S7 S8 f2 rfl rfl rfl rfl, q2.join S7 f2 rfl rfl rfl rfl rfl rfl⟩
theorem Rl.forget {x0 : Int32} (S7 : S_X7 G a7) (C7 : Ch7 G a7 h4) (S8 : S_X8 G a8) (hO : Ok G v w) (h : Rl G a7 a8 v) (p1 : w1 = w ∧ (r1, v1) = F_X7_forget G w v a7 x0) (f1 : Fr G [4, 7] v v1) (p2 : w2 = w1 ∧ (r2, v2) = F_X8_forget G w1 v1 a8 x0) (f2 : Fr G [103, 1084] v1 v2) (hO2 : Ok G v2 w2) : r1 = r2 ∧ Rl G a7 a8 v2 := by
  obtain ⟨q1, q2⟩ := m_forget C7 S8 (h.2.fu S8 f1 rfl rfl) p1.2 p2.2
  exact ⟨q1, (h.1.fr S7 S8 f1 rfl rfl rfl rfl).fr S7 S8 f2 rfl rfl rfl rfl, q2.join S7 f2 rfl rfl rfl rfl rfl rfl⟩
theorem Rl.image {x0 : Int32} (S7 : S_X7 G a7) (C7 : Ch7 G a7 h4) (S8 : S_X8 G a8) (hO : Ok G v w) (h : Rl G a7 a8 v) (p1 : w1 = w ∧ (r1, v1) = F_X7_image G w v a7 x0) (f1 : Fr G [2, 4, 6, 7, 107, 120, 124] v v1) (p2 : w2 = w1 ∧ (r2, v2) = F_X8_image G w1 v1 a8 x0) (f2 : Fr G [103, 1084, 20102] v1 v2) (hO2 : Ok G v2 w2) : r1 = r2 ∧ Rl G a7 a8 v2 := by
  obtain ⟨q1, q2⟩ := m_image S7 C7 S8 hO (h.2.fu S8 f1 rfl rfl) p1.2 p2.2
  exact ⟨q1, (h.1.fr S7 S8 f1 rfl rfl rfl rfl).fr S7 S8 f2 rfl rfl rfl rfl, q2.join S7 f2 rfl rfl rfl rfl rfl rfl⟩
theorem Rl.from {x0 : Int32} (S7 : S_X7 G a7) (C7 : Ch7 G a7 h4) (S8 : S_X8 G a8) (hO : Ok G v w) (h : Rl G a7 a8 v) (p1 : w1 = w ∧ (r1, v1) = F_X7_from G w v a7 x0) (f1 : Fr G [2, 4, 6, 7, 107, 120, 124] v v1) (p2 : w2 = w1 ∧ (r2, v2) = F_X8_from G w1 v1 a8 x0) (f2 : Fr G [103, 1084] v1 v2) (hO2 : Ok G v2 w2) : r1 = r2 ∧ Rl G a7 a8 v2 := by
  obtain ⟨q1, q2⟩ := m_from S7 C7 S8 hO (h.2.fu S8 f1 rfl rfl) p1.2 p2.2
  exact ⟨q1, (h.1.fr S7 S8 f1 rfl rfl rfl rfl).fr S7 S8 f2 rfl rfl rfl rfl, q2.join S7 f2 rfl rfl rfl rfl rfl rfl⟩
theorem Rl.type {x0 : Int32} (S7 : S_X7 G a7) (C7 : Ch7 G a7 h4) (S8 : S_X8 G a8) (hO : Ok G v w) (h : Rl G a7 a8 v) (p1 : w1 = w ∧ (r1, v1) = F_X7_type G w v a7 x0) (f1 : Fr G [3, 7, 250] v v1) (p2 : w2 = w1 ∧ (r2, v2) = F_X8_type G w1 v1 a8 x0) (f2 : Fr G [8, 103, 10250] v1 v2) (hO2 : Ok G v2 w2) : r1 = r2 ∧ Rl G a7 a8 v2 := by
  obtain ⟨q1, q2⟩ := h.1.type S7 S8 p1.2 f1 p2.2 f2
  refine ⟨q1, q2, ((h.2.fu S8 f1 rfl rfl).fc S7 f1 rfl rfl rfl rfl rfl ?_).fu S8 f2 rfl rfl |>.join S7 f2 rfl rfl rfl rfl rfl rfl⟩
  have e := p1.2
  have n71 : a7 ≠ rf G a7 1 := fun q => tg_ne (S_X3.h (S_X7.f1 S7)) (S_X7.h S7) rfl q.symm
  have n710 : a7 ≠ rf G (rf G a7 1) 0 := fun q => tg_ne (S_X3.f0 (S_X7.f1 S7)) (S_X7.h S7) rfl q.symm
  unfold F_X7_type K_X7_type_e K_X7_type_c1 K_X7_type_c2 K_X7_type_c3 F_X7_bad K_X7_bad_e F_X7_full K_X7_full_e F_X3_append K_X3_append_e at e
  split at e
  · rw [(Prod.mk.inj e).2]; exact stv_k (by decide)
  · split at e
    · rw [(Prod.mk.inj e).2]; exact (stv_a n71).trans (stv_a n710)
    · rw [(Prod.mk.inj e).2]; exact stv_k (by decide)
theorem Rl.clear (S7 : S_X7 G a7) (C7 : Ch7 G a7 h4) (S8 : S_X8 G a8) (hO : Ok G v w) (h : Rl G a7 a8 v) (p1 : w1 = w ∧ (r1, v1) = F_X7_clear G w v a7) (f1 : Fr G [3] v v1) (p2 : w2 = w1 ∧ (r2, v2) = F_X8_clear G w1 v1 a8) (f2 : Fr G [8] v1 v2) (hO2 : Ok G v2 w2) : r1 = r2 ∧ Rl G a7 a8 v2 := by
  obtain ⟨q1, q2⟩ := h.1.clear S7 S8 p1.2 f1 p2.2 f2
  exact ⟨q1, q2, ((h.2.fu S8 f1 rfl rfl).fc S7 f1 rfl rfl rfl rfl rfl (f1 _ 3 _ (S_X7.h S7) rfl)).fu S8 f2 rfl rfl |>.join S7 f2 rfl rfl rfl rfl rfl rfl⟩
theorem Rl.read (S7 : S_X7 G a7) (C7 : Ch7 G a7 h4) (S8 : S_X8 G a8) (hO : Ok G v w) (h : Rl G a7 a8 v) (p1 : w1 = w ∧ (r1, v1) = F_X7_read G w v a7) (f1 : Fr G [2, 3, 4, 6, 107, 120, 124] v v1) (p2 : w2 = w1 ∧ (r2, v2) = F_X8_read G w1 v1 a8) (f2 : Fr G [8, 116, 1084] v1 v2) (hO2 : Ok G v2 w2) : r1 = r2 ∧ Rl G a7 a8 v2 := by
  obtain ⟨q1, q2⟩ := h.1.read S7 C7 S8 hO p1 f1 p2 f2 hO2
  obtain ⟨e1, e2⟩ := p1
  obtain ⟨e3, e4⟩ := p2
  rw [e1] at e4
  exact ⟨q1, q2, (m_read S7 C7 S8 hO (h.1.mid S8 f1 rfl rfl) (h.2.fu S8 f1 rfl rfl) e2 e4 (hO2.fd rfl (S_X8.h S8) rfl)).join S7 f2 rfl rfl rfl rfl rfl rfl⟩
end RLS
