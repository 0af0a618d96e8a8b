/-- what reading may write in the reference, its count of ITEMS too -/
def FSB (G : Gm) (a8 : Nat) (u u' : Mv) : Prop := (∀ x, x ≠ a8 → x ≠ rf G a8 1 → u' x = u x) ∧ (∀ k, (k < 6 ∨ 11 < k) → u' a8 k = u a8 k) ∧ ∀ j, (j < 738 ∨ (740 ≤ j ∧ j ≤ 742)) → u' (rf G a8 1) j = u (rf G a8 1) j
section RD
variable {G : Gm} {w : Mw} {rd a8 hi : Nat} {c u c1 u1 : Mv}
theorem fsb_rf : FSB G a8 u u := ⟨fun _ _ _ => rfl, fun _ _ => rfl, fun _ _ => rfl⟩
theorem FSB.tr {u2 : Mv} (h : FSB G a8 u u1) (h2 : FSB G a8 u1 u2) : FSB G a8 u u2 := ⟨fun x q1 q2 => (h2.1 x q1 q2).trans (h.1 x q1 q2), fun k q => (h2.2.1 k q).trans (h.2.1 k q), fun j q => (h2.2.2 j q).trans (h.2.2 j q)⟩
theorem FSA.b (h : FSA G a8 u u1) : FSB G a8 u u1 := ⟨h.1, fun k q => h.2.1 k (by omega), h.2.2⟩
theorem FSB.st (S8 : S_X8 G a8) (h : FSB G a8 u u1) {x : Int32} : FSB G a8 u (stv u1 a8 11 x) := ⟨fun y q1 q2 => (stv_row q1).trans (h.1 y q1 q2), fun k q => (stv_k (by omega)).trans (h.2.1 k q), fun j q => (stv_a (ne81 S8)).trans (h.2.2 j q)⟩
theorem ts_y (h : (F_X3_nextToken G w c rd) rd 3 = 3) : F_X3_takeStop G w c rd = (1, F_X3_nextToken G w c rd) := by
  unfold F_X3_takeStop K_X3_takeStop_e K_X3_takeStop_c1
  rw [if_pos h]
theorem ts_n (h : ¬ (F_X3_nextToken G w c rd) rd 3 = 3) : F_X3_takeStop G w c rd = (0, F_X3_nextToken G w c rd) := by
  unfold F_X3_takeStop K_X3_takeStop_e K_X3_takeStop_c1
  rw [if_neg h]
theorem r48_0 {rec : Mv → Int32 → Int32 × Mv} {x f : Int32} {n : Mv} (h : F_X3_takeItem G w c rd f = (0, n)) : K_X3_readItems_48 G w rd rec c x f = (-10 - n rd 4, n) := by
  unfold K_X3_readItems_48 K_X3_readItems_c1 K_X3_readItems_70
  rw [h]
  exact if_pos rfl
theorem r48_n {rec : Mv → Int32 → Int32 × Mv} {x f : Int32} {n m : Mv} (h : F_X3_takeItem G w c rd f = (1, n)) (h2 : F_X3_takeStop G w n rd = (0, m)) : K_X3_readItems_48 G w rd rec c x f = (-10 - m rd 4, m) := by
  unfold K_X3_readItems_48 K_X3_readItems_c1 K_X3_readItems_c2 K_X3_readItems_70
  rw [h]
  refine (if_neg (show ¬ (1 : Int32) = 0 by decide)).trans ?_
  rw [h2]
  exact if_pos rfl
theorem r48_y {rec : Mv → Int32 → Int32 × Mv} {x f : Int32} {n m : Mv} (h : F_X3_takeItem G w c rd f = (1, n)) (h2 : F_X3_takeStop G w n rd = (1, m)) : K_X3_readItems_48 G w rd rec c x f = rec m (x + 1) := by
  unfold K_X3_readItems_48 K_X3_readItems_c1 K_X3_readItems_c2
  rw [h]
  refine (if_neg (show ¬ (1 : Int32) = 0 by decide)).trans ?_
  rw [h2]
  exact if_neg (show ¬ (1 : Int32) = 0 by decide)
theorem k49_n (h10 : u a8 10 = 0) (hm : F_X8_may G w u a8 (u a8 8) = 0) : K_X8_read_49 G w a8 u = stv u a8 10 1 := by
  unfold K_X8_read_49
  rw [hm, due_0 h10, if_neg (by rw [stv_s]; decide)]
theorem k49_y (h10 : u a8 10 = 0) (hm : F_X8_may G w u a8 (u a8 8) = 1) (hs : (F_X8_step G w u a8) a8 10 = 0) : K_X8_read_49 G w a8 u = if (F_X8_item G w (F_X8_step G w u a8) a8 (u a8 8)) a8 8 = 7 then K_X8_read_90 G w a8 (F_X8_item G w (F_X8_step G w u a8) a8 (u a8 8)) 1 else K_X8_read_90 G w a8 (F_X8_item G w (F_X8_step G w u a8) a8 (u a8 8)) 0 := by
  unfold K_X8_read_49
  rw [hm, due_1 h10 (show ¬ (1 : Int32) = 0 by decide), if_pos hs]
theorem iter_ok (S3 : S_X3 G rd) (S8 : S_X8 G a8) (C : Ch3 G rd hi) (h : CUR G w rd a8 c u) (k : Nat) (hk : u a8 11 = nI k) (hk2 : k ≤ 150) (rec : Mv → Int32 → Int32 × Mv) : ∃ c3 : Mv, FRD G rd c c3 ∧ FSB G a8 u (K_X8_read_49 G w a8 u) ∧ ((K_X3_readItems_38 G w rd rec c (nI k) = rec c3 (nI (k + 1)) ∧ RUN G w rd a8 c3 (K_X8_read_49 G w a8 u) ∧ (K_X8_read_49 G w a8 u) a8 11 = nI (k + 1) ∧ (c rd 2).toInt < (c3 rd 2).toInt) ∨ (K_X3_readItems_38 G w rd rec c (nI k) = (-10 - c3 rd 4, c3) ∧ c3 rd 4 = (K_X8_read_49 G w a8 u) a8 7 ∧ ¬ (K_X8_read_49 G w a8 u) a8 10 = 0)) := by
  have h10 : u a8 10 = 0 := h.2.2.1
  obtain ⟨f, hf1, hf2⟩ : ∃ f : Int32, K_X3_readItems_38 G w rd rec c (nI k) = K_X3_readItems_48 G w rd rec c (nI k) f ∧ ((f = 1 ∧ u a8 11 = 0) ∨ (f = 0 ∧ ¬ u a8 11 = 0)) := by
    unfold K_X3_readItems_38
    by_cases q : nI k = 0
    · exact ⟨1, if_pos q, Or.inl ⟨rfl, hk.trans q⟩⟩
    · exact ⟨0, if_neg q, Or.inr ⟨rfl, fun z => q (hk.symm.trans z)⟩⟩
  rw [hf1]
  obtain ⟨r, c', e, f1, o⟩ := item_sim S3 S8 C h f hf2
  have s10 : (F_X8_step G w u a8) a8 10 = 0 := (h.step S3 S8).1.2.2.1
  rcases o with ⟨o1, o2, o3⟩ | ⟨o1, o2, o3⟩
  · rw [k49_n h10 o2]
    rw [o1] at e
    exact ⟨c', f1, (fsa_wrong S8).b, Or.inr ⟨r48_0 e, o3.trans (stv_k (by decide)).symm, by rw [stv_s]; decide⟩⟩
  · rw [k49_y h10 o1 s10]
    generalize F_X8_item G w (F_X8_step G w u a8) a8 (u a8 8) = v at *
    have i11 : v a8 11 = nI k := (o3.2.1 11 (by omega)).trans hk
    rcases o2 with ⟨r1, hR⟩ | ⟨r1, r2, r3⟩
    · rw [r1] at e
      obtain ⟨hc, hf, hp⟩ := hR.next S3 S8 C
      have v10 : v a8 10 = 0 := hc.2.2.1
      have SY := @ts_y G w rd c'
      have SN := @ts_n G w rd c'
      have fn := fr_d C hf (nx_mono hc hp)
      generalize F_X3_nextToken G w c' rd = n at *
      rcases hc.2.2.2.stop with ⟨k3, k8⟩ | ⟨k3, k8⟩
      · rw [if_pos k8]
        obtain ⟨s1, s2⟩ := hc.step S3 S8
        unfold K_X8_read_90
        rw [due_1 v10 (show ¬ (1 : Int32) = 0 by decide)]
        have j11 : (F_X8_step G w v a8) a8 11 = nI k := (s2 a8 11 (Or.inr (by decide))).trans i11
        refine ⟨n, f1.tr fn, ((o3.tr (FS.d S8 s2)).b).st S8, Or.inl ⟨(r48_y e (SY k3)).trans (by rw [nI_1]), ?_, ?_, ?_⟩⟩
        · exact s1.keep rfl rfl (fun i i1 i2 => stv_k (by omega)) (stv_row (ne84 S8)) (s1.2.1.congr rfl rfl rfl rfl rfl rfl rfl rfl (stv_row (ne81 S8)))
        · rw [stv_s, j11, nI_1]
        · have t1 := hc.2.2.2.2.1
          rcases hc.2.2.2.2.2.1 with q | q
          · rw [q] at k3; exact absurd k3 (by decide)
          · have := f1.2.2.1
            omega
      · rw [if_neg k8]
        unfold K_X8_read_90
        rw [due_0 v10]
        refine ⟨n, f1.tr fn, ((o3.tr (fsa_wrong S8)).b).st S8, Or.inr ⟨r48_n e (SN k3), ?_, ?_⟩⟩
        · rw [stv_k (by decide), stv_k (by decide)]; exact hc.2.2.2.1.1
        · rw [stv_k (by decide), stv_s]; decide
    · rw [r1] at e
      have e9 : ∀ x, K_X8_read_90 G w a8 v x = stv v a8 11 (v a8 11 + 1) := fun x => by unfold K_X8_read_90; rw [due_w r3]
      rw [e9, e9]
      have ee : (if v a8 8 = 7 then stv v a8 11 (v a8 11 + 1) else stv v a8 11 (v a8 11 + 1)) = stv v a8 11 (v a8 11 + 1) := by split <;> rfl
      rw [ee]
      refine ⟨c', f1, (o3.b).st S8, Or.inr ⟨r48_0 e, ?_, ?_⟩⟩
      · rw [stv_k (by decide)]; exact r2
      · rw [stv_k (by decide)]; exact r3
theorem k26_w (h : ¬ u a8 10 = 0) (m : Nat) : K_X8_read_26 G w a8 m u = K_X8_read_106 G w a8 u := by
  match m with
  | 0 => rfl
  | m + 1 => rw [K_X8_read_26, if_neg h]
/-- all ITEMS -/
theorem loop_ok (S3 : S_X3 G rd) (S8 : S_X8 G a8) (C : Ch3 G rd hi) : ∀ (n m k : Nat) (c u : Mv), RUN G w rd a8 c u → u a8 11 = nI k → (k : Int) ≤ (c rd 2).toInt → 151 - k < n → 150 - k < m → ∃ c' uu : Mv, FRD G rd c c' ∧ FSB G a8 u uu ∧ K_X8_read_26 G w a8 m u = K_X8_read_106 G w a8 uu ∧ ((∃ j : Nat, j ≤ 150 ∧ K_X3_readItems_14 G w rd n c (nI k) = (nI j, c') ∧ uu a8 10 = 0 ∧ uu a8 11 = nI j ∧ DRl G (rf G rd 6) a8 c' uu) ∨ (K_X3_readItems_14 G w rd n c (nI k) = (-10 - c' rd 4, c') ∧ ¬ uu a8 10 = 0 ∧ c' rd 4 = uu a8 7)) := by
  intro n
  induction n with
  | zero => intro m k c u _ _ _ h _; omega
  | succ n ih =>
    intro m k c u h h11 hk hf hf2
    have hl : (c rd 1).toInt ≤ 150 := by rw [h.1.1]; exact h.1.2.1.2
    have hk150 : k ≤ 150 := by have := h.2.2.2.1.2; omega
    match m, hf2 with
    | 0, hf2 => exact absurd hf2 (by omega)
    | m + 1, hf2 =>
      obtain ⟨hc, hfr, hp⟩ := h.next S3 S8 C
      have fn := fr_d C hfr (nx_mono hc hp)
      rw [K_X3_readItems_14, if_neg (fun q => by
        have := i_lt.mp q
        rw [nI_toInt (by omega), show (150 : Int32).toInt = 150 from by decide] at this
        omega)]
      generalize F_X3_nextToken G w c rd = n1 at *
      rw [K_X8_read_26, if_pos h.2.2.1]
      unfold K_X3_readItems_c3
      -- one turn
      have turn : K_X8_read_26 G w a8 (m + 1) u = K_X8_read_26 G w a8 m (K_X8_read_49 G w a8 u) → ∃ c' uu : Mv, FRD G rd c c' ∧ FSB G a8 u uu ∧ K_X8_read_26 G w a8 m (K_X8_read_49 G w a8 u) = K_X8_read_106 G w a8 uu ∧ ((∃ j : Nat, j ≤ 150 ∧ K_X3_readItems_38 G w rd (K_X3_readItems_14 G w rd n) n1 (nI k) = (nI j, c') ∧ uu a8 10 = 0 ∧ uu a8 11 = nI j ∧ DRl G (rf G rd 6) a8 c' uu) ∨ (K_X3_readItems_38 G w rd (K_X3_readItems_14 G w rd n) n1 (nI k) = (-10 - c' rd 4, c') ∧ ¬ uu a8 10 = 0 ∧ c' rd 4 = uu a8 7)) := by
        intro _
        obtain ⟨c3, f3, g3, o⟩ := iter_ok S3 S8 C hc k h11 hk150 (K_X3_readItems_14 G w rd n)
        rcases o with ⟨o1, o2, o3, o4⟩ | ⟨o1, o2, o3⟩
        · have mono := fn.2.2.1
          have hl3 : (c3 rd 1).toInt ≤ 150 := by rw [o2.1.1]; exact o2.1.2.1.2
          have hp3 := o2.2.2.2.1.2
          obtain ⟨c', uu, r1, r2, r3, r4⟩ := ih m (k + 1) c3 _ o2 o3 (by omega) (by omega) (by omega)
          rw [o1]
          exact ⟨c', uu, (fn.tr f3).tr r1, g3.tr r2, r3, r4⟩
        · exact ⟨c3, _, fn.tr f3, g3, k26_w o3 m, Or.inr ⟨o1, o3, o2⟩⟩
      rcases hc.2.2.2.fin with ⟨k3, k8⟩ | ⟨k3, k8⟩
      · rw [if_pos k3, if_pos k8]
        by_cases q : k = 0
        · have qz : nI k = 0 := by rw [q]; rfl
          rw [if_pos (show nI k ≤ 0 by rw [qz]; decide), if_pos (h11.trans qz)]
          exact turn (by rw [K_X8_read_26, if_pos h.2.2.1, if_pos k8, if_pos (h11.trans qz)])
        · have qn : ¬ u a8 11 = 0 := fun z => by
            rw [h11] at z
            exact nI_ne0 (by omega) (by omega) z
          rw [if_neg (nI_nle (by omega) (by omega)), if_neg qn]
          exact ⟨n1, u, fn, fsb_rf, rfl, Or.inl ⟨k, hk150, rfl, h.2.2.1, h11, hc.2.1⟩⟩
      · rw [if_neg k3, if_neg k8]
        exact turn (by rw [K_X8_read_26, if_pos h.2.2.1, if_neg k8])
end RD
