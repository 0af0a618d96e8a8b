/-! WHAT FITS: class and reference alike (is, kinds) -/
section FIT
variable {G : Gm} {w w' : Mw} {a a7 a8 ha h4 : Nat} {c u c1 u1 : Mv} {x y z r1 r2 : Int32}
theorem i4s {s : Nat} (hs : s ≤ 6) : ((4 : Int32) * nI s).toInt = (4 * s : Nat) := by
  have hb : Bd (nI s) 0 20 := ⟨by rw [nI_toInt (by omega)]; omega, by rw [nI_toInt (by omega)]; omega⟩
  obtain ⟨-, i1⟩ := ix4 hb 0 (by omega)
  rw [nn_nI (by omega)] at i1
  exact i1
theorem cell5 {h s : Nat} {M : Int32} (m : Nat) (hM : M.toInt = m) (hm : m ≤ 3) (hs : s ≤ 6) : F_X4_cell_5 G w c h (nI s) M = c (rf G h 1) (4 * s + m) := by
  unfold F_X4_cell_5 K_X4_cell_5_e
  rw [(ixa _ m (i4s hs) hM (by omega) (by omega)).1]
theorem cell6 {h s : Nat} {M : Int32} (m : Nat) (hM : M.toInt = m) (hm : m ≤ 3) (hs : s ≤ 6) : F_X4_cell_6 G w c h (nI s) M = c (rf G h 1) (4 * s + m) := by
  unfold F_X4_cell_6 K_X4_cell_6_e
  rw [(ixa _ m (i4s hs) hM (by omega) (by omega)).1]
theorem or0 (q : Int32) : q ||| 0 = q := b_ext fun i _ => by rw [b_or, b_0, Bool.or_false]
theorem no_Notes (rec : Mv → Int32 → Int32 → Int32 → Int32 → Int32 → Int32) {x0 x3 k : Int32} {S : Nat} (hS : S ≤ 6) (e : u (rf G a8 1) 3 = nI S) : ∀ (n s : Nat), s ≤ S → S - s < n → K_X8_kindsOf_30 G w' a8 rec n u x0 1 x3 70 k 0 (nI s) = K_X8_kindsOf_175 G w' a8 rec u x0 1 70 k 0 x3 := by
  intro n
  induction n with
  | zero => intro s _ h; omega
  | succ n ih =>
    intro s hs hf
    rw [K_X8_kindsOf_30, if_neg (show ¬ (1 : Int32) = 0 by decide)]
    unfold K_X8_kindsOf_45
    rw [show Int32.toNatClampNeg 3 = 3 from by decide, e]
    by_cases q : nI S ≤ nI s
    · rw [if_pos q, if_pos rfl]
    · have hlt : s < S := Nat.not_le.mp fun z => q ((nI_leI (by omega) (by omega)).mpr z)
      rw [if_neg q, if_neg (show ¬ (1 : Int32) = 0 by decide)]
      unfold K_X8_kindsOf_106 K_X8_kindsOf_152 K_X8_kindsOf_153
      rw [if_pos rfl, nI_1]
      exact ih (s + 1) (by omega) (by omega)
theorem fit_Notes (rec : Mv → Int32 → Int32 → Int32 → Int32 → Int32 → Int32) {x0 x3 k : Int32} {S : Nat} (hk : Bd k 0 5) (hS : S ≤ 6) (e : u (rf G a8 1) 3 = nI S) (ec : c (rf G a 10) 2 = nI S) (hR : RR G (rf G a8 1) c u (rf G a 10) 3 70 6 (b10 (c a 0).toInt)) : ∀ (n m s : Nat), s ≤ S → S - s < n → S - s < m → K_X8_kindsOf_30 G w' a8 rec n u x0 1 x3 70 k 1 (nI s) = K_X8_kindsOf_175 G w' a8 rec u x0 1 70 k (if K_X6_fitsNotes_2 G w a m c x0 k (nI s) = 0 then 0 else (1 : Int32) <<< (k &&& 31)) x3 := by
  intro n
  induction n with
  | zero => intro m s _ h; omega
  | succ n ih =>
    intro m s hs hf hf2
    match m, hf2 with
    | 0, hf2 => exact absurd hf2 (by omega)
    | m + 1, hf2 =>
      rw [K_X8_kindsOf_30, if_neg (show ¬ (1 : Int32) = 0 by decide), K_X6_fitsNotes_2, ec]
      unfold K_X8_kindsOf_45
      rw [show Int32.toNatClampNeg 3 = 3 from by decide, e]
      by_cases q : nI S ≤ nI s
      · rw [if_pos q, if_pos q, if_neg (show ¬ (1 : Int32) = 0 by decide), if_neg (show ¬ (1 : Int32) = 0 by decide)]
      · have hlt : s < S := Nat.not_le.mp fun z => q ((nI_leI (by omega) (by omega)).mpr z)
        rw [if_neg q, if_neg q, if_neg (show ¬ (1 : Int32) = 0 by decide)]
        have nS : nn (c (rf G a 10) 2) = S := by rw [ec]; exact nn_nI (by omega)
        obtain ⟨j0, j1⟩ := ixa (X := 70) 70 _ (by decide) (i4s (s := s) (by omega)) (by omega) (by omega)
        have t0 := hR.2 (4 * s) (by omega)
        have t1 := hR.2 (4 * s + 1) (by omega)
        have t2 := hR.2 (4 * s + 2) (by omega)
        have t3 := hR.2 (4 * s + 3) (by omega)
        rw [show (4 * s + 1) % 4 = 1 by omega] at t1
        rw [show (4 * s + 2) % 4 = 2 by omega] at t2
        have b1 : Bd (c (rf G (rf G a 10) 1) (4 * s + 1)) 1 30 := t1.2
        have b2 : Bd (c (rf G (rf G a 10) 1) (4 * s + 2)) 0 99 := t2.2
        unfold K_X8_kindsOf_106 K_X8_kindsOf_148 K_X8_kindsOf_152 K_X8_kindsOf_153 K_X6_fitsNotes_62
        rw [j0, (ixa (K := 1) _ 1 j1 (by decide) (by omega) (by omega)).1, (ixa (K := 2) _ 2 j1 (by decide) (by omega) (by omega)).1, (ixa (K := 3) _ 3 j1 (by decide) (by omega) (by omega)).1, cell6 (M := 0) 0 (by decide) (by omega) (by omega), cell6 (M := 1) 1 (by decide) (by omega) (by omega), cell6 (M := 2) 2 (by decide) (by omega) (by omega), cell6 (M := 3) 3 (by decide) (by omega) (by omega), Nat.add_assoc, Nat.add_assoc, Nat.add_assoc, Nat.add_zero (4 * s), ← t0.1, ← t1.1, ← t2.1, ← t3.1, nI_1]
        have hq : F_X8_weighsBy G w' u k (c (rf G (rf G a 10) 1) (4 * s + 1)) (c (rf G (rf G a 10) 1) (4 * s + 2)) = F_X5_thingWeighs G w c k (c (rf G (rf G a 10) 1) (4 * s + 1)) (c (rf G (rf G a 10) 1) (4 * s + 2)) := (weq hk).symm
        rw [hq, if_neg (show ¬ (1 : Int32) = 0 by decide)]
        by_cases d1 : c (rf G (rf G a 10) 1) (4 * s) = x0
        · rw [if_pos d1, if_pos d1]
          by_cases d2 : c (rf G (rf G a 10) 1) (4 * s + 3) = F_X5_thingWeighs G w c k (c (rf G (rf G a 10) 1) (4 * s + 1)) (c (rf G (rf G a 10) 1) (4 * s + 2))
          · rw [if_pos d2, if_pos d2.symm]
            exact ih m (s + 1) (by omega) (by omega) (by omega)
          · rw [if_neg d2, if_neg (fun z => d2 z.symm), if_pos rfl]
            exact no_Notes rec hS e n (s + 1) (by omega) (by omega)
        · rw [if_neg d1, if_neg d1]
          exact ih m (s + 1) (by omega) (by omega) (by omega)
theorem kinds_Notes {x0 : Int32} {S : Nat} (hS : S ≤ 6) (e : u (rf G a8 1) 3 = nI S) (ec : c (rf G a 10) 2 = nI S) (hR : RR G (rf G a8 1) c u (rf G a 10) 3 70 6 (b10 (c a 0).toInt)) : ∀ (n k : Nat) (q : Int32), k ≤ 6 → 6 - k < n → K_X6_fittingThingKinds_4 G w a n c x0 q (nI k) = K_X8_kindsOf_18 G w' a8 n u x0 1 q 70 (nI k) := by
  intro n
  induction n with
  | zero => intro k q _ h; omega
  | succ n ih =>
    intro k q hk hf
    rw [K_X6_fittingThingKinds_4, K_X8_kindsOf_18]
    by_cases c6 : (6 : Int32) ≤ nI k
    · have := (le_nI 6 (by decide) (by omega)).mp c6
      rw [if_pos c6, if_pos (i_lt.mpr (by rw [nI_toInt (by omega), show (5 : Int32).toInt = 5 from by decide]; omega))]
    · have hlt : k < 6 := Nat.not_le.mp fun z => c6 ((le_nI 6 (by decide) (by omega)).mpr z)
      have hb : Bd (nI k) 0 5 := ⟨by rw [nI_toInt (by omega)]; omega, by rw [nI_toInt (by omega)]; omega⟩
      rw [if_neg c6, if_neg (show ¬ (5 : Int32) < nI k from fun z => by
        have := i_lt.mp z
        rw [nI_toInt (by omega), show (5 : Int32).toInt = 5 from by decide] at this
        omega)]
      have ff := fit_Notes (w := w) (w' := w') (K_X8_kindsOf_18 G w' a8 n) (x0 := x0) (x3 := q) hb hS e ec hR 7 7 0 (by omega) (by omega) (by omega)
      have ff : K_X8_kindsOf_30 G w' a8 (K_X8_kindsOf_18 G w' a8 n) 7 u x0 1 q 70 (nI k) 1 0 = _ := ff
      rw [ff]
      have ef : F_X6_fitsNotes G w c a x0 (nI k) = K_X6_fitsNotes_2 G w a 7 c x0 (nI k) (nI 0) := rfl
      rw [ef]
      unfold K_X6_fittingThingKinds_25 K_X8_kindsOf_175
      rw [nI_1]
      by_cases d : K_X6_fitsNotes_2 G w a 7 c x0 (nI k) (nI 0) = 0
      · rw [if_pos d, if_pos d, or0]
        exact ih (k + 1) q (by omega) (by omega)
      · rw [if_neg d, if_neg d]
        exact ih (k + 1) _ (by omega) (by omega)
theorem no_Marks (rec : Mv → Int32 → Int32 → Int32 → Int32 → Int32 → Int32) {x0 x3 k : Int32} {S : Nat} (hS : S ≤ 6) (e : u (rf G a8 1) 4 = nI S) : ∀ (n s : Nat), s ≤ S → S - s < n → K_X8_kindsOf_30 G w' a8 rec n u x0 0 x3 94 k 0 (nI s) = K_X8_kindsOf_175 G w' a8 rec u x0 0 94 k 0 x3 := by
  intro n
  induction n with
  | zero => intro s _ h; omega
  | succ n ih =>
    intro s hs hf
    rw [K_X8_kindsOf_30, if_pos rfl]
    unfold K_X8_kindsOf_45
    rw [show Int32.toNatClampNeg 4 = 4 from by decide, e]
    by_cases q : nI S ≤ nI s
    · rw [if_pos q, if_pos rfl]
    · have hlt : s < S := Nat.not_le.mp fun z => q ((nI_leI (by omega) (by omega)).mpr z)
      rw [if_neg q, if_pos rfl]
      unfold K_X8_kindsOf_106 K_X8_kindsOf_152 K_X8_kindsOf_153
      rw [if_pos rfl, nI_1]
      exact ih (s + 1) (by omega) (by omega)
theorem fit_Marks (rec : Mv → Int32 → Int32 → Int32 → Int32 → Int32 → Int32) {x0 x3 k : Int32} {S : Nat} (hk : Bd k 0 5) (hS : S ≤ 6) (e : u (rf G a8 1) 4 = nI S) (ec : c (rf G a 11) 2 = nI S) (hR : RR G (rf G a8 1) c u (rf G a 11) 4 94 6 (b11 (c a 3).toInt)) : ∀ (n m s : Nat), s ≤ S → S - s < n → S - s < m → K_X8_kindsOf_30 G w' a8 rec n u x0 0 x3 94 k 1 (nI s) = K_X8_kindsOf_175 G w' a8 rec u x0 0 94 k (if K_X6_fitsMarks_2 G w a m c x0 k (nI s) = 0 then 0 else (1 : Int32) <<< (k &&& 31)) x3 := by
  intro n
  induction n with
  | zero => intro m s _ h; omega
  | succ n ih =>
    intro m s hs hf hf2
    match m, hf2 with
    | 0, hf2 => exact absurd hf2 (by omega)
    | m + 1, hf2 =>
      rw [K_X8_kindsOf_30, if_pos rfl, K_X6_fitsMarks_2, ec]
      unfold K_X8_kindsOf_45
      rw [show Int32.toNatClampNeg 4 = 4 from by decide, e]
      by_cases q : nI S ≤ nI s
      · rw [if_pos q, if_pos q, if_neg (show ¬ (1 : Int32) = 0 by decide), if_neg (show ¬ (1 : Int32) = 0 by decide)]
      · have hlt : s < S := Nat.not_le.mp fun z => q ((nI_leI (by omega) (by omega)).mpr z)
        rw [if_neg q, if_neg q, if_pos rfl]
        have nS : nn (c (rf G a 11) 2) = S := by rw [ec]; exact nn_nI (by omega)
        obtain ⟨j0, j1⟩ := ixa (X := 94) 94 _ (by decide) (i4s (s := s) (by omega)) (by omega) (by omega)
        have t0 := hR.2 (4 * s) (by omega)
        have t1 := hR.2 (4 * s + 1) (by omega)
        have t2 := hR.2 (4 * s + 2) (by omega)
        have t3 := hR.2 (4 * s + 3) (by omega)
        rw [show (4 * s + 1) % 4 = 1 by omega] at t1
        rw [show (4 * s + 2) % 4 = 2 by omega] at t2
        have b1 : Bd (c (rf G (rf G a 11) 1) (4 * s + 1)) 1 9 := t1.2
        have b2 : Bd (c (rf G (rf G a 11) 1) (4 * s + 2)) 0 99 := t2.2
        unfold K_X8_kindsOf_106 K_X8_kindsOf_148 K_X8_kindsOf_152 K_X8_kindsOf_153 K_X6_fitsMarks_62
        rw [j0, (ixa (K := 1) _ 1 j1 (by decide) (by omega) (by omega)).1, (ixa (K := 2) _ 2 j1 (by decide) (by omega) (by omega)).1, (ixa (K := 3) _ 3 j1 (by decide) (by omega) (by omega)).1, cell6 (M := 0) 0 (by decide) (by omega) (by omega), cell6 (M := 1) 1 (by decide) (by omega) (by omega), cell6 (M := 2) 2 (by decide) (by omega) (by omega), cell6 (M := 3) 3 (by decide) (by omega) (by omega), Nat.add_assoc, Nat.add_assoc, Nat.add_assoc, Nat.add_zero (4 * s), ← t0.1, ← t1.1, ← t2.1, ← t3.1, nI_1]
        have hq : F_X8_liftsBy G w' u k (c (rf G (rf G a 11) 1) (4 * s + 1)) (c (rf G (rf G a 11) 1) (4 * s + 2)) = F_X5_oneLifts G w c k (c (rf G (rf G a 11) 1) (4 * s + 1)) (c (rf G (rf G a 11) 1) (4 * s + 2)) := (leq hk (b1.w 0 9 (by omega)) b2).symm
        rw [hq, if_neg (show ¬ (1 : Int32) = 0 by decide)]
        by_cases d1 : c (rf G (rf G a 11) 1) (4 * s) = x0
        · rw [if_pos d1, if_pos d1]
          by_cases d2 : c (rf G (rf G a 11) 1) (4 * s + 3) = F_X5_oneLifts G w c k (c (rf G (rf G a 11) 1) (4 * s + 1)) (c (rf G (rf G a 11) 1) (4 * s + 2))
          · rw [if_pos d2, if_pos d2.symm]
            exact ih m (s + 1) (by omega) (by omega) (by omega)
          · rw [if_neg d2, if_neg (fun z => d2 z.symm), if_pos rfl]
            exact no_Marks rec hS e n (s + 1) (by omega) (by omega)
        · rw [if_neg d1, if_neg d1]
          exact ih m (s + 1) (by omega) (by omega) (by omega)
theorem kinds_Marks {x0 : Int32} {S : Nat} (hS : S ≤ 6) (e : u (rf G a8 1) 4 = nI S) (ec : c (rf G a 11) 2 = nI S) (hR : RR G (rf G a8 1) c u (rf G a 11) 4 94 6 (b11 (c a 3).toInt)) : ∀ (n k : Nat) (q : Int32), k ≤ 6 → 6 - k < n → K_X6_fittingOneKinds_4 G w a n c x0 q (nI k) = K_X8_kindsOf_18 G w' a8 n u x0 0 q 94 (nI k) := by
  intro n
  induction n with
  | zero => intro k q _ h; omega
  | succ n ih =>
    intro k q hk hf
    rw [K_X6_fittingOneKinds_4, K_X8_kindsOf_18]
    by_cases c6 : (6 : Int32) ≤ nI k
    · have := (le_nI 6 (by decide) (by omega)).mp c6
      rw [if_pos c6, if_pos (i_lt.mpr (by rw [nI_toInt (by omega), show (5 : Int32).toInt = 5 from by decide]; omega))]
    · have hlt : k < 6 := Nat.not_le.mp fun z => c6 ((le_nI 6 (by decide) (by omega)).mpr z)
      have hb : Bd (nI k) 0 5 := ⟨by rw [nI_toInt (by omega)]; omega, by rw [nI_toInt (by omega)]; omega⟩
      rw [if_neg c6, if_neg (show ¬ (5 : Int32) < nI k from fun z => by
        have := i_lt.mp z
        rw [nI_toInt (by omega), show (5 : Int32).toInt = 5 from by decide] at this
        omega)]
      have ff := fit_Marks (w := w) (w' := w') (K_X8_kindsOf_18 G w' a8 n) (x0 := x0) (x3 := q) hb hS e ec hR 7 7 0 (by omega) (by omega) (by omega)
      have ff : K_X8_kindsOf_30 G w' a8 (K_X8_kindsOf_18 G w' a8 n) 7 u x0 0 q 94 (nI k) 1 0 = _ := ff
      rw [ff]
      have ef : F_X6_fitsMarks G w c a x0 (nI k) = K_X6_fitsMarks_2 G w a 7 c x0 (nI k) (nI 0) := rfl
      rw [ef]
      unfold K_X6_fittingOneKinds_25 K_X8_kindsOf_175
      rw [nI_1]
      by_cases d : K_X6_fitsMarks_2 G w a 7 c x0 (nI k) (nI 0) = 0
      · rw [if_pos d, if_pos d, or0]
        exact ih (k + 1) q (by omega) (by omega)
      · rw [if_neg d, if_neg d]
        exact ih (k + 1) _ (by omega) (by omega)
theorem set_is (h : RX G a7 a8 c u) : F_X6_fittingThingKinds G w c (rf G a7 0) x = F_X8_kindsOf G w' u a8 x 1 := by
  have hr := h.1.2.2.1
  obtain ⟨S, hS, eS⟩ := bd_nI (n := 6) hr.1.2
  have eU : u (rf G a8 1) 3 = nI S := hr.1.1.symm.trans eS
  have key := kinds_Notes (w := w) (w' := w') (x0 := x) hS eU eS hr 7 0 0 (by omega) (by omega)
  unfold F_X6_fittingThingKinds K_X6_fittingThingKinds_e F_X8_kindsOf K_X8_kindsOf_e K_X8_kindsOf_13
  rw [if_neg (show ¬ (1 : Int32) = 0 by decide)]
  exact key
theorem m_is (S7 : S_X7 G a7) (S8 : S_X8 G a8) (h : RX G a7 a8 c u) (e1 : (r1, c1) = F_X7_is G w c a7 x) (e2 : (r2, u1) = F_X8_is G w' u a8 x) : r1 = r2 := by
  unfold F_X7_is K_X7_is_e K_X7_is_c1 F_X7_bad K_X7_bad_e F_X6_hasThing K_X6_hasThing_e at e1
  unfold F_X8_is K_X8_is_e K_X8_is_c1 F_X8_bad K_X8_bad_e F_X8_isThing K_X8_isThing_e at e2
  have t0 : c (rf G a7 0) 0 = u (rf G a8 1) (Int32.toNatClampNeg 0) := h.1.1.1.1
  have tb := h.1.1.2.1.1
  rw [← t0] at e2
  have d1 : (F_X8_in G w' u x 0 (c (rf G a7 0) 0 - 1) = 0) ↔ ((if x < 0 then (0 : Int32) else if c (rf G a7 0) 0 ≤ x then 0 else 1) = 0) := by
    rw [in8 (G' := G) (w' := w) (v' := c), isW0, hs_in tb]
  by_cases q : (if x < 0 then (0 : Int32) else if c (rf G a7 0) 0 ≤ x then 0 else 1) = 0
  · rw [if_pos q] at e1
    rw [if_pos (d1.mpr q)] at e2
    exact (Prod.mk.inj e1).1.trans (Prod.mk.inj e2).1.symm
  rw [if_neg q] at e1
  rw [if_neg (fun z => q (d1.mp z))] at e2
  rw [(Prod.mk.inj e1).1, (Prod.mk.inj e2).1]
  exact set_is h
theorem set_kinds (h : RX G a7 a8 c u) : F_X6_fittingOneKinds G w c (rf G a7 0) x = F_X8_kindsOf G w' u a8 x 0 := by
  have hr := h.1.2.2.2
  obtain ⟨S, hS, eS⟩ := bd_nI (n := 6) hr.1.2
  have eU : u (rf G a8 1) 4 = nI S := hr.1.1.symm.trans eS
  have key := kinds_Marks (w := w) (w' := w') (x0 := x) hS eU eS hr 7 0 0 (by omega) (by omega)
  unfold F_X6_fittingOneKinds K_X6_fittingOneKinds_e F_X8_kindsOf K_X8_kindsOf_e K_X8_kindsOf_13
  rw [if_pos rfl]
  exact key
theorem m_kinds (S7 : S_X7 G a7) (S8 : S_X8 G a8) (h : RX G a7 a8 c u) (e1 : (r1, c1) = F_X7_kinds G w c a7 x) (e2 : (r2, u1) = F_X8_kinds G w' u a8 x) : r1 = r2 := by
  unfold F_X7_kinds K_X7_kinds_e K_X7_kinds_c1 F_X7_bad K_X7_bad_e F_X6_hasOne K_X6_hasOne_e at e1
  unfold F_X8_kinds K_X8_kinds_e K_X8_kinds_c1 F_X8_bad K_X8_bad_e F_X8_isOne K_X8_isOne_e at e2
  have t0 : c (rf G a7 0) 3 = u (rf G a8 1) (Int32.toNatClampNeg 1) := h.1.1.1.2
  have tb := h.1.1.2.1.2
  rw [← t0] at e2
  have d1 : (F_X8_in G w' u x 0 (c (rf G a7 0) 3 - 1) = 0) ↔ ((if x < 0 then (0 : Int32) else if c (rf G a7 0) 3 ≤ x then 0 else 1) = 0) := by
    rw [in8 (G' := G) (w' := w) (v' := c), isW0, hs_in tb]
  by_cases q : (if x < 0 then (0 : Int32) else if c (rf G a7 0) 3 ≤ x then 0 else 1) = 0
  · rw [if_pos q] at e1
    rw [if_pos (d1.mpr q)] at e2
    exact (Prod.mk.inj e1).1.trans (Prod.mk.inj e2).1.symm
  rw [if_neg q] at e1
  rw [if_neg (fun z => q (d1.mp z))] at e2
  rw [(Prod.mk.inj e1).1, (Prod.mk.inj e2).1]
  exact set_kinds h
end FIT
