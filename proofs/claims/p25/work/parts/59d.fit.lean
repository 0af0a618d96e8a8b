/-! THE NEXT LOOK: look, ask -/
section LOOK
variable {G : Gm} {w w' : Mw} {h0 a7 a8 : Nat} {v c u c1 u1 : Mv} {s x y z T r1 r2 : Int32} {f : Nat → Int32}
theorem i_add0 (x : Int32) : x + 0 = x := Int32.add_zero x
theorem has0 (n : Nat) (hn : n < 32) : (F_X8_has G w v s (nI n) = 0) ↔ ¬ bt s n = true := by
  rw [has_eq n hn]
  by_cases b : bt s n = true
  · rw [if_pos b]; exact ⟨fun q => absurd q (by decide), fun q => absurd b q⟩
  · rw [if_neg b]; exact ⟨fun _ => b, fun _ => rfl⟩
theorem lt5 {k : Nat} (hk : k ≤ 1000) : (5 : Int32) < nI k ↔ 5 < k := by
  rw [i_lt, nI_toInt (by omega), show (5 : Int32).toInt = 5 from by decide]
  omega
theorem p64 (rec10 : Mv → Int32 → Int32 → Int32 → Int32 → Int32 → Int32 → Int32 → Int32) (rec26 : Mv → Int32 → Int32 → Int32 → Int32 → Int32 → Int32 → Int32 → Int32 → Int32 → Int32) (hf : ∀ j, j ≤ 5 → (if T = 0 then F_X8_liftsBy G w v (nI j) x y else F_X8_weighsBy G w v (nI j) x y) = f j) {a M : Nat} (ha : a ≤ 5) (hM : M ≤ 6) {p q : Int32} : ∀ (n j : Nat), j ≤ 6 → 6 - j < n → K_X8_partBy_64 G w h0 rec10 rec26 n v s x z T p q y (nI M) (nI a) (f a) (nI (cn f s a j)) (nI j) = rec26 v s x z T p q y (nI (bg M (cn f s a 6))) (nI (a + 1)) := by
  intro n
  induction n with
  | zero => intro j _ h; omega
  | succ n ih =>
    intro j hj hf1
    rw [K_X8_partBy_64]
    unfold K_X8_partBy_151
    rw [nI_1]
    by_cases c5 : (5 : Int32) < nI j
    · have := (lt5 (by omega)).mp c5
      have ej : j = 6 := by omega
      have l := cn_le (f := f) (s := s) (a := a) 6
      rw [if_pos c5, ej, bg]
      by_cases c1 : nI (cn f s a 6) ≤ nI M
      · have := (nI_leI (by omega) (by omega)).mp c1
        rw [if_pos c1, if_neg (show ¬ M < cn f s a 6 by omega)]
      · have : ¬ cn f s a 6 ≤ M := fun z => c1 ((nI_leI (by omega) (by omega)).mpr z)
        rw [if_neg c1, if_pos (show M < cn f s a 6 by omega)]
    · have hlt : j ≤ 5 := Nat.not_lt.mp fun z => c5 ((lt5 (by omega)).mpr z)
      have e1 := hf j hlt
      have t := ih (j + 1) (by omega) (by omega)
      rw [cn] at t
      rw [if_neg c5]
      have key : K_X8_partBy_94 G w h0 rec10 rec26 (K_X8_partBy_64 G w h0 rec10 rec26 n) v s x z T p q y (nI M) (nI a) (f a) (nI (cn f s a j)) (nI j) (f j) = rec26 v s x z T p q y (nI (bg M (cn f s a 6))) (nI (a + 1)) := by
        unfold K_X8_partBy_94 K_X8_partBy_127 K_X8_partBy_128
        rw [i_add0, nI_1, nI_1]
        by_cases b1 : bt s a = true
        · rw [if_neg (fun z => (has0 a (by omega)).mp z b1)]
          rw [if_pos b1] at t
          by_cases b2 : bt s j = true
          · rw [if_neg (fun z => (has0 j (by omega)).mp z b2)]
            rw [if_pos b2] at t
            by_cases b3 : f a = f j
            · rw [if_pos b3]
              rw [if_pos b3] at t
              exact t
            · rw [if_neg b3]
              rw [if_neg b3] at t
              exact t
          · rw [if_pos ((has0 j (by omega)).mpr b2)]
            rw [if_neg b2] at t
            exact t
        · rw [if_pos ((has0 a (by omega)).mpr b1)]
          rw [if_neg b1] at t
          exact t
      by_cases c3 : T = 0
      · rw [if_pos c3] at e1
        rw [if_pos c3, e1]
        exact key
      · rw [if_neg c3] at e1
        rw [if_neg c3, e1]
        exact key
theorem p26 (rec10 : Mv → Int32 → Int32 → Int32 → Int32 → Int32 → Int32 → Int32 → Int32) (hf : ∀ j, j ≤ 5 → (if T = 0 then F_X8_liftsBy G w v (nI j) x y else F_X8_weighsBy G w v (nI j) x y) = f j) {p q : Int32} : ∀ (n a : Nat), a ≤ 6 → 6 - a < n → K_X8_partBy_26 G w h0 rec10 n v s x z T p q y (nI (gs f s a)) (nI a) = if q ≤ nI (gs f s 6) then rec10 v s x z T p q (y + 1) else rec10 v s x z T y (nI (gs f s 6)) (y + 1) := by
  intro n
  induction n with
  | zero => intro a _ h; omega
  | succ n ih =>
    intro a ha hf1
    rw [K_X8_partBy_26]
    by_cases c5 : (5 : Int32) < nI a
    · have := (lt5 (by omega)).mp c5
      have ea : a = 6 := by omega
      rw [if_pos c5, ea]
      unfold K_X8_partBy_173 K_X8_partBy_189
      by_cases c1 : q ≤ nI (gs f s 6)
      · simp only [if_pos c1]
      · simp only [if_neg c1]
    · have hlt : a ≤ 5 := Nat.not_lt.mp fun z => c5 ((lt5 (by omega)).mpr z)
      have e1 := hf a hlt
      rw [if_neg c5]
      have l := gs_le (f := f) (s := s) a
      have t := p64 (h0 := h0) (s := s) (z := z) rec10 (K_X8_partBy_26 G w h0 rec10 n) hf hlt l (p := p) (q := q) 7 0 (by omega) (by omega)
      have key : K_X8_partBy_56 G w h0 rec10 (K_X8_partBy_26 G w h0 rec10 n) v s x z T p q y (nI (gs f s a)) (nI a) (f a) = _ := t.trans (ih (a + 1) (by omega) (by omega))
      by_cases c3 : T = 0
      · rw [if_pos c3] at e1
        rw [if_pos c3, e1]
        exact key
      · rw [if_neg c3] at e1
        rw [if_neg c3, e1]
        exact key
theorem S0_ne (S : S_X0 G h0) : rf G h0 0 ≠ h0 := tg_ne (S_X0.f0 S) (S_X0.h S) rfl
def lr (N p q : Int32) : Prop := p = q ∨ (p = N ∧ q = 100000)
theorem lr_le {N p q g : Int32} {n k : Nat} (h : lr N p q) (hN : N.toInt = n) (hg : g = nI k) (hk : k < n) (hn : n ≤ 100) : p ≤ g ↔ q ≤ g := by
  rcases h with h | ⟨h1, h2⟩
  · rw [h]
  · rw [h1, h2, hg, i_le, i_le, hN, nI_toInt (by omega), show (100000 : Int32).toInt = 100000 from by decide]
    omega
theorem look_loop (S7 : S_X7 G a7) (hs : ¬ s = 0) (hb : Bd (c (rf G (rf G a7 0) 2) (Int32.toNatClampNeg x)) 1 30) : ∀ (n m k : Nat) (v : Mv) (p q r : Int32), k ≤ 61 → 61 - k < n → 61 - k < m → Oth G (rf G a7 5) c v → lr 7 q r → (K_X7_look_40 G w a7 n v x s p q (nI k)).1 = K_X8_partBy_10 G w' a8 m u s (c (rf G (rf G a7 0) 2) (Int32.toNatClampNeg x)) 60 1 p r (nI k) := by
  intro n
  induction n with
  | zero => intro m k v p q r _ h; omega
  | succ n ih =>
    intro m k v p q r hk hf1 hf2 hO hL
    match m, hf2 with
    | 0, hf2 => exact absurd hf2 (by omega)
    | m + 1, hf2 =>
      rw [K_X7_look_40, K_X8_partBy_10]
      by_cases c1 : (60 : Int32) < nI k
      · rw [if_pos c1, if_pos c1]
      · have hlt : k ≤ 60 := Nat.not_lt.mp fun z => c1 (i_lt.mpr (by rw [nI_toInt (by omega), show (60 : Int32).toInt = 60 from by decide]; omega))
        rw [if_neg c1, if_neg c1, if_neg hs]
        have S0 := S_X7.f5 S7
        have ev : v (rf G (rf G a7 0) 2) = c (rf G (rf G a7 0) 2) := hO _ (tg_ne (S_X6.f2 (S_X7.f0 S7)) (S_X0.h S0) rfl) (tg_ne (S_X6.f2 (S_X7.f0 S7)) (S_X0.f0 S0) rfl)
        rw [ev]
        generalize c (rf G (rf G a7 0) 2) (Int32.toNatClampNeg x) = W at hb ih ⊢
        have hy : Bd (nI k) 0 99 := ⟨by rw [nI_toInt (by omega)]; omega, by rw [nI_toInt (by omega)]; omega⟩
        have bk : ∀ j : Nat, j ≤ 5 → Bd (nI j) 0 5 := fun j hj => ⟨by rw [nI_toInt (by omega)]; omega, by rw [nI_toInt (by omega)]; omega⟩
        obtain ⟨q1, q2⟩ := filled_ThingKind (G := G) (w := w) (h0 := rf G a7 5) (s := s) (x := W) (y := nI k) (f := fun j => F_X8_weighsBy G w' u (nI j) W (nI k)) (S0_ne S0) (fun v k hk => weq (bk k hk)) v
        have g1 := q1.most (w := w)
        have t := p26 (G := G) (w := w') (h0 := a8) (v := u) (s := s) (x := W) (y := nI k) (z := 60) (T := 1) (f := fun j => F_X8_weighsBy G w' u (nI j) W (nI k)) (K_X8_partBy_10 G w' a8 m) (fun j _ => if_neg (by decide)) (p := p) (q := r) 7 0 (by omega) (by omega)
        have t : K_X8_partBy_26 G w' a8 (K_X8_partBy_10 G w' a8 m) 7 u s W 60 1 p r (nI k) 0 0 = _ := t
        rw [t]
        unfold K_X7_look_c1 K_X7_look_89
        rw [g1, nI_1]
        have l := gs_le (f := fun j => F_X8_weighsBy G w' u (nI j) W (nI k)) (s := s) 6
        generalize gs (fun j => F_X8_weighsBy G w' u (nI j) W (nI k)) s 6 = g at l ⊢
        have key := lr_le (g := nI g) (n := 7) hL (by decide) rfl (show g < 7 by omega) (by omega)
        have hO' := hO.tr q2
        generalize F_X0_fillByThingKind G w v (rf G a7 5) s W (nI k) = v2 at hO' ⊢
        by_cases c2 : q ≤ nI g
        · rw [if_pos c2, if_pos (key.mp c2)]
          exact ih m (k + 1) v2 p q r (by omega) (by omega) (by omega) hO' hL
        · rw [if_neg c2, if_neg (fun z => c2 (key.mpr z))]
          exact ih m (k + 1) v2 (nI k) (nI g) (nI g) (by omega) (by omega) (by omega) hO' (Or.inl rfl)
theorem ask_loop (S7 : S_X7 G a7) (hs : ¬ s = 0) (hb : Bd (c (rf G (rf G a7 0) 5) (Int32.toNatClampNeg x)) 1 9) : ∀ (n m k : Nat) (v : Mv) (p q r : Int32), k ≤ 100 → 100 - k < n → 100 - k < m → Oth G (rf G a7 5) c v → lr 7 q r → (K_X7_ask_40 G w a7 n v x s p q (nI k)).1 = K_X8_partBy_10 G w' a8 m u s (c (rf G (rf G a7 0) 5) (Int32.toNatClampNeg x)) 99 0 p r (nI k) := by
  intro n
  induction n with
  | zero => intro m k v p q r _ h; omega
  | succ n ih =>
    intro m k v p q r hk hf1 hf2 hO hL
    match m, hf2 with
    | 0, hf2 => exact absurd hf2 (by omega)
    | m + 1, hf2 =>
      rw [K_X7_ask_40, K_X8_partBy_10]
      by_cases c1 : (99 : Int32) < nI k
      · rw [if_pos c1, if_pos c1]
      · have hlt : k ≤ 99 := Nat.not_lt.mp fun z => c1 (i_lt.mpr (by rw [nI_toInt (by omega), show (99 : Int32).toInt = 99 from by decide]; omega))
        rw [if_neg c1, if_neg c1, if_neg hs]
        have S0 := S_X7.f5 S7
        have ev : v (rf G (rf G a7 0) 5) = c (rf G (rf G a7 0) 5) := hO _ (tg_ne (S_X6.f5 (S_X7.f0 S7)) (S_X0.h S0) rfl) (tg_ne (S_X6.f5 (S_X7.f0 S7)) (S_X0.f0 S0) rfl)
        rw [ev]
        generalize c (rf G (rf G a7 0) 5) (Int32.toNatClampNeg x) = W at hb ih ⊢
        have hy : Bd (nI k) 0 99 := ⟨by rw [nI_toInt (by omega)]; omega, by rw [nI_toInt (by omega)]; omega⟩
        have bk : ∀ j : Nat, j ≤ 5 → Bd (nI j) 0 5 := fun j hj => ⟨by rw [nI_toInt (by omega)]; omega, by rw [nI_toInt (by omega)]; omega⟩
        obtain ⟨q1, q2⟩ := filled_OneKind (G := G) (w := w) (h0 := rf G a7 5) (s := s) (x := W) (y := nI k) (f := fun j => F_X8_liftsBy G w' u (nI j) W (nI k)) (S0_ne S0) (fun v k hk => leq (bk k hk) (hb.w 0 9 (by omega)) hy) v
        have g1 := q1.most (w := w)
        have t := p26 (G := G) (w := w') (h0 := a8) (v := u) (s := s) (x := W) (y := nI k) (z := 99) (T := 0) (f := fun j => F_X8_liftsBy G w' u (nI j) W (nI k)) (K_X8_partBy_10 G w' a8 m) (fun j _ => if_pos rfl) (p := p) (q := r) 7 0 (by omega) (by omega)
        have t : K_X8_partBy_26 G w' a8 (K_X8_partBy_10 G w' a8 m) 7 u s W 99 0 p r (nI k) 0 0 = _ := t
        rw [t]
        unfold K_X7_ask_c1 K_X7_ask_89
        rw [g1, nI_1]
        have l := gs_le (f := fun j => F_X8_liftsBy G w' u (nI j) W (nI k)) (s := s) 6
        generalize gs (fun j => F_X8_liftsBy G w' u (nI j) W (nI k)) s 6 = g at l ⊢
        have key := lr_le (g := nI g) (n := 7) hL (by decide) rfl (show g < 7 by omega) (by omega)
        have hO' := hO.tr q2
        generalize F_X0_fillByOneKind G w v (rf G a7 5) s W (nI k) = v2 at hO' ⊢
        by_cases c2 : q ≤ nI g
        · rw [if_pos c2, if_pos (key.mp c2)]
          exact ih m (k + 1) v2 p q r (by omega) (by omega) (by omega) hO' hL
        · rw [if_neg c2, if_neg (fun z => c2 (key.mpr z))]
          exact ih m (k + 1) v2 (nI k) (nI g) (nI g) (by omega) (by omega) (by omega) hO' (Or.inl rfl)
theorem m_look (S7 : S_X7 G a7) (S8 : S_X8 G a8) (h : RX G a7 a8 c u) (e1 : (r1, c1) = F_X7_look G w c a7 x) (e2 : (r2, u1) = F_X8_look G w' u a8 x) : r1 = r2 := by
  unfold F_X7_look K_X7_look_e K_X7_look_c2 F_X7_bad K_X7_bad_e F_X6_hasThing K_X6_hasThing_e at e1
  unfold F_X8_look K_X8_look_e K_X8_look_c1 F_X8_bad K_X8_bad_e F_X8_isThing K_X8_isThing_e at e2
  have t0 : c (rf G a7 0) 0 = u (rf G a8 1) (Int32.toNatClampNeg 0) := h.1.1.1.1
  have tb := h.1.1.2.1.1
  rw [← t0] at e2
  have d1 : (F_X8_in G w' u x 0 (c (rf G a7 0) 0 - 1) = 0) ↔ ((if x < 0 then (0 : Int32) else if c (rf G a7 0) 0 ≤ x then 0 else 1) = 0) := by
    rw [in8 (G' := G) (w' := w) (v' := c), isW0, hs_in tb]
  by_cases q : (if x < 0 then (0 : Int32) else if c (rf G a7 0) 0 ≤ x then 0 else 1) = 0
  · rw [if_pos q] at e1
    rw [if_pos (d1.mpr q)] at e2
    exact (Prod.mk.inj e1).1.trans (Prod.mk.inj e2).1.symm
  rw [if_neg q] at e1
  rw [if_neg (fun z => q (d1.mp z))] at e2
  obtain ⟨k1, k2⟩ := cell_of (X := 13) h.1.1.2.2.2.1 tb (hs_bd tb q) (by decide) (by omega)
  rw [k1, ← set_is (w := w) (w' := w') h] at e2
  have e2 := (Prod.mk.inj e2).1
  rw [e2]
  unfold F_X8_partBy K_X8_partBy_e
  generalize F_X6_fittingThingKinds G w c (rf G a7 0) x = s at e1 ⊢
  by_cases hs : s = 0
  · rw [if_pos hs] at e1
    rw [(Prod.mk.inj e1).1, K_X8_partBy_10, if_neg (show ¬ (60 : Int32) < 0 by decide), if_pos hs]
  · rw [if_neg hs] at e1
    have e1 := congrArg Prod.fst e1
    exact e1.trans (look_loop (w := w) (w' := w') (a8 := a8) (u := u) S7 hs k2 62 101 0 c (-1) 7 100000 (by omega) (by omega) (by omega) (fun _ _ _ => rfl) (Or.inr ⟨rfl, rfl⟩))
theorem m_ask (S7 : S_X7 G a7) (S8 : S_X8 G a8) (h : RX G a7 a8 c u) (e1 : (r1, c1) = F_X7_ask G w c a7 x) (e2 : (r2, u1) = F_X8_ask G w' u a8 x) : r1 = r2 := by
  unfold F_X7_ask K_X7_ask_e K_X7_ask_c2 F_X7_bad K_X7_bad_e F_X6_hasOne K_X6_hasOne_e at e1
  unfold F_X8_ask K_X8_ask_e K_X8_ask_c1 F_X8_bad K_X8_bad_e F_X8_isOne K_X8_isOne_e at e2
  have t0 : c (rf G a7 0) 3 = u (rf G a8 1) (Int32.toNatClampNeg 1) := h.1.1.1.2
  have tb := h.1.1.2.1.2
  rw [← t0] at e2
  have d1 : (F_X8_in G w' u x 0 (c (rf G a7 0) 3 - 1) = 0) ↔ ((if x < 0 then (0 : Int32) else if c (rf G a7 0) 3 ≤ x then 0 else 1) = 0) := by
    rw [in8 (G' := G) (w' := w) (v' := c), isW0, hs_in tb]
  by_cases q : (if x < 0 then (0 : Int32) else if c (rf G a7 0) 3 ≤ x then 0 else 1) = 0
  · rw [if_pos q] at e1
    rw [if_pos (d1.mpr q)] at e2
    exact (Prod.mk.inj e1).1.trans (Prod.mk.inj e2).1.symm
  rw [if_neg q] at e1
  rw [if_neg (fun z => q (d1.mp z))] at e2
  obtain ⟨k1, k2⟩ := cell_of (X := 27) h.1.1.2.2.2.2.2 tb (hs_bd tb q) (by decide) (by omega)
  rw [k1, ← set_kinds (w := w) (w' := w') h] at e2
  have e2 := (Prod.mk.inj e2).1
  rw [e2]
  unfold F_X8_partBy K_X8_partBy_e
  generalize F_X6_fittingOneKinds G w c (rf G a7 0) x = s at e1 ⊢
  by_cases hs : s = 0
  · rw [if_pos hs] at e1
    rw [(Prod.mk.inj e1).1, K_X8_partBy_10, if_neg (show ¬ (99 : Int32) < 0 by decide), if_pos hs]
  · rw [if_neg hs] at e1
    have e1 := congrArg Prod.fst e1
    exact e1.trans (ask_loop (w := w) (w' := w') (a8 := a8) (u := u) S7 hs k2 101 101 0 c (-1) 7 100000 (by omega) (by omega) (by omega) (fun _ _ _ => rfl) (Or.inr ⟨rfl, rfl⟩))
end LOOK
