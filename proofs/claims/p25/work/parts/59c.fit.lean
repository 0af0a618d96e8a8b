/-! ANSWERS: rows filled by a set of bits, and what is counted in them -/
section ANS
variable {G G' : Gm} {w w' : Mw} {h0 a8 : Nat} {v v' u : Mv} {s x y : Int32} {f g : Nat → Int32}
def nb (s : Int32) : Nat → Nat
  | 0 => 0
  | k + 1 => nb s k + (if bt s k = true then 1 else 0)
theorem nb_y {k : Nat} (h : bt s k = true) : nb s (k + 1) = nb s k + 1 := by rw [nb, if_pos h]
theorem nb_n {k : Nat} (h : ¬ bt s k = true) : nb s (k + 1) = nb s k := by rw [nb, if_neg h, Nat.add_zero]
theorem nb_st (k : Nat) : nb s k ≤ nb s (k + 1) ∧ nb s (k + 1) ≤ nb s k + 1 := by
  by_cases h : bt s k = true
  · rw [nb_y h]; omega
  · rw [nb_n h]; omega
theorem nb_mono {j k : Nat} (h : j ≤ k) : nb s j ≤ nb s k := by
  induction k with
  | zero => rw [show j = 0 by omega]; exact Nat.le_refl _
  | succ k ih =>
    rcases Nat.lt_or_ge k j with z | z
    · rw [show j = k + 1 by omega]; exact Nat.le_refl _
    · exact Nat.le_trans (ih z) (nb_st k).1
theorem nb_le (k : Nat) : nb s k ≤ k := by
  induction k with
  | zero => exact Nat.le_refl _
  | succ k ih => have := (nb_st (s := s) k).2; omega
theorem nb_0 (h : bt s 0 = false) : nb s 1 = 0 := by
  rw [nb_n (by rw [h]; decide)]; rfl
theorem nb_le1 (h : bt s 0 = false) {k : Nat} (hk : 1 ≤ k) : nb s k + 1 ≤ k := by
  induction k with
  | zero => omega
  | succ k ih =>
    rcases Nat.lt_or_ge 0 k with z | z
    · have := ih z; have := (nb_st (s := s) k).2; omega
    · have e : k = 0 := by omega
      subst e
      exact Nat.le_of_eq (congrArg (· + 1) (nb_0 h))
/-- a row holds what the bits below k answer -/
def AW (G : Gm) (h0 : Nat) (v : Mv) (s : Int32) (f : Nat → Int32) (k : Nat) : Prop := v h0 1 = nI (nb s k) ∧ ∀ j, j < k → bt s j = true → v (rf G h0 0) (nb s j) = f j
def Oth (G : Gm) (h0 : Nat) (v v' : Mv) : Prop := ∀ z, z ≠ h0 → z ≠ rf G h0 0 → v' z = v z
theorem Oth.tr {v1 v2 v3 : Mv} (p : Oth G h0 v1 v2) (q : Oth G h0 v2 v3) : Oth G h0 v1 v3 := fun z a b => (q z a b).trans (p z a b)
theorem put_AW (hne : rf G h0 0 ≠ h0) {k : Nat} (q : AW G h0 v s f k) (hk : nb s k ≤ 8) (hb : bt s k = true) : AW G h0 (F_X0_put G w v h0 (f k)) s f (k + 1) ∧ Oth G h0 v (F_X0_put G w v h0 (f k)) := by
  obtain ⟨q1, q2⟩ := q
  unfold F_X0_put K_X0_put_e
  rw [q1, if_neg (fun z => by have := (le_nI 9 (by decide) (by omega)).mp z; omega), nI_clamp (by omega), nI_1]
  refine ⟨⟨?_, fun j hj hbj => ?_⟩, fun z z1 z2 => ?_⟩
  · rw [stv_s, nb_y hb]
  · rw [stv_row hne]
    rcases Nat.lt_or_ge j k with z | z
    · have m1 : nb s (j + 1) ≤ nb s k := nb_mono z
      rw [nb_y hbj] at m1
      rw [stv_k (by omega)]
      exact q2 j z hbj
    · rw [show j = k by omega, stv_s]
  · rw [stv_row z1, stv_row z2]
theorem AW.skip {k : Nat} (q : AW G h0 v s f k) (hb : ¬ bt s k = true) : AW G h0 v s f (k + 1) := by
  obtain ⟨q1, q2⟩ := q
  refine ⟨by rw [nb_n hb]; exact q1, fun j hj hbj => ?_⟩
  rcases Nat.lt_or_ge j k with z | z
  · exact q2 j z hbj
  · rw [show j = k by omega] at hbj
    exact absurd hbj hb
theorem fill_ThingKind (hne : rf G h0 0 ≠ h0) (hf : ∀ (v : Mv) (k : Nat), k ≤ 5 → F_X5_thingWeighs G w v (nI k) x y = f k) : ∀ (n k : Nat) (v : Mv), k ≤ 6 → 6 - k < n → AW G h0 v s f k → AW G h0 (K_X0_fillByThingKind_8 G w h0 n v s x y (nI k)) s f 6 ∧ Oth G h0 v (K_X0_fillByThingKind_8 G w h0 n v s x y (nI k)) := by
  intro n
  induction n with
  | zero => intro k v _ h; omega
  | succ n ih =>
    intro k v hk hf1 q
    rw [K_X0_fillByThingKind_8]
    by_cases c6 : (6 : Int32) ≤ nI k
    · have := (le_nI 6 (by decide) (by omega)).mp c6
      rw [if_pos c6]
      have ek : k = 6 := by omega
      rw [ek] at q
      exact ⟨q, fun _ _ _ => rfl⟩
    · have hlt : k < 6 := Nat.not_le.mp fun z => c6 ((le_nI 6 (by decide) (by omega)).mpr z)
      rw [if_neg c6]
      unfold K_X0_fillByThingKind_36
      rw [nI_1]
      by_cases b : bt s k = true
      · rw [if_pos ((hb_eq k (by omega) s).mpr b), hf v k (by omega)]
        obtain ⟨p1, p2⟩ := put_AW (w := w) hne q (by have := nb_le (s := s) k; omega) b
        obtain ⟨r1, r2⟩ := ih (k + 1) _ (by omega) (by omega) p1
        exact ⟨r1, p2.tr r2⟩
      · rw [if_neg (fun z => b ((hb_eq k (by omega) s).mp z))]
        exact ih (k + 1) v (by omega) (by omega) (q.skip b)
theorem filled_ThingKind (hne : rf G h0 0 ≠ h0) (hf : ∀ (v : Mv) (k : Nat), k ≤ 5 → F_X5_thingWeighs G w v (nI k) x y = f k) (v : Mv) : AW G h0 (F_X0_fillByThingKind G w v h0 s x y) s f 6 ∧ Oth G h0 v (F_X0_fillByThingKind G w v h0 s x y) := by
  have q : AW G h0 (stv v h0 1 0) s f 0 := ⟨by rw [stv_s]; rfl, fun j hj hb => absurd hj (by omega)⟩
  obtain ⟨r1, r2⟩ := fill_ThingKind (w := w) hne hf 7 0 _ (by omega) (by omega) q
  exact ⟨r1, fun z z1 z2 => (r2 z z1 z2).trans (stv_row z1)⟩
theorem fill_OneKind (hne : rf G h0 0 ≠ h0) (hf : ∀ (v : Mv) (k : Nat), k ≤ 5 → F_X5_oneLifts G w v (nI k) x y = f k) : ∀ (n k : Nat) (v : Mv), k ≤ 6 → 6 - k < n → AW G h0 v s f k → AW G h0 (K_X0_fillByOneKind_8 G w h0 n v s x y (nI k)) s f 6 ∧ Oth G h0 v (K_X0_fillByOneKind_8 G w h0 n v s x y (nI k)) := by
  intro n
  induction n with
  | zero => intro k v _ h; omega
  | succ n ih =>
    intro k v hk hf1 q
    rw [K_X0_fillByOneKind_8]
    by_cases c6 : (6 : Int32) ≤ nI k
    · have := (le_nI 6 (by decide) (by omega)).mp c6
      rw [if_pos c6]
      have ek : k = 6 := by omega
      rw [ek] at q
      exact ⟨q, fun _ _ _ => rfl⟩
    · have hlt : k < 6 := Nat.not_le.mp fun z => c6 ((le_nI 6 (by decide) (by omega)).mpr z)
      rw [if_neg c6]
      unfold K_X0_fillByOneKind_36
      rw [nI_1]
      by_cases b : bt s k = true
      · rw [if_pos ((hb_eq k (by omega) s).mpr b), hf v k (by omega)]
        obtain ⟨p1, p2⟩ := put_AW (w := w) hne q (by have := nb_le (s := s) k; omega) b
        obtain ⟨r1, r2⟩ := ih (k + 1) _ (by omega) (by omega) p1
        exact ⟨r1, p2.tr r2⟩
      · rw [if_neg (fun z => b ((hb_eq k (by omega) s).mp z))]
        exact ih (k + 1) v (by omega) (by omega) (q.skip b)
theorem filled_OneKind (hne : rf G h0 0 ≠ h0) (hf : ∀ (v : Mv) (k : Nat), k ≤ 5 → F_X5_oneLifts G w v (nI k) x y = f k) (v : Mv) : AW G h0 (F_X0_fillByOneKind G w v h0 s x y) s f 6 ∧ Oth G h0 v (F_X0_fillByOneKind G w v h0 s x y) := by
  have q : AW G h0 (stv v h0 1 0) s f 0 := ⟨by rw [stv_s]; rfl, fun j hj hb => absurd hj (by omega)⟩
  obtain ⟨r1, r2⟩ := fill_OneKind (w := w) hne hf 7 0 _ (by omega) (by omega) q
  exact ⟨r1, fun z z1 z2 => (r2 z z1 z2).trans (stv_row z1)⟩
theorem fill_Strength (hne : rf G h0 0 ≠ h0) (hs0 : bt s 0 = false) (hf : ∀ (v : Mv) (k : Nat), 1 ≤ k → k ≤ 9 → F_X5_oneLifts G w v x (nI k) y = f k) : ∀ (n k : Nat) (v : Mv), 1 ≤ k → k ≤ 10 → 10 - k < n → AW G h0 v s f k → AW G h0 (K_X0_fillByStrength_8 G w h0 n v x s y (nI k)) s f 10 ∧ Oth G h0 v (K_X0_fillByStrength_8 G w h0 n v x s y (nI k)) := by
  intro n
  induction n with
  | zero => intro k v _ _ h; omega
  | succ n ih =>
    intro k v hk1 hk hf1 q
    rw [K_X0_fillByStrength_8]
    by_cases c6 : (9 : Int32) < nI k
    · have := i_lt.mp c6; rw [nI_toInt (by omega), show (9 : Int32).toInt = 9 from by decide] at this
      rw [if_pos c6]
      have ek : k = 10 := by omega
      rw [ek] at q
      exact ⟨q, fun _ _ _ => rfl⟩
    · have hlt : k < 10 := Nat.not_le.mp fun z => c6 (i_lt.mpr (by rw [nI_toInt (by omega), show (9 : Int32).toInt = 9 from by decide]; omega))
      rw [if_neg c6]
      unfold K_X0_fillByStrength_36
      rw [nI_1]
      by_cases b : bt s k = true
      · rw [if_pos ((hb_eq k (by omega) s).mpr b), hf v k (by omega) (by omega)]
        obtain ⟨p1, p2⟩ := put_AW (w := w) hne q (by have := nb_le1 hs0 hk1; omega) b
        obtain ⟨r1, r2⟩ := ih (k + 1) _ (by omega) (by omega) (by omega) p1
        exact ⟨r1, p2.tr r2⟩
      · rw [if_neg (fun z => b ((hb_eq k (by omega) s).mp z))]
        exact ih (k + 1) v (by omega) (by omega) (by omega) (q.skip b)
theorem filled_Strength (hne : rf G h0 0 ≠ h0) (hs0 : bt s 0 = false) (hf : ∀ (v : Mv) (k : Nat), 1 ≤ k → k ≤ 9 → F_X5_oneLifts G w v x (nI k) y = f k) (v : Mv) : AW G h0 (F_X0_fillByStrength G w v h0 x s y) s f 10 ∧ Oth G h0 v (F_X0_fillByStrength G w v h0 x s y) := by
  have q : AW G h0 (stv v h0 1 0) s f 1 := ⟨by rw [stv_s, nb_0 hs0]; rfl, fun j hj hb => absurd hb (by rw [show j = 0 by omega, hs0]; decide)⟩
  obtain ⟨r1, r2⟩ := fill_Strength (w := w) hne hs0 hf 10 1 _ (by omega) (by omega) (by omega) q
  exact ⟨r1, fun z z1 z2 => (r2 z z1 z2).trans (stv_row z1)⟩
def ct (g : Nat → Int32) (x : Int32) : Nat → Nat
  | 0 => 0
  | j + 1 => ct g x j + (if g j = x then 1 else 0)
def bg (a b : Nat) : Nat := if a < b then b else a
def mxA (g : Nat → Int32) (m : Nat) : Nat → Nat
  | 0 => 0
  | k + 1 => bg (mxA g m k) (ct g (g k) m)
def gp (g : Nat → Int32) (x : Int32) : Nat → Nat
  | 0 => 0
  | j + 1 => gp g x j + (if g j < x then 0 else 1)
theorem ct_le (j : Nat) : ct g x j ≤ j := by
  induction j with
  | zero => exact Nat.le_refl _
  | succ j ih => rw [ct]; split <;> omega
theorem gp_le (j : Nat) : gp g x j ≤ j := by
  induction j with
  | zero => exact Nat.le_refl _
  | succ j ih => rw [gp]; split <;> omega
theorem mxA_le {m : Nat} (k : Nat) : mxA g m k ≤ m := by
  induction k with
  | zero => exact Nat.zero_le _
  | succ k ih => have := ct_le (g := g) (x := g k) m; rw [mxA, bg]; split <;> omega
theorem maxI {a b : Nat} (ha : a < 2 ^ 31) (hb : b < 2 ^ 31) : F_J9_max_7cf53 G w v (nI a) (nI b) = nI (bg a b) := by
  rw [max_eq, bg]
  by_cases q : a < b
  · rw [if_pos q, if_pos ((nI_ltI ha hb).mpr q)]
  · rw [if_neg q, if_neg (fun z => q ((nI_ltI ha hb).mp z))]
theorem ma17 (rec4 : Mv → Int32 → Int32 → Int32) {m k : Nat} {z : Int32} (hm : m ≤ 9) (hk : k < m) (e : v h0 1 = nI m) : ∀ (n j : Nat), j ≤ m → m - j < n → K_X0_mostAlike_17 G w h0 rec4 n v z (nI k) (nI (ct (v (rf G h0 0)) (v (rf G h0 0) k) j)) (nI j) = rec4 v (F_J9_max_7cf53 G w v z (nI (ct (v (rf G h0 0)) (v (rf G h0 0) k) m))) (nI (k + 1)) := by
  intro n
  induction n with
  | zero => intro j _ h; omega
  | succ n ih =>
    intro j hj hf
    rw [K_X0_mostAlike_17, e]
    by_cases c1 : nI m ≤ nI j
    · have := (nI_leI (by omega) (by omega)).mp c1
      rw [if_pos c1, show j = m by omega, nI_1]
    · have hlt : j < m := Nat.not_le.mp fun z => c1 ((nI_leI (by omega) (by omega)).mpr z)
      rw [if_neg c1, nI_clamp (show j < 2 ^ 31 by omega), nI_clamp (show k < 2 ^ 31 by omega)]
      unfold K_X0_mostAlike_45
      rw [nI_1, nI_1]
      have t := ih (j + 1) (by omega) (by omega)
      rw [ct] at t
      by_cases c2 : v (rf G h0 0) j = v (rf G h0 0) k
      · rw [if_pos c2] at t
        rw [if_pos c2]
        exact t
      · rw [if_neg c2] at t
        rw [if_neg c2]
        exact t
theorem ma4 {m : Nat} (hm : m ≤ 9) (e : v h0 1 = nI m) : ∀ (n k : Nat), k ≤ m → m - k < n → K_X0_mostAlike_4 G w h0 n v (nI (mxA (v (rf G h0 0)) m k)) (nI k) = nI (mxA (v (rf G h0 0)) m m) := by
  intro n
  induction n with
  | zero => intro k _ h; omega
  | succ n ih =>
    intro k hk hf
    rw [K_X0_mostAlike_4, e]
    by_cases c1 : nI m ≤ nI k
    · have := (nI_leI (by omega) (by omega)).mp c1
      rw [if_pos c1, show k = m by omega]
    · have hlt : k < m := Nat.not_le.mp fun z => c1 ((nI_leI (by omega) (by omega)).mpr z)
      rw [if_neg c1]
      have t := ma17 (G := G) (w := w) (K_X0_mostAlike_4 G w h0 n) (z := nI (mxA (v (rf G h0 0)) m k)) hm hlt e 10 0 (by omega) (by omega)
      have t : K_X0_mostAlike_17 G w h0 (K_X0_mostAlike_4 G w h0 n) 10 v (nI (mxA (v (rf G h0 0)) m k)) (nI k) 0 0 = _ := t
      have l1 := mxA_le (g := v (rf G h0 0)) (m := m) k
      have l2 := ct_le (g := v (rf G h0 0)) (x := v (rf G h0 0) k) m
      rw [t, maxI (by omega) (by omega)]
      exact ih (k + 1) (by omega) (by omega)
theorem most_eq {m : Nat} (hm : m ≤ 9) (e : v h0 1 = nI m) : F_X0_mostAlike G w v h0 = nI (mxA (v (rf G h0 0)) m m) := ma4 (w := w) hm e 10 0 (by omega) (by omega)
theorem gp4 {m : Nat} (hm : m ≤ 9) (e : v h0 1 = nI m) : ∀ (n j : Nat), j ≤ m → m - j < n → K_X0_greaterPart_4 G w h0 n v x (nI (gp (v (rf G h0 0)) x j)) (nI j) = F_J9_max_7cf53 G w v (nI (gp (v (rf G h0 0)) x m)) (nI m - nI (gp (v (rf G h0 0)) x m)) := by
  intro n
  induction n with
  | zero => intro j _ h; omega
  | succ n ih =>
    intro j hj hf
    rw [K_X0_greaterPart_4, e]
    by_cases c1 : nI m ≤ nI j
    · have := (nI_leI (by omega) (by omega)).mp c1
      rw [if_pos c1, show j = m by omega]
    · have hlt : j < m := Nat.not_le.mp fun z => c1 ((nI_leI (by omega) (by omega)).mpr z)
      rw [if_neg c1, nI_clamp (show j < 2 ^ 31 by omega)]
      unfold K_X0_greaterPart_25
      rw [nI_1, nI_1]
      have t := ih (j + 1) (by omega) (by omega)
      rw [gp] at t
      by_cases c2 : v (rf G h0 0) j < x
      · rw [if_pos c2] at t
        rw [if_pos c2]
        exact t
      · rw [if_neg c2] at t
        rw [if_neg c2]
        exact t
theorem nI_sub {a b : Nat} (h : b ≤ a) : nI a - nI b = nI (a - b) := by
  have e := nI_add (a - b) b
  rw [show a - b + b = a by omega] at e
  rw [← e, Int32.add_sub_cancel]
theorem part_eq {m : Nat} (hm : m ≤ 9) (e : v h0 1 = nI m) : F_X0_greaterPart G w v h0 x = nI (bg (gp (v (rf G h0 0)) x m) (m - gp (v (rf G h0 0)) x m)) := by
  have t := gp4 (G := G) (w := w) (x := x) hm e 10 0 (by omega) (by omega)
  have l := gp_le (g := v (rf G h0 0)) (x := x) m
  rw [nI_sub l, maxI (by omega) (by omega)] at t
  exact t
/-! the same, counted by the bits -/
def cn (f : Nat → Int32) (s : Int32) (a : Nat) : Nat → Nat
  | 0 => 0
  | j + 1 => cn f s a j + (if bt s a = true then (if bt s j = true then (if f a = f j then 1 else 0) else 0) else 0)
def gs (f : Nat → Int32) (s : Int32) : Nat → Nat
  | 0 => 0
  | k + 1 => bg (gs f s k) (cn f s k 6)
def ls (f : Nat → Int32) (s x : Int32) : Nat → Nat
  | 0 => 0
  | j + 1 => ls f s x j + (if bt s j = true then (if f j < x then 0 else 1) else 0)
theorem cn_n {a : Nat} (h : ¬ bt s a = true) (j : Nat) : cn f s a j = 0 := by
  induction j with
  | zero => rfl
  | succ j ih => rw [cn, if_neg h, ih, Nat.add_zero]
theorem cn_le {a : Nat} (j : Nat) : cn f s a j ≤ j := by
  induction j with
  | zero => exact Nat.le_refl _
  | succ j ih =>
    rw [cn]
    split
    · split
      · split <;> omega
      · omega
    · omega
theorem gs_le (k : Nat) : gs f s k ≤ 6 := by
  induction k with
  | zero => exact Nat.zero_le _
  | succ k ih => have := cn_le (f := f) (s := s) (a := k) 6; rw [gs, bg]; split <;> omega
theorem cn_ct {K a : Nat} (hg : ∀ j, j < K → bt s j = true → g (nb s j) = f j) (ha : bt s a = true) : ∀ j, j ≤ K → cn f s a j = ct g (f a) (nb s j) := by
  intro j
  induction j with
  | zero => intro _; rfl
  | succ j ih =>
    intro hj
    rw [cn, if_pos ha, ih (by omega)]
    by_cases b : bt s j = true
    · rw [if_pos b, nb_y b, ct, hg j (by omega) b]
      by_cases q : f a = f j
      · rw [if_pos q, if_pos q.symm]
      · rw [if_neg q, if_neg (fun z => q z.symm)]
    · rw [if_neg b, nb_n b, Nat.add_zero]
theorem gs_mxA (hg : ∀ j, j < 6 → bt s j = true → g (nb s j) = f j) : ∀ k, k ≤ 6 → gs f s k = mxA g (nb s 6) (nb s k) := by
  intro k
  induction k with
  | zero => intro _; rfl
  | succ k ih =>
    intro hk
    rw [gs, ih (by omega)]
    by_cases b : bt s k = true
    · rw [nb_y b, mxA, hg k (by omega) b, cn_ct hg b 6 (Nat.le_refl _)]
    · rw [nb_n b, cn_n b, bg, if_neg (Nat.not_lt_zero _)]
theorem ls_gp {K : Nat} (hg : ∀ j, j < K → bt s j = true → g (nb s j) = f j) : ∀ j, j ≤ K → ls f s x j = gp g x (nb s j) := by
  intro j
  induction j with
  | zero => intro _; rfl
  | succ j ih =>
    intro hj
    rw [ls, ih (by omega)]
    by_cases b : bt s j = true
    · rw [if_pos b, nb_y b, gp, hg j (by omega) b]
    · rw [if_neg b, nb_n b, Nat.add_zero]
/-- what is alike most often -/
theorem AW.most (q : AW G h0 v s f 6) : F_X0_mostAlike G w v h0 = nI (gs f s 6) := by
  have l := nb_le (s := s) 6
  rw [most_eq (by omega) q.1, gs_mxA (g := v (rf G h0 0)) q.2 6 (Nat.le_refl _)]
theorem AW.part (hs0 : bt s 0 = false) (q : AW G h0 v s f 10) : F_X0_greaterPart G w v h0 x = nI (bg (ls f s x 10) (nb s 10 - ls f s x 10)) := by
  have l := nb_le1 hs0 (show 1 ≤ 10 by omega)
  rw [part_eq (by omega) q.1, ls_gp (g := v (rf G h0 0)) q.2 10 (Nat.le_refl _)]
end ANS
