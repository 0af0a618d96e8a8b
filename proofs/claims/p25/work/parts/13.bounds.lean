theorem fb_rng (x : Int32) : -2147483648 ≤ x.toInt ∧ x.toInt < 2147483648 := by
  have h1 := Int32.le_toInt x
  have h2 := Int32.toInt_lt x
  omega
theorem fb_bmod {z : Int} (h1 : -2147483648 ≤ z) (h2 : z < 2147483648) : z.bmod (2 ^ 32) = z := by
  rw [Int.bmod_eq_of_le (by omega) (by omega)]
theorem fb_addI {x y : Int32} (h1 : -2147483648 ≤ x.toInt + y.toInt) (h2 : x.toInt + y.toInt < 2147483648) : (x + y).toInt = x.toInt + y.toInt := by
  rw [Int32.toInt_add, fb_bmod h1 h2]
theorem fb_subI {x y : Int32} (h1 : -2147483648 ≤ x.toInt - y.toInt) (h2 : x.toInt - y.toInt < 2147483648) : (x - y).toInt = x.toInt - y.toInt := by
  rw [Int32.toInt_sub, fb_bmod h1 h2]
theorem fb_mulI {x y : Int32} (h1 : -2147483648 ≤ x.toInt * y.toInt) (h2 : x.toInt * y.toInt < 2147483648) : (x * y).toInt = x.toInt * y.toInt := by
  rw [Int32.toInt_mul, fb_bmod h1 h2]
theorem fb_negI {x : Int32} (h : x.toInt ≠ -2147483648) : (-x).toInt = -x.toInt := by
  have := fb_rng x
  rw [Int32.toInt_neg, fb_bmod (by omega) (by omega)]
theorem fb_ofI {z : Int} (h1 : -2147483648 ≤ z) (h2 : z < 2147483648) : (Int32.ofInt z).toInt = z := by
  rw [Int32.toInt_ofInt, fb_bmod h1 h2]
theorem fb_asI (x : Int32) : Int32.ofInt x.toInt = x := Int32.ofInt_toInt x
theorem fb_rngL (x : Int64) : -9223372036854775808 ≤ x.toInt ∧ x.toInt < 9223372036854775808 := by
  have h1 := Int64.le_toInt x
  have h2 := Int64.toInt_lt x
  omega
theorem fb_bmodL {z : Int} (h1 : -9223372036854775808 ≤ z) (h2 : z < 9223372036854775808) : z.bmod (2 ^ 64) = z := by
  rw [Int.bmod_eq_of_le (by omega) (by omega)]
theorem fb_addL {x y : Int64} (h1 : -9223372036854775808 ≤ x.toInt + y.toInt) (h2 : x.toInt + y.toInt < 9223372036854775808) : (x + y).toInt = x.toInt + y.toInt := by
  rw [Int64.toInt_add, fb_bmodL h1 h2]
theorem fb_subL {x y : Int64} (h1 : -9223372036854775808 ≤ x.toInt - y.toInt) (h2 : x.toInt - y.toInt < 9223372036854775808) : (x - y).toInt = x.toInt - y.toInt := by
  rw [Int64.toInt_sub, fb_bmodL h1 h2]
theorem fb_mulL {x y : Int64} (h1 : -9223372036854775808 ≤ x.toInt * y.toInt) (h2 : x.toInt * y.toInt < 9223372036854775808) : (x * y).toInt = x.toInt * y.toInt := by
  rw [Int64.toInt_mul, fb_bmodL h1 h2]
/-! ===== cuts of what is narrow already ===== -/
theorem fb_byte {x : Int32} (h1 : -128 ≤ x.toInt) (h2 : x.toInt < 128) : x.toInt8.toInt32 = x := by
  apply Int32.toInt_inj.1
  rw [Int8.toInt_toInt32, Int32.toInt_toInt8, Int.bmod_eq_of_le (by omega) (by omega)]
theorem fb_short {x : Int32} (h1 : -32768 ≤ x.toInt) (h2 : x.toInt < 32768) : x.toInt16.toInt32 = x := by
  apply Int32.toInt_inj.1
  rw [Int16.toInt_toInt32, Int32.toInt_toInt16, Int.bmod_eq_of_le (by omega) (by omega)]
theorem fb_byte_rng (x : Int32) : -128 ≤ x.toInt8.toInt32.toInt ∧ x.toInt8.toInt32.toInt < 128 := by
  rw [Int8.toInt_toInt32]
  have h1 := Int8.le_toInt x.toInt8
  have h2 := Int8.toInt_lt x.toInt8
  omega
theorem fb_short_rng (x : Int32) : -32768 ≤ x.toInt16.toInt32.toInt ∧ x.toInt16.toInt32.toInt < 32768 := by
  rw [Int16.toInt_toInt32]
  have h1 := Int16.le_toInt x.toInt16
  have h2 := Int16.toInt_lt x.toInt16
  omega
theorem fb_byte_twice (x : Int32) : x.toInt8.toInt32.toInt8.toInt32 = x.toInt8.toInt32 := fb_byte (fb_byte_rng x).1 (fb_byte_rng x).2
theorem fb_short_twice (x : Int32) : x.toInt16.toInt32.toInt16.toInt32 = x.toInt16.toInt32 := fb_short (fb_short_rng x).1 (fb_short_rng x).2
theorem Bd.any (x : Int32) : Bd x I0 I1 := by have := fb_rng x; unfold Bd I0 I1; omega
theorem Bd.lit (x : Int32) (k : Int) (h : x.toInt = k) : Bd x k k := ⟨by omega, by omega⟩
theorem Bd.w {x : Int32} {a b : Int} (h : Bd x a b) (lo hi : Int) (hs : lo ≤ a ∧ b ≤ hi) : Bd x lo hi := ⟨by have := h.1; omega, by have := h.2; omega⟩
theorem Bd.e {x y : Int32} {a b : Int} (h : Bd x a b) (e : y = x) : Bd y a b := e ▸ h
theorem Bd.add {x y z : Int32} {a b c d : Int} (e : z = x + y) (hx : Bd x a b) (hy : Bd y c d) (hs : I0 ≤ a + c ∧ b + d ≤ I1) : Bd z (a + c) (b + d) := by
  obtain ⟨h1, h2⟩ := hx; obtain ⟨h3, h4⟩ := hy; unfold I0 I1 at hs
  subst e; unfold Bd; rw [fb_addI (by omega) (by omega)]; omega
theorem Bd.sub {x y z : Int32} {a b c d : Int} (e : z = x - y) (hx : Bd x a b) (hy : Bd y c d) (hs : I0 ≤ a - d ∧ b - c ≤ I1) : Bd z (a - d) (b - c) := by
  obtain ⟨h1, h2⟩ := hx; obtain ⟨h3, h4⟩ := hy; unfold I0 I1 at hs
  subst e; unfold Bd; rw [fb_subI (by omega) (by omega)]; omega
theorem Bd.mul {x y z : Int32} {a b c d : Int} (e : z = x * y) (hx : Bd x a b) (hy : Bd y c d) (hs : 0 ≤ a ∧ 0 ≤ c ∧ b * d ≤ I1) : Bd z (a * c) (b * d) := by
  obtain ⟨h1, h2⟩ := hx; obtain ⟨h3, h4⟩ := hy; obtain ⟨ha, hc, hs⟩ := hs; unfold I1 at hs
  have m1 : a * c ≤ x.toInt * y.toInt := Int.mul_le_mul h1 h3 hc (by omega)
  have m2 : x.toInt * y.toInt ≤ b * d := Int.mul_le_mul h2 h4 (by omega) (by omega)
  have m0 : 0 ≤ a * c := Int.mul_nonneg ha hc
  subst e; unfold Bd; rw [fb_mulI (by omega) (by omega)]; omega
theorem Bd.div {x y z : Int32} {a b k : Int} (e : z = x / y) (hx : Bd x a b) (hy : Bd y k k) (hs : 0 ≤ a ∧ 0 < k) : Bd z 0 b := by
  obtain ⟨h1, h2⟩ := hx; obtain ⟨h3, h4⟩ := hy; obtain ⟨ha, hk⟩ := hs
  have hy : y.toInt = k := by omega
  subst e
  have e2 : (x / y).toInt = x.toInt / y.toInt := by
    rw [Int32.toInt_div, Int.tdiv_eq_ediv_of_nonneg (by omega)]
    have r := fb_rng x
    have q1 : 0 ≤ x.toInt / y.toInt := Int.ediv_nonneg (by omega) (by omega)
    have q2 : x.toInt / y.toInt ≤ x.toInt := Int.ediv_le_self _ (by omega)
    exact fb_bmod (by omega) (by omega)
  unfold Bd
  rw [e2]
  have q1 : 0 ≤ x.toInt / y.toInt := Int.ediv_nonneg (by omega) (by omega)
  have q2 : x.toInt / y.toInt ≤ x.toInt := Int.ediv_le_self _ (by omega)
  omega
theorem Bd.rem {x y z : Int32} {k : Int} (e : z = x - x / y * y) (hy : Bd y k k) (hs : 0 < k) : Bd z (1 - k) (k - 1) := by
  obtain ⟨h3, h4⟩ := hy
  have hy : y.toInt = k := by omega
  subst e; unfold Bd; rw [rem_toInt]
  have h := tmod_bounds (a := x.toInt) (M := y.toInt) (by omega)
  omega
theorem Bd.rem0 {x y z : Int32} {a b k : Int} (e : z = x - x / y * y) (hx : Bd x a b) (hy : Bd y k k) (hs : 0 ≤ a ∧ 0 < k) : Bd z 0 (k - 1) := by
  obtain ⟨h1, h2⟩ := hx
  obtain ⟨h3, h4⟩ := hy
  have hy : y.toInt = k := by omega
  subst e; unfold Bd; rw [rem_toInt]
  have h := tmod_bounds (a := x.toInt) (M := y.toInt) (by omega)
  have h5 : 0 ≤ x.toInt.tmod y.toInt := Int.tmod_nonneg _ (by omega)
  omega
theorem bd_nat {x : Int32} {a b : Int} (hx : Bd x a b) (h : 0 ≤ a) : x.toBitVec.toNat = x.toInt.toNat ∧ x.toInt = (x.toBitVec.toNat : Int) := by
  have h1 : 0 ≤ x.toInt := by have := hx.1; omega
  have h2 := Int32.toInt_lt x
  have h3 : x.toInt = x.toBitVec.toInt := rfl
  have h4 := BitVec.toInt_eq_toNat_cond x.toBitVec
  have h5 := x.toBitVec.isLt
  rw [← h3] at h4
  split at h4 <;> omega
theorem bd_of_nat {x : Int32} {n : Nat} (hn : n < 2 ^ 31) (h : x.toBitVec.toNat ≤ n) : Bd x 0 n := by
  have h3 : x.toInt = x.toBitVec.toInt := rfl
  have h4 := BitVec.toInt_eq_toNat_cond x.toBitVec
  rw [← h3] at h4
  unfold Bd
  split at h4 <;> omega
theorem Bd.and_r {x y z : Int32} {a b : Int} (e : z = x &&& y) (hy : Bd y a b) (hs : 0 ≤ a) : Bd z 0 b := by
  obtain ⟨h1, h2⟩ := bd_nat hy hs
  subst e
  have h3 : (x &&& y).toBitVec.toNat ≤ y.toBitVec.toNat := by
    rw [Int32.toBitVec_and, BitVec.toNat_and]; exact Nat.and_le_right
  have r := fb_rng y
  have h4 := bd_of_nat (x := x &&& y) (n := y.toBitVec.toNat) (by omega) h3
  exact ⟨h4.1, by have := h4.2; have := hy.2; omega⟩
theorem Bd.and_l {x y z : Int32} {a b : Int} (e : z = x &&& y) (hx : Bd x a b) (hs : 0 ≤ a) : Bd z 0 b := by
  obtain ⟨h1, h2⟩ := bd_nat hx hs
  subst e
  have h3 : (x &&& y).toBitVec.toNat ≤ x.toBitVec.toNat := by
    rw [Int32.toBitVec_and, BitVec.toNat_and]; exact Nat.and_le_left
  have r := fb_rng x
  have h4 := bd_of_nat (x := x &&& y) (n := x.toBitVec.toNat) (by omega) h3
  exact ⟨h4.1, by have := h4.2; have := hx.2; omega⟩
theorem Bd.or {x y z : Int32} {a b c d : Int} (e : z = x ||| y) (hx : Bd x a b) (hy : Bd y c d) (k : Nat) (hs : 0 ≤ a ∧ 0 ≤ c ∧ b < 2 ^ k ∧ d < 2 ^ k ∧ k ≤ 30) : Bd z 0 (2 ^ k - 1) := by
  obtain ⟨ha, hc, hb, hd, hk⟩ := hs
  obtain ⟨h1, h2⟩ := bd_nat hx ha
  obtain ⟨h3, h4⟩ := bd_nat hy hc
  have hx2 := hx.2
  have hy2 := hy.2
  have ek : ((2 ^ k : Nat) : Int) = (2 : Int) ^ k := Int.natCast_pow 2 k
  have p1 : x.toBitVec.toNat < 2 ^ k := by
    have : ((x.toBitVec.toNat : Nat) : Int) < ((2 ^ k : Nat) : Int) := by rw [ek]; omega
    omega
  have p2 : y.toBitVec.toNat < 2 ^ k := by
    have : ((y.toBitVec.toNat : Nat) : Int) < ((2 ^ k : Nat) : Int) := by rw [ek]; omega
    omega
  subst e
  have p3 : (x ||| y).toBitVec.toNat < 2 ^ k := by
    rw [Int32.toBitVec_or, BitVec.toNat_or]; exact Nat.or_lt_two_pow p1 p2
  have p4 : 2 ^ k ≤ 2 ^ 30 := Nat.pow_le_pow_right (by decide) hk
  have h5 := bd_of_nat (x := x ||| y) (n := 2 ^ k - 1) (by omega) (by omega)
  have p0 : 0 < 2 ^ k := Nat.two_pow_pos k
  refine ⟨h5.1, ?_⟩
  have h6 := h5.2
  have e1 : ((2 ^ k - 1 : Nat) : Int) = (2 : Int) ^ k - 1 := by
    rw [Int.natCast_sub (by omega), Int.natCast_pow]; rfl
  rw [e1] at h6
  exact h6
theorem Bd.shr {x y z : Int32} {a b : Int} (e : z = x >>> (y &&& 31)) (hx : Bd x a b) (hs : 0 ≤ a) : Bd z 0 b := by
  subst e
  obtain ⟨h1, h2⟩ := hx
  unfold Bd
  rw [pk_shr x (y &&& 31) _ rfl, Int.shiftRight_eq_div_pow]
  have p0 : (0 : Int) < ((2 ^ ((y &&& 31).toBitVec.smod 32).toNat : Nat) : Int) := by have := Nat.two_pow_pos ((y &&& 31).toBitVec.smod 32).toNat; omega
  have q1 : 0 ≤ x.toInt / ((2 ^ ((y &&& 31).toBitVec.smod 32).toNat : Nat) : Int) := Int.ediv_nonneg (by omega) (by omega)
  have q2 : x.toInt / ((2 ^ ((y &&& 31).toBitVec.smod 32).toNat : Nat) : Int) ≤ x.toInt := Int.ediv_le_self _ (by omega)
  omega
theorem bd_shl_tab : ∀ k : Nat, k < 31 → ((1 : Int32) <<< ((Int32.ofNat k) &&& 31)).toInt = (2 : Int) ^ k := by decide +kernel
theorem bd_pow_tab : ∀ k : Nat, k < 31 → ∀ d : Nat, d < 31 → k ≤ d → (1 : Int) ≤ 2 ^ k ∧ (2 : Int) ^ k ≤ 2 ^ d := by decide +kernel
theorem bd_ofNat {y : Int32} {c d : Int} (hy : Bd y c d) (hc : 0 ≤ c) : y = Int32.ofNat y.toInt.toNat := by
  have h := hy.1
  have r := fb_rng y
  apply Int32.toInt_inj.mp
  have e : (Int32.ofNat y.toInt.toNat).toInt = ((y.toInt.toNat : Nat) : Int) := nI_toInt (by omega)
  rw [e]
  omega
theorem Bd.shl1 {y z : Int32} {c d : Int} (e : z = 1 <<< (y &&& 31)) (hy : Bd y c d) (k : Nat) (hs : 0 ≤ c ∧ d ≤ (k : Int) ∧ k ≤ 30) : Bd z 1 (2 ^ k) := by
  obtain ⟨hc, hd, hk⟩ := hs
  have e1 := bd_ofNat hy hc
  have h1 := hy.1
  have h2 := hy.2
  have hn : y.toInt.toNat < 31 := by omega
  subst e
  rw [e1]
  unfold Bd
  rw [bd_shl_tab _ hn]
  exact bd_pow_tab _ hn k (by omega) (by omega)
theorem Bd.not {x y z : Int32} {a b : Int} (e : z = x ^^^ y) (hy : y = -1) : True := trivial
theorem Bd.byte {x z : Int32} (e : z = x.toInt8.toInt32) : Bd z (-128) 127 := by
  subst e; have := fb_byte_rng x; unfold Bd; omega
theorem Bd.byte' {x z : Int32} {a b : Int} (e : z = x.toInt8.toInt32) (hx : Bd x a b) (hs : -128 ≤ a ∧ b ≤ 127) : Bd z a b := by
  obtain ⟨h1, h2⟩ := hx
  subst e; rw [fb_byte (by omega) (by omega)]; exact ⟨h1, h2⟩
-- comparisons
theorem nlt {x y : Int32} (h : ¬ x < y) : y ≤ x := by
  rw [Int32.lt_iff_toInt_lt] at h; rw [Int32.le_iff_toInt_le]; omega
theorem nle {x y : Int32} (h : ¬ x ≤ y) : y < x := by
  rw [Int32.le_iff_toInt_le] at h; rw [Int32.lt_iff_toInt_lt]; omega
theorem Bd.lt_l {x y : Int32} {a b c d : Int} (h : x < y) (hx : Bd x a b) (hy : Bd y c d) (hi : Int) (hs : d - 1 ≤ hi) : Bd x a hi := by
  rw [Int32.lt_iff_toInt_lt] at h; obtain ⟨h1, h2⟩ := hx; obtain ⟨h3, h4⟩ := hy; unfold Bd; omega
theorem Bd.lt_r {x y : Int32} {a b c d : Int} (h : x < y) (hx : Bd x a b) (hy : Bd y c d) (lo : Int) (hs : lo ≤ a + 1) : Bd y lo d := by
  rw [Int32.lt_iff_toInt_lt] at h; obtain ⟨h1, h2⟩ := hx; obtain ⟨h3, h4⟩ := hy; unfold Bd; omega
theorem Bd.le_l {x y : Int32} {a b c d : Int} (h : x ≤ y) (hx : Bd x a b) (hy : Bd y c d) (hi : Int) (hs : d ≤ hi) : Bd x a hi := by
  rw [Int32.le_iff_toInt_le] at h; obtain ⟨h1, h2⟩ := hx; obtain ⟨h3, h4⟩ := hy; unfold Bd; omega
theorem Bd.le_r {x y : Int32} {a b c d : Int} (h : x ≤ y) (hx : Bd x a b) (hy : Bd y c d) (lo : Int) (hs : lo ≤ a) : Bd y lo d := by
  rw [Int32.le_iff_toInt_le] at h; obtain ⟨h1, h2⟩ := hx; obtain ⟨h3, h4⟩ := hy; unfold Bd; omega
theorem Bd.eq_l {x y : Int32} {a b c d : Int} (h : x = y) (hx : Bd x a b) (hy : Bd y c d) (lo hi : Int) (hs : (lo ≤ a ∨ lo ≤ c) ∧ (b ≤ hi ∨ d ≤ hi)) : Bd x lo hi := by
  subst h; obtain ⟨h1, h2⟩ := hx; obtain ⟨h3, h4⟩ := hy; unfold Bd; omega
theorem Bd.eq_r {x y : Int32} {a b c d : Int} (h : x = y) (hx : Bd x a b) (hy : Bd y c d) (lo hi : Int) (hs : (lo ≤ a ∨ lo ≤ c) ∧ (b ≤ hi ∨ d ≤ hi)) : Bd y lo hi := by
  subst h; obtain ⟨h1, h2⟩ := hx; obtain ⟨h3, h4⟩ := hy; unfold Bd; omega
theorem Bd.ne_lo {x y : Int32} {a b : Int} (h : ¬ x = y) (hx : Bd x a b) (hy : Bd y a a) : Bd x (a + 1) b := by
  have : x.toInt ≠ y.toInt := fun q => h (Int32.toInt_inj.mp q)
  obtain ⟨h1, h2⟩ := hx; obtain ⟨h3, h4⟩ := hy; unfold Bd; omega
theorem Bd.ne_hi {x y : Int32} {a b : Int} (h : ¬ x = y) (hx : Bd x a b) (hy : Bd y b b) : Bd x a (b - 1) := by
  have : x.toInt ≠ y.toInt := fun q => h (Int32.toInt_inj.mp q)
  obtain ⟨h1, h2⟩ := hx; obtain ⟨h3, h4⟩ := hy; unfold Bd; omega
theorem Bd.no {x : Int32} {a b : Int} {P : Prop} (h : Bd x a b) (hs : b < a) : P := by
  obtain ⟨h1, h2⟩ := h; omega
theorem Bd.in {x : Int32} {a b : Int} {n : Nat} (h : Bd x a b) (hs : 0 ≤ a ∧ b < (n : Int)) : vp_in x n := by
  obtain ⟨h1, h2⟩ := h; exact vp_in_iff.mpr (by omega)
theorem Bd.nz {x : Int32} {a b : Int} (h : Bd x a b) (hs : 0 < a ∨ b < 0) : ¬ x = 0 := by
  obtain ⟨h1, h2⟩ := h
  intro q
  subst q
  have e : (0 : Int32).toInt = 0 := by decide
  omega
theorem Bd.z {x : Int32} {a b : Int} (h : Bd x a b) (hs : 0 ≤ a ∧ b ≤ 1) : narrow .boolean (.int x) = .int x := by
  obtain ⟨h1, h2⟩ := h
  have h3 : x.toInt = 0 ∨ x.toInt = 1 := by omega
  rcases h3 with h3 | h3
  · have : x = 0 := Int32.toInt_inj.mp (by rw [h3]; rfl)
    subst this; rfl
  · have : x = 1 := Int32.toInt_inj.mp (by rw [h3]; rfl)
    subst this; rfl
/-- what an array holds at a place that is known within bounds -/
def rgI (g : Nat → Int × Int × Bool) (a n : Nat) (L U : Int) : Bool := (List.range n).all (fun j => decide (L ≤ (g (a + j)).1) && decide ((g (a + j)).2.1 ≤ U))
def rgO (g : Nat → Int × Int × Bool) (a n : Nat) (L U : Int) : Bool := (List.range n).all (fun j => decide ((g (a + j)).1 ≤ L) && (decide (U ≤ (g (a + j)).2.1) && !(g (a + j)).2.2))
theorem Ok.ld {G : Gm} {v : Mv} {w : Mw} (h : Ok G v w) {a t n : Nat} {g : Nat → Int × Int × Bool} (hG : G a = some (.inr (t, n, .inl g))) {i : Int32} {lo hi : Int} (hi0 : Bd i lo hi) (lo' k : Nat) (L U : Int) (hs : (lo' : Int) ≤ lo ∧ hi < (lo' + k : Nat) ∧ lo' + k ≤ n) (hg : rgI g lo' k L U = true) : Bd (v a i.toNatClampNeg) L U := by
  obtain ⟨h1, h2⟩ := hi0
  obtain ⟨s1, s2, s3⟩ := hs
  have e : i.toNatClampNeg = i.toInt.toNat := rfl
  have hj : i.toInt.toNat - lo' < k := by omega
  have h3 := List.all_eq_true.mp hg (i.toInt.toNat - lo') (List.mem_range.mpr hj)
  rw [show lo' + (i.toInt.toNat - lo') = i.toInt.toNat by omega] at h3
  simp only [Bool.and_eq_true, decide_eq_true_eq] at h3
  have h4 := h.1 a _ hG i.toInt.toNat (g i.toInt.toNat) (by show (if _ then _ else _) = _; rw [if_pos (by omega)])
  rw [e]
  exact ⟨Int.le_trans h3.1 h4.1, Int.le_trans h4.2 h3.2⟩
theorem Ok.sv {G : Gm} {v : Mv} {w : Mw} (h : Ok G v w) {a t n : Nat} {g : Nat → Int × Int × Bool} (hG : G a = some (.inr (t, n, .inl g))) {i x : Int32} {lo hi L U : Int} (hi0 : Bd i lo hi) (hx : Bd x L U) (lo' k : Nat) (hs : (lo' : Int) ≤ lo ∧ hi < (lo' + k : Nat) ∧ lo' + k ≤ n) (hg : rgO g lo' k L U = true) : Ok G (stv v a i.toNatClampNeg x) w := by
  refine h.st hG (fun r hr => ?_)
  obtain ⟨h1, h2⟩ := hi0
  obtain ⟨s1, s2, s3⟩ := hs
  have e : i.toNatClampNeg = i.toInt.toNat := rfl
  have hj : i.toInt.toNat - lo' < k := by omega
  have h3 := List.all_eq_true.mp hg (i.toInt.toNat - lo') (List.mem_range.mpr hj)
  rw [show lo' + (i.toInt.toNat - lo') = i.toInt.toNat by omega] at h3
  simp only [Bool.and_eq_true, decide_eq_true_eq] at h3
  rw [e] at hr
  have hr : (if i.toInt.toNat < n then some (g i.toInt.toNat) else none) = some r := hr
  rw [if_pos (by omega)] at hr
  have hr := Option.some.inj hr
  rw [← hr]
  exact ⟨Int.le_trans h3.1 hx.1, Int.le_trans hx.2 h3.2.1⟩
theorem Kp.sv {G : Gm} {v0 v : Mv} (h : Kp G v0 v) {a t n : Nat} {g : Nat → Int × Int × Bool} (hG : G a = some (.inr (t, n, .inl g))) {i x : Int32} {lo hi : Int} (hi0 : Bd i lo hi) (lo' k : Nat) (L U : Int) (hs : (lo' : Int) ≤ lo ∧ hi < (lo' + k : Nat) ∧ lo' + k ≤ n) (hg : rgO g lo' k L U = true) : Kp G v0 (stv v a i.toNatClampNeg x) := by
  refine h.st hG (fun lo2 hi2 hr => ?_)
  obtain ⟨h1, h2⟩ := hi0
  obtain ⟨s1, s2, s3⟩ := hs
  have e : i.toNatClampNeg = i.toInt.toNat := rfl
  have hj : i.toInt.toNat - lo' < k := by omega
  have h3 := List.all_eq_true.mp hg (i.toInt.toNat - lo') (List.mem_range.mpr hj)
  rw [show lo' + (i.toInt.toNat - lo') = i.toInt.toNat by omega] at h3
  simp only [Bool.and_eq_true, decide_eq_true_eq] at h3
  rw [e] at hr
  have hr : (if i.toInt.toNat < n then some (g i.toInt.toNat) else none) = some (lo2, hi2, true) := hr
  rw [if_pos (by omega)] at hr
  have hr := Option.some.inj hr
  rw [hr] at h3
  exact absurd h3.2.2 (by simp)
