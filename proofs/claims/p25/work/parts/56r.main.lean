/-! PURE THEORY 11: the whole text read -/
section RA
variable {G : Gm} {w : Mw} {rd a8 hi : Nat} {c u : Mv}
theorem read_main (S3 : S_X3 G rd) (S8 : S_X8 G a8) (C : Ch3 G rd hi) (hT : RT G rd a8 c u) : ∃ c' uu : Mv, (∀ x, (x < rd ∨ hi ≤ x) → c' x = c x) ∧ (c' (rf G rd 0) = c (rf G rd 0) ∧ c' rd 1 = c rd 1) ∧ (c' (rf G rd 6) 8 = 0 ∧ c' (rf G (rf G rd 6) 9) 2 = 0 ∧ c' (rf G (rf G rd 6) 10) 2 = 0 ∧ c' (rf G (rf G rd 6) 11) 2 = 0) ∧ ((∀ x, x ≠ a8 → x ≠ rf G a8 1 → uu x = u x) ∧ (∀ k, (k < 6 ∨ 11 < k) → uu a8 k = u a8 k) ∧ (∀ j, j < 738 → uu (rf G a8 1) j = u (rf G a8 1) j) ∧ ∀ j, 740 ≤ j → j ≤ 742 → uu (rf G a8 1) j = 0) ∧ F_X8_read G w u a8 = K_X8_read_106 G w a8 uu ∧ ((∃ j : Nat, j ≤ 150 ∧ F_X3_readItems G w c rd = (nI j, c') ∧ uu a8 10 = 0 ∧ uu a8 11 = nI j ∧ DRl G (rf G rd 6) a8 c' uu) ∨ (F_X3_readItems G w c rd = (-10 - c' rd 4, c') ∧ ¬ uu a8 10 = 0 ∧ c' rd 4 = uu a8 7)) := by
  obtain ⟨d1, d2, C6⟩ := id C
  have e0 : F_X3_readItems G w c rd = K_X3_readItems_14 G w rd 247 (F_X6_startAnew G w (stv c rd 2 0) (rf G rd 6)) (nI 0) := by
    unfold F_X3_readItems K_X3_readItems_e K_X3_readItems_c4
    rfl
  obtain ⟨s1, ⟨s2, s3, s4⟩, s5, s6, s7, s8⟩ := start_ok (w := w) (c := stv c rd 2 0) C6
  obtain ⟨k1, k2, k3, k4, k5, ⟨k6, k7⟩, k8, k9, k10, k11, k12, k13, k14, k15, -⟩ := id C6
  unfold Ch4 at k10 k12 k14
  have cr : ∀ k, F_X6_startAnew G w (stv c rd 2 0) (rf G rd 6) rd k = stv c rd 2 0 rd k := fun k => congrFun (s1 rd (by omega) (by omega) (by omega) (by omega) (by omega)) k
  have ct : F_X6_startAnew G w (stv c rd 2 0) (rf G rd 6) (rf G rd 0) = c (rf G rd 0) := (s1 _ (by omega) (by omega) (by omega) (by omega) (by omega)).trans (stv_row (by omega))
  have co : ∀ x, (x < rd ∨ hi ≤ x) → F_X6_startAnew G w (stv c rd 2 0) (rf G rd 6) x = c x := fun x q => (s1 x (by omega) (by omega) (by omega) (by omega) (by omega)).trans (stv_row (by omega))
  rw [e0]
  generalize F_X6_startAnew G w (stv c rd 2 0) (rf G rd 6) = c0 at *
  have c2 : c0 rd 2 = 0 := (cr 2).trans stv_s
  have c1 : c0 rd 1 = c rd 1 := (cr 1).trans (stv_k (by decide))
  have u0 : F_X8_read G w u a8 = K_X8_read_26 G w a8 151 (F_X8_step G w (F_X8_begin_738 G w (stv (stv (stv u a8 6 0) a8 10 0) a8 11 0) a8) a8) := by
    unfold F_X8_read
    rfl
  rw [u0]
  obtain ⟨b1, b2, b3⟩ := bg_ok (G := G) (w := w) (a8 := a8) (v := stv (stv (stv u a8 6 0) a8 10 0) a8 11 0)
  have n81 : a8 ≠ rf G a8 1 := fun q => ne81 S8 q.symm
  have br : ∀ k, F_X8_begin_738 G w (stv (stv (stv u a8 6 0) a8 10 0) a8 11 0) a8 a8 k = (stv (stv (stv u a8 6 0) a8 10 0) a8 11 0) a8 k := fun k => congrFun (b1 a8 n81) k
  have b1 : ∀ x, x ≠ a8 → x ≠ rf G a8 1 → F_X8_begin_738 G w (stv (stv (stv u a8 6 0) a8 10 0) a8 11 0) a8 x = u x := fun x q1 q2 => by rw [b1 x q2, stv_row q1, stv_row q1, stv_row q1]
  have b2 : ∀ j, j < 738 → F_X8_begin_738 G w (stv (stv (stv u a8 6 0) a8 10 0) a8 11 0) a8 (rf G a8 1) j = u (rf G a8 1) j := fun j q => by rw [b2 j q, stv_a (ne81 S8), stv_a (ne81 S8), stv_a (ne81 S8)]
  have b6 : F_X8_begin_738 G w (stv (stv (stv u a8 6 0) a8 10 0) a8 11 0) a8 a8 6 = 0 := by rw [br, stv_k (by decide), stv_k (by decide), stv_s]
  have b10 : F_X8_begin_738 G w (stv (stv (stv u a8 6 0) a8 10 0) a8 11 0) a8 a8 10 = 0 := by rw [br, stv_k (by decide), stv_s]
  have b11 : F_X8_begin_738 G w (stv (stv (stv u a8 6 0) a8 10 0) a8 11 0) a8 a8 11 = 0 := by rw [br, stv_s]
  have bk : ∀ k, (k < 6 ∨ 11 < k) → F_X8_begin_738 G w (stv (stv (stv u a8 6 0) a8 10 0) a8 11 0) a8 a8 k = u a8 k := fun k q => by rw [br, stv_k (by omega), stv_k (by omega), stv_k (by omega)]
  clear br
  generalize F_X8_begin_738 G w (stv (stv (stv u a8 6 0) a8 10 0) a8 11 0) a8 = up at *
  have hT0 : RT G rd a8 c0 up := hT.congr c1 ct (bk 5 (by omega)) (b1 _ (ne84 S8) (ne814 S8))
  have hp : c0 rd 2 = up a8 6 := c2.trans b6.symm
  have h0 : (0 : Int32).toInt = 0 := by decide
  have hl : (c0 rd 2).toInt ≤ (c0 rd 1).toInt := by
    rw [c2, hT0.1, h0]
    exact hT0.2.1.1
  have hz : 0 ≤ (c0 rd 2).toInt := by rw [c2, h0]; omega
  obtain ⟨-, -, t3, -⟩ := tok (w := w) S3 S8 hT0 hp hz hl
  have n0 : nn (c0 (rf G rd 6) 0) = 0 := by rw [s2]; rfl
  have n3 : nn (c0 (rf G rd 6) 3) = 0 := by rw [s3]; rfl
  have z1 : ∀ {lo hi : Int}, lo ≤ 0 → 0 ≤ hi → Bd 0 lo hi := fun q1 q2 => ⟨by rw [h0]; exact q1, by rw [h0]; exact q2⟩
  have dr : DRl G (rf G rd 6) a8 c0 up := ⟨⟨⟨s2.trans (b3 738 (by omega) (by omega)).symm, s3.trans (b3 739 (by omega) (by omega)).symm⟩, ⟨by rw [s2]; exact z1 (by omega) (by omega), by rw [s3]; exact z1 (by omega) (by omega)⟩, fun t ht => by rw [n0] at ht; omega, fun t ht => by rw [n0] at ht; omega, fun t ht => by rw [n3] at ht; omega, fun t ht => by rw [n3] at ht; omega⟩, ⟨s5.trans (b3 772 (by omega) (by omega)).symm, by rw [s5]; exact z1 (by omega) (by omega)⟩, fun i _ => ⟨fun q => by rw [n3] at q; omega, fun _ => (congrArg (fun z => bt z i) (b3 773 (by omega) (by omega))).trans (b_0 i)⟩, fun t ht => by rw [n3] at ht; omega, fun t ht => by rw [n3] at ht; omega⟩
  have run : RUN G w rd a8 c0 (F_X8_step G w up a8) := ⟨hT0.fs S8 t3, dr.fs S8 t3, (t3 a8 10 (Or.inr (by decide))).trans b10, ⟨hz, hl⟩, up, hT0, hp, fun _ _ _ => rfl⟩
  obtain ⟨c', uu, r1, r2, r3, r4⟩ := loop_ok S3 S8 C 247 151 0 c0 _ run ((t3 a8 11 (Or.inr (by decide))).trans b11) (by rw [c2, h0]; omega) (by omega) (by omega)
  obtain ⟨x1, x2, x3, x4⟩ := r1
  obtain ⟨y1, y2, y3⟩ := r2
  refine ⟨c', uu, fun x q => ?_, ⟨?_, ?_⟩, ⟨x4 s4, ?_, ?_, ?_⟩, ⟨fun x q1 q2 => ?_, fun k q => ?_, fun j q => ?_, fun j q1 q2 => ?_⟩, r3, r4⟩
  · rw [x1 x (by omega) (by omega) (by omega) (by omega) (by omega) (by omega) (by omega) (by omega) (by omega), co x q]
  · rw [x1 _ (by omega) (by omega) (by omega) (by omega) (by omega) (by omega) (by omega) (by omega) (by omega), ct]
  · rw [x2 1 (by decide) (by decide) (by decide) (by decide), c1]
  · rw [x1 _ (by omega) (by omega) (by omega) (by omega) (by omega) (by omega) (by omega) (by omega) (by omega), s6]
  · rw [x1 _ (by omega) (by omega) (by omega) (by omega) (by omega) (by omega) (by omega) (by omega) (by omega), s7]
  · rw [x1 _ (by omega) (by omega) (by omega) (by omega) (by omega) (by omega) (by omega) (by omega) (by omega), s8]
  · rw [y1 x q1 q2, t3.row q1, b1 x q1 q2]
  · rw [y2 k q, t3 a8 k (Or.inr (by omega)), bk k q]
  · rw [y3 j (Or.inl q), t3.row (ne81 S8), b2 j q]
  · rw [y3 j (Or.inr ⟨q1, q2⟩), t3.row (ne81 S8), b3 j (by omega) (by omega)]
/-- reading: the same answer, and the texts as they were -/
theorem read_ok {a7 h4 : Nat} {r r8 : Int32} {c1 u1 : Mv} (S7 : S_X7 G a7) (C7 : Ch7 G a7 h4) (S8 : S_X8 G a8) (hO : Ok G c w) (hT : RT G (rf G a7 1) a8 c u) (e : (r, c1) = F_X7_read G w c a7) (e8 : (r8, u1) = F_X8_read G w u a8) (hb : Bd (u1 a8 7) 0 150) : r = r8 ∧ RT G (rf G a7 1) a8 c1 u1 := by
  obtain ⟨h1, h2, h3, i0, i1, q1, q2, q3, q4, -⟩ := C7
  obtain ⟨c', uu, f1, ⟨f2, f3⟩, ⟨g8, g9, g10, g11⟩, ⟨v1, v2, v3, v4⟩, e2, o⟩ := read_main (w := w) (S_X7.f1 S7) S8 q4 hT
  rw [e2] at e8
  unfold K_X8_read_106 at e8
  unfold F_X7_read K_X7_read_e K_X7_read_c1 K_X7_read_c2 at e
  have h0 : (0 : Int32).toInt = 0 := by decide
  rcases o with ⟨j, hj, o1, o2, o3, o4⟩ | ⟨o1, o2, o3⟩
  · rw [if_pos o2] at e8
    rw [o1] at e
    rw [if_neg (show ¬ (nI j, c').1 < (0 : Int32) from fun q => by
      have := i_lt.mp q
      rw [nI_toInt (by omega), h0] at this
      omega)] at e
    obtain ⟨rfl, rfl⟩ := Prod.mk.inj e
    obtain ⟨rfl, rfl⟩ := Prod.mk.inj e8
    obtain ⟨m1, m2, m3⟩ := cr_ok (G := G) (w := w) (a8 := a8) (v := uu) (x := 738) (y := 0) (p := 738) (q := 0) (by decide) (by decide) (by omega) (by omega) (by omega)
    have n81 : a8 ≠ rf G a8 1 := fun q => ne81 S8 q.symm
    have z0 : Bd 0 0 15 := ⟨by rw [h0]; omega, by rw [h0]; omega⟩
    obtain ⟨d1, d2, C6⟩ := id q4
    obtain ⟨y1, -⟩ := copy_ok (G := G) (w := w) (v := c') q2 C6 (by omega) (fun j hj => by
      obtain ⟨b, hb1, hb2, -⟩ := hO.2 _ _ _ _ (S_X6.f7 (S_X7.f0 S7)).1 j hj
      rw [hb2]
      exact hb1) (by rw [g8]; exact ⟨by rw [h0]; omega, by rw [h0]; omega⟩) (by rw [g9]; exact z0) (by rw [g10]; exact z0) (by rw [g11]; exact z0)
    refine ⟨?_, hT.congr ?_ ?_ ?_ ?_⟩
    · rw [stv_a n81, m1 a8 n81, o3]
    · show (F_X6_copyFrom G w c' (rf G a7 0) (rf G (rf G a7 1) 6)) (rf G a7 1) 1 = _
      rw [y1 _ (by omega), f3]
    · show (F_X6_copyFrom G w c' (rf G a7 0) (rf G (rf G a7 1) 6)) (rf G (rf G a7 1) 0) = _
      rw [y1 _ (by omega), f2]
    · rw [stv_a n81, m1 a8 n81, v2 5 (by omega)]
    · rw [stv_row (ne814 S8), m1 _ (ne814 S8), v1 _ (ne84 S8) (ne814 S8)]
  · rw [if_neg o2] at e8
    obtain ⟨rfl, rfl⟩ := Prod.mk.inj e8
    have hlt : (-10 - c' (rf G a7 1) 4 : Int32) < 0 := by
      rw [o3]
      have e10 : (-10 : Int32).toInt = -10 := by decide
      have := hb.1
      have := hb.2
      refine i_lt.mpr ?_
      rw [fb_subI (by rw [e10]; omega) (by rw [e10]; omega), e10, h0]
      omega
    rw [o1] at e
    rw [if_pos hlt] at e
    obtain ⟨rfl, rfl⟩ := Prod.mk.inj e
    exact ⟨by rw [o3], hT.congr f3 f2 (v2 5 (by omega)) (v1 _ (ne84 S8) (ne814 S8))⟩
end RA
