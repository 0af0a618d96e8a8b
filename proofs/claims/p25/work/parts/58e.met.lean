/-! CLASS AND REFERENCE CALL BY CALL: image, from, read -/
section MET3
variable {G : Gm} {w w' : Mw} {a7 a8 h4 : Nat} {c u c1 u1 : Mv} {x y z r1 r2 : Int32}
theorem ch6_lt {a ha : Nat} (C : Ch6 G a ha) : a < ha := by
  obtain ⟨k1, k2, k3, k4, k5, ⟨k6, k7⟩, k8, k9, k10, k11, k12, k13, k14, k15, -⟩ := C
  unfold Ch4 at k10 k12 k14
  omega
theorem row_at (i : Nat) (hi : i ≤ 1) : ((246 : Int32) * (1 + nI i)).toInt = (246 * (1 + i) : Nat) := by
  match i, hi with
  | 0, _ => decide
  | 1, _ => decide
theorem and01 {q : Int32} : q &&& 1 = 0 ↔ ¬ q &&& 1 = 1 := by
  have hb := Bd.and_r (z := q &&& 1) rfl (Bd.lit 1 1 (by decide)) (by decide)
  obtain ⟨b1, b2⟩ := hb
  constructor
  · intro e z
    rw [z] at e
    exact absurd e (by decide)
  · intro e
    have : (q &&& 1).toInt ≠ 1 := fun z => e (i_eq (z.trans (by decide)))
    exact i_eq (by rw [show (0 : Int32).toInt = 0 from by decide]; omega)
theorem pasts_in {a : Nat} (S : S_X6 G a) (hO : Ok G c w) : ∀ j, j < 8 → (w.2 (rf G a 7) j).getD 0 ∈ rl G (rf G a 7) := fun j hj => by
  obtain ⟨b, hb1, hb2, -⟩ := hO.2 _ _ _ _ (S_X6.f7 S).1 j hj
  rw [hb2]
  exact hb1
theorem RW.b9 {A a o : Nat} (h : RW G A c u a o) : Bd (c (rf G a 9) 2) 0 15 ∧ Bd (c (rf G a 10) 2) 0 15 ∧ Bd (c (rf G a 11) 2) 0 15 := ⟨h.2.1.1.2.w 0 15 (by omega), h.2.2.1.1.2.w 0 15 (by omega), h.2.2.2.1.2.w 0 15 (by omega)⟩
theorem m_image (S7 : S_X7 G a7) (C7 : Ch7 G a7 h4) (S8 : S_X8 G a8) (hO : Ok G c w) (h : RX G a7 a8 c u) (e1 : (r1, c1) = F_X7_image G w c a7 x) (e2 : (r2, u1) = F_X8_image G w' u a8 x) : r1 = r2 ∧ RX G a7 a8 c1 u1 := by
  obtain ⟨h1, q1, q2, q3⟩ := lay0 C7
  unfold F_X7_image K_X7_image_e K_X7_image_c1 K_X7_image_c2 F_X7_bad K_X7_bad_e at e1
  unfold F_X8_image K_X8_image_e K_X8_image_c1 K_X8_image_c2 F_X8_bad K_X8_bad_e at e2
  rw [in8 (G' := G) (w' := w) (v' := c)] at e2
  by_cases d1 : F_X7_isWithin G w c x 0 1 = 0
  · rw [if_pos d1] at e1 e2
    exact fin_c C7 S8 h (by decide) e1 e2
  rw [if_neg d1] at e1 e2
  obtain ⟨i, hi, hx⟩ := bd_nI (n := 1) (inW d1 (lo := 0) (hi := 1) (by decide) (by decide))
  obtain ⟨b, hb1, hb2, hb3⟩ := hO.2 _ _ _ _ (S_X7.f2 S7).1 i (by omega)
  have hbL := hb3 rfl
  have ei : Int32.toNatClampNeg x = i := by rw [hx]; exact nn_nI (by omega)
  rw [ei, hb2] at e1
  rw [ei, hx] at e2
  obtain ⟨hb, Cb, ⟨h2, -, l1, l2⟩, -, oth⟩ := lay_im C7 hbL
  obtain ⟨z9, z10, z11⟩ := h.1.b9
  obtain ⟨y1, y2, y3, y9, y10, y11⟩ := copy_ok (G := G) (w := w) (v := c) (a := b) (b := rf G a7 0) Cb q2 (Or.inr (by omega)) (pasts_in ((S_X7.f2 S7).2 b hb1) hO) (hO.fd rfl (S_X6.h (S_X7.f0 S7)) rfl) z9 z10 z11
  obtain ⟨m1, m2, m3⟩ := cr_ok (G := G) (w := w') (a8 := a8) (v := u) (x := 0) (y := 246 * (1 + nI i)) (p := 0) (q := 246 * (1 + i)) (by decide) (row_at i hi) (by omega) (by omega) (by omega)
  obtain ⟨f1, f2⟩ := Prod.mk.inj e1
  obtain ⟨f3, f4⟩ := Prod.mk.inj e2
  have f2 : c1 = stv (F_X6_copyFrom G w c b (rf G a7 0)) a7 3 ((F_X6_copyFrom G w c b (rf G a7 0)) a7 3 ||| (1 <<< (x &&& 31))) := f2
  have f4 : u1 = stv (F_X8_copyRow G w' u a8 0 (246 * (1 + nI i))) (rf G a8 2) i (vp_nar .boolean 1) := f4
  generalize F_X6_copyFrom G w c b (rf G a7 0) = cc at *
  generalize F_X8_copyRow G w' u a8 0 (246 * (1 + nI i)) = uu at *
  have l0 := ch6_lt q2
  have n7 : a7 < b := by omega
  have gA : u1 (rf G a8 1) = uu (rf G a8 1) := by rw [f4]; exact stv_row (fun q => ne821 S8 q.symm)
  have gc : ∀ f, f ≠ a7 → c1 f = cc f := fun f hf => by rw [f2]; exact stv_row hf
  refine ⟨f1.trans f3.symm, ?_, fun j b' hj => ?_, fun k hk => ?_⟩
  · exact h.1.out q2 (fun f g1 g2 => by rw [gc f (by omega), y1 f (by omega)]) (fun k k1 _ _ => by rw [gA]; exact m3 _ (by omega))
  · by_cases ej : j = i
    · have eb : b' = b := by
        rw [ej, hbL] at hj
        exact (Option.some.inj hj).symm
      rw [ej, eb]
      obtain ⟨k1, k2, k3, k4, k5, ⟨k6, k7⟩, k8, k9, k10, k11, k12, k13, k14, k15, -⟩ := id Cb
      unfold Ch4 at k10 k12 k14
      refine h.1.tr (by rw [gc b (by omega)]; exact y2) (fun t ht => ?_) ?_ ?_ ?_ (fun k k1 _ _ => by rw [gA, Nat.zero_add, m2 k (by omega), Nat.zero_add])
      · rw [gc (rf G b 1) (by omega), gc (rf G b 2) (by omega), gc (rf G b 4) (by omega), gc (rf G b 5) (by omega)]
        exact y3 t ht
      · rw [gc (rf G b 9) (by omega), gc (rf G (rf G b 9) 1) (by omega)]
        exact y9
      · rw [gc (rf G b 10) (by omega), gc (rf G (rf G b 10) 1) (by omega)]
        exact y10
      · rw [gc (rf G b 11) (by omega), gc (rf G (rf G b 11) 1) (by omega)]
        exact y11
    · obtain ⟨hb', Cb', dis⟩ := oth j b' hj ej
      obtain ⟨-, -, ⟨h2'', -, l1', l2'⟩, j2, -⟩ := lay_im C7 hj
      exact (h.2.1 j b' hj).out Cb' (fun f g1 g2 => by rw [gc f (by omega), y1 f (by omega)]) (fun k k1 _ _ => by rw [gA]; exact m3 _ (by omega))
  · have c3 : c1 a7 3 = c a7 3 ||| (1 <<< (nI i &&& 31)) := by rw [f2, stv_s, y1 a7 (by omega), hx]
    rw [c3, b_set i (by omega) _ (by omega), f4]
    by_cases ek : k = i
    · rw [ek, stv_s, decide_eq_true rfl, Bool.or_true]
      exact ⟨fun _ => by decide, fun _ => rfl⟩
    · rw [stv_k ek, m1 _ (ne821 S8), decide_eq_false ek, Bool.or_false]
      exact h.2.2 k hk
theorem m_from (S7 : S_X7 G a7) (C7 : Ch7 G a7 h4) (S8 : S_X8 G a8) (hO : Ok G c w) (h : RX G a7 a8 c u) (e1 : (r1, c1) = F_X7_from G w c a7 x) (e2 : (r2, u1) = F_X8_from G w' u a8 x) : r1 = r2 ∧ RX G a7 a8 c1 u1 := by
  obtain ⟨h1, q1, q2, q3⟩ := lay0 C7
  unfold F_X7_from K_X7_from_e K_X7_from_c1 K_X7_from_c2 K_X7_from_c3 F_X7_bad K_X7_bad_e F_X7_no K_X7_no_e at e1
  unfold F_X8_from K_X8_from_e K_X8_from_c1 K_X8_from_c2 K_X8_from_c3 F_X8_bad K_X8_bad_e F_X8_no K_X8_no_e at e2
  rw [in8 (G' := G) (w' := w) (v' := c)] at e2
  by_cases d1 : F_X7_isWithin G w c x 0 1 = 0
  · rw [if_pos d1] at e1 e2
    exact fin_c C7 S8 h (by decide) e1 e2
  rw [if_neg d1] at e1 e2
  obtain ⟨i, hi, hx⟩ := bd_nI (n := 1) (inW d1 (lo := 0) (hi := 1) (by decide) (by decide))
  obtain ⟨b, hb1, hb2, hb3⟩ := hO.2 _ _ _ _ (S_X7.f2 S7).1 i (by omega)
  have hbL := hb3 rfl
  have ei : Int32.toNatClampNeg x = i := by rw [hx]; exact nn_nI (by omega)
  rw [ei, hb2, hx] at e1
  rw [ei, hx] at e2
  have kr : ((c a7 3 >>> (nI i &&& 31)) &&& 1 = 0) ↔ u (rf G a8 2) i = 0 := by
    rw [and01, hb_eq i (by omega), h.2.2 i (by omega)]
    exact ⟨fun z => Classical.byContradiction z, fun z q => q z⟩
  by_cases d2 : u (rf G a8 2) i = 0
  · rw [if_pos (kr.mpr d2)] at e1
    rw [if_pos d2] at e2
    exact fin_c C7 S8 h (by decide) e1 e2
  rw [if_neg (fun z => d2 (kr.mp z))] at e1
  rw [if_neg d2] at e2
  obtain ⟨hb, Cb, ⟨h2, -, l1, l2⟩, -, oth⟩ := lay_im C7 hbL
  have hRb := h.2.1 i b hbL
  obtain ⟨z9, z10, z11⟩ := hRb.b9
  obtain ⟨y1, y2, y3, y9, y10, y11⟩ := copy_ok (G := G) (w := w) (v := c) (a := rf G a7 0) (b := b) q2 Cb (Or.inl (by omega)) (pasts_in (S_X7.f0 S7) hO) (hO.fd rfl (S_X6.h ((S_X7.f2 S7).2 b hb1)) rfl) z9 z10 z11
  obtain ⟨m1, m2, m3⟩ := cr_ok (G := G) (w := w') (a8 := a8) (v := u) (x := 246 * (1 + nI i)) (y := 0) (p := 246 * (1 + i)) (q := 0) (row_at i hi) (by decide) (by omega) (by omega) (by omega)
  have l0 := ch6_lt q2
  rw [show (some b).getD 0 = b from rfl] at e1
  generalize F_X6_copyFrom G w c (rf G a7 0) b = cc at *
  generalize F_X8_copyRow G w' u a8 (246 * (1 + nI i)) 0 = uu at *
  exact fin_w (X := (1, cc)) (Y := (1, uu)) C7 S8 h q1 q3 e1 e2 ⟨rfl, hRb.tr y2 y3 y9 y10 y11 (fun k k1 _ _ => m2 k (by omega)), y1, fun j hj => m3 j (by omega), m1⟩
theorem m_read (S7 : S_X7 G a7) (C7 : Ch7 G a7 h4) (S8 : S_X8 G a8) (hO : Ok G c w) (hT : RT G (rf G a7 1) a8 c u) (h : RX G a7 a8 c u) (e1 : (r1, c1) = F_X7_read G w c a7) (e8 : (r2, u1) = F_X8_read G w u a8) (hb : Bd (u1 a8 7) 0 150) : RX G a7 a8 c1 u1 := by
  obtain ⟨h1, h2, h3, i0, i1, q1, q2, q3, q4, q5, q6, q7, q8, q9⟩ := id C7
  obtain ⟨c', uu, f1, ⟨f2, f3⟩, ⟨g8, g9, g10, g11⟩, ⟨v1, v2, v3, v4⟩, e2, o⟩ := read_main (w := w) (S_X7.f1 S7) S8 q4 hT
  rw [e2] at e8
  unfold K_X8_read_106 at e8
  unfold F_X7_read K_X7_read_e K_X7_read_c1 K_X7_read_c2 at e1
  have h0 : (0 : Int32).toInt = 0 := by decide
  have n81 : a8 ≠ rf G a8 1 := fun q => ne81 S8 q.symm
  have n82 : rf G a8 2 ≠ a8 := tg_ne (S_X8.f2 S8) (S_X8.h S8) rfl
  have l0 := ch6_lt q2
  have l6 := ch6_lt q4.2.2
  have l7 := q4.1
  have l8 := q4.2.1
  have im : ∀ (j b : Nat), (rl G (rf G a7 2))[j]? = some b → h2 ≤ b := fun j b hj => by
    have hl := ch6_lt q7
    rcases ix2 q5 hj with ⟨-, z⟩ | ⟨-, z⟩ <;> omega
  rcases o with ⟨j, hj, o1, o2, o3, o4⟩ | ⟨o1, o2, o3⟩
  · rw [if_pos o2] at e8
    rw [o1] at e1
    rw [if_neg (show ¬ (nI j, c').1 < (0 : Int32) from fun q => by
      have := i_lt.mp q
      rw [nI_toInt (by omega), h0] at this
      omega)] at e1
    obtain ⟨-, rfl⟩ := Prod.mk.inj e1
    obtain ⟨-, rfl⟩ := Prod.mk.inj e8
    obtain ⟨m1, m2, m3⟩ := cr_ok (G := G) (w := w) (a8 := a8) (v := uu) (x := 738) (y := 0) (p := 738) (q := 0) (by decide) (by decide) (by omega) (by omega) (by omega)
    have z0 : Bd 0 0 15 := ⟨by rw [h0]; omega, by rw [h0]; omega⟩
    obtain ⟨d1, d2, C6⟩ := id q4
    obtain ⟨y1, y2, y3, y9, y10, y11⟩ := copy_ok (G := G) (w := w) (v := c') q2 C6 (by omega) (pasts_in (S_X7.f0 S7) hO) (by rw [g8]; exact ⟨by rw [h0]; omega, by rw [h0]; omega⟩) (by rw [g9]; exact z0) (by rw [g10]; exact z0) (by rw [g11]; exact z0)
    have hD : RW G (rf G a8 1) c' uu (rf G (rf G a7 1) 6) 738 := ⟨o4.1, RR.zero g9 (v4 740 (by omega) (by omega)), RR.zero g10 (v4 741 (by omega) (by omega)), RR.zero g11 (v4 742 (by omega) (by omega))⟩
    show RX G a7 a8 (F_X6_copyFrom G w c' (rf G a7 0) (rf G (rf G a7 1) 6)) _
    refine h.stepG C7 (hD.tr y2 y3 y9 y10 y11 (fun k k1 k2 _ => by rw [stv_k (by omega), m2 k (by omega)])) (fun j b hj x hx => ?_) ?_ (fun k k1 k2 => ?_) ?_
    · have := im j b hj
      rw [y1 x (by omega), f1 x (by omega)]
    · rw [y1 a7 (by omega), f1 a7 (by omega)]
    · rw [stv_k (by omega), m3 k (by omega), v3 k k2]
    · rw [stv_row (ne821 S8), m1 _ (ne821 S8), v1 _ n82 (ne821 S8)]
  · rw [if_neg o2] at e8
    obtain ⟨-, rfl⟩ := Prod.mk.inj e8
    have hlt : (-10 - c' (rf G a7 1) 4 : Int32) < 0 := by
      rw [o3]
      have e10 : (-10 : Int32).toInt = -10 := by decide
      have := hb.1
      have := hb.2
      refine i_lt.mpr ?_
      rw [fb_subI (by rw [e10]; omega) (by rw [e10]; omega), e10, h0]
      omega
    rw [o1] at e1
    rw [if_pos hlt] at e1
    obtain ⟨-, rfl⟩ := Prod.mk.inj e1
    refine h.stepG C7 (h.1.out q2 (fun f g1 g2 => f1 f (by omega)) (fun k k1 _ _ => v3 _ (by omega))) (fun j b hj x hx => ?_) (by rw [f1 a7 (by omega)]) (fun k k1 k2 => v3 k k2) (v1 _ n82 (ne821 S8))
    have := im j b hj
    exact f1 x (by omega)
end MET3
