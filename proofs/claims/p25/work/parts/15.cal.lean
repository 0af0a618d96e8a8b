theorem Bd.zf {x : Int32} {a b : Int} (h : Bd x a b) (hs : 0 ≤ a ∧ b ≤ 1) : fits .boolean (.int x) = true := by
  obtain ⟨h1, h2⟩ := h
  have h3 : x.toInt = 0 ∨ x.toInt = 1 := by omega
  rcases h3 with h3 | h3
  · have : x = 0 := Int32.toInt_inj.mp (by rw [h3]; rfl)
    subst this; rfl
  · have : x = 1 := Int32.toInt_inj.mp (by rw [h3]; rfl)
    subst this; rfl
section CEF
variable {l : Launch} {y : MethodName} {cc : ByteArray} {maxL : Nat} {ret : Option FieldType} {rm : Room} {D : va_G} {dA : Nat → ClassId} {G : Gm} {As : List Value} {v : Mv} {w : Mw}
theorem CtI.ofF {post : Int32 → Mv → Mw → Prop} (own : String) (lv : List (Nat × Value)) (hlen : (lg_sl As).length ≤ maxL) (hlv : lv_args 0 As = lv) (hy : plainFor y = true) (hyo : y.cls = own)
    (body : ∀ (p : Program) (e : Env) (s : State) (m : MethodId) (args : Array Value) (below : List Frame) (meth : Method) (c : Code), Cx p rm s m meth c 0 0 cc maxL own D dA G (dm G) → meth.sig.returnType = ret → J p l e rm s m args below meth c 0 0 (MQ below (QcI D dA G post) args s 0 0 (dm G)) D dA G (dm G) s.heap maxL v w lv 0 []) : CtI l y cc maxL ret rm D dA G As v w post := by
  refine va_MetF (cc := cc) (maxL := maxL) (ret := ret) hy rfl ?_
  intro p e s m args below meth c s₁ B hml hv
  obtain ⟨rfl, hH, hK, hT⟩ := hv
  have hown : s.vm.findClass own = some m.cls := hyo ▸ findClass_of_methodNamed B.named
  have hl := lv_entry As (n := maxL) hlen
  rw [lg_entry_eq]
  generalize (lg_sl As ++ List.replicate (maxL - (lg_sl As).length) Slot.unset).toArray = ls at hl ⊢
  exact body p e s m _ below meth c ⟨B.exec, B.bytes, hml, hown, hT, hK, ⟨Nat.zero_le _, Nat.zero_le _⟩, fun _ h => h, B.notSynchronized⟩ B.returns s.heap [] ls hH va_S.rf (hlv ▸ hl)
end CEF
theorem nle_of_lt {x y : Int32} (h : x < y) : ¬ y ≤ x := by
  rw [Int32.lt_iff_toInt_lt] at h; rw [Int32.le_iff_toInt_le]; omega
/-- only cells of these tags were written -/
def Fr (G : Gm) (ts : List Nat) (v v' : Mv) : Prop := ∀ (a k : Nat) (sh : Sh), G a = some sh → ts.contains (tg sh) = false → v' a k = v a k
theorem Fr.rf {G : Gm} {ts : List Nat} {v : Mv} : Fr G ts v v := fun _ _ _ _ _ => rfl
theorem Fr.st {G : Gm} {ts : List Nat} {v v1 v2 : Mv} {a k : Nat} {x : Int32} {sh : Sh} (h : Fr G ts v v1) (e : v2 = stv v1 a k x) (hG : G a = some sh) (ht : ts.contains (tg sh) = true) : Fr G ts v v2 := by
  intro b j sh' hb hc
  have hq : b ≠ a := fun q => by
    subst q
    rw [hG] at hb
    cases hb
    rw [ht] at hc
    cases hc
  rw [e, stv_a hq]
  exact h b j sh' hb hc
theorem Fr.tr {G : Gm} {ts ts2 : List Nat} {v v1 v2 : Mv} (h : Fr G ts v v1) (h2 : Fr G ts2 v1 v2) (hs : ts2.all (fun t => ts.contains t) = true) : Fr G ts v v2 := by
  intro b j sh hb hc
  have hc2 : ts2.contains (tg sh) = false := by
    cases hq : ts2.contains (tg sh) with
    | false => rfl
    | true =>
      have h3 := List.all_eq_true.mp hs (tg sh) (List.contains_iff_mem.mp hq)
      rw [hc] at h3
      cases h3
  exact (h2 b j sh hb hc2).trans (h b j sh hb hc)
theorem Fr.at {G : Gm} {ts : List Nat} {v v1 : Mv} {a : Nat} {sh : Sh} (h : Fr G ts v v1) (hG : G a = some sh) (ht : ts.contains (tg sh) = false) (k : Nat) : v1 a k = v a k := h a k sh hG ht
theorem Bd.narB (x : Int32) : Bd (vp_nar .byte x) (-128) 127 := by rw [vp_nar_byte]; exact Bd.byte rfl
theorem Bd.narZ (x : Int32) : Bd (vp_nar .boolean x) 0 1 := by
  show Bd (x &&& 1) 0 1
  exact Bd.and_r (x := x) (y := 1) rfl (Bd.lit 1 1 (by decide)) (by decide)
/-- the kept places but those of P are as they were -/
def Kx (G : Gm) (P : Nat → Nat → Prop) (v v' : Mv) : Prop := ∀ (a : Nat) (sh : Sh), G a = some sh → ∀ (k : Nat) (lo hi : Int), rng sh k = some (lo, hi, true) → ¬ P a k → v' a k = v a k
theorem Kx.rf {G : Gm} {P : Nat → Nat → Prop} {v : Mv} : Kx G P v v := fun _ _ _ _ _ _ _ _ => rfl
theorem Kx.tr {G : Gm} {P : Nat → Nat → Prop} {v v1 v2 : Mv} (h : Kx G P v v1) (h2 : Kx G P v1 v2) : Kx G P v v2 := fun a sh ha k lo hi hr hn => (h2 a sh ha k lo hi hr hn).trans (h a sh ha k lo hi hr hn)
theorem Kx.trp {G : Gm} {P : Nat → Nat → Prop} {v v1 v2 : Mv} (h : Kx G P v v1) (h2 : Kp G v1 v2) : Kx G P v v2 := fun a sh ha k lo hi hr hn => (h2 a sh ha k lo hi hr).trans (h a sh ha k lo hi hr hn)
theorem Kx.here {G : Gm} {P : Nat → Nat → Prop} {v0 v v1 : Mv} {a k : Nat} {x : Int32} (h : Kx G P v0 v) (e : v1 = stv v a k x) (hp : P a k) : Kx G P v0 v1 := by
  intro b sh hb j lo hi hr hn
  have hq : ¬ (b = a ∧ j = k) := fun q => hn (by rw [q.1, q.2]; exact hp)
  rw [e]
  unfold stv
  rw [if_neg hq]
  exact h b sh hb j lo hi hr hn
theorem Kx.pf {G : Gm} {P : Nat → Nat → Prop} {v0 v v1 : Mv} {a k ci : Nat} {fs : List Fk} {x : Int32} {lo hi : Int} (h : Kx G P v0 v) (e : v1 = stv v a k x) (hG : G a = some (.inl (ci, fs))) (hf : fs[k]? = some (.inl (lo, hi, false))) : Kx G P v0 v1 := fun b sh hb j l2 h2 hr hn => (Kp.pf (Kp.rf (v := v)) e hG hf b sh hb j l2 h2 hr).trans (h b sh hb j l2 h2 hr hn)
theorem Kx.sv {G : Gm} {P : Nat → Nat → Prop} {v0 v : Mv} (h : Kx G P v0 v) {a t n : Nat} {g : Nat → Int × Int × Bool} (hG : G a = some (.inr (t, n, .inl g))) {i x : Int32} {lo hi : Int} (hi0 : Bd i lo hi) (lo' k : Nat) (L U : Int) (hs : (lo' : Int) ≤ lo ∧ hi < (lo' + k : Nat) ∧ lo' + k ≤ n) (hg : rgO g lo' k L U = true) : Kx G P v0 (stv v a i.toNatClampNeg x) := fun b sh hb j l2 h2 hr hn => (Kp.sv (Kp.rf (v := v)) hG hi0 lo' k L U hs hg b sh hb j l2 h2 hr).trans (h b sh hb j l2 h2 hr hn)
theorem Ok.svk {G : Gm} {v : Mv} {w : Mw} (h : Ok G v w) {a t n : Nat} {g : Nat → Int × Int × Bool} (hG : G a = some (.inr (t, n, .inl g))) {j : Nat} {x : Int32} {L U : Int} (hx : Bd x L U) (hg : ∀ k, (g k).1 ≤ L ∧ U ≤ (g k).2.1) : Ok G (stv v a j x) w := by
  refine h.st hG (fun r hr => ?_)
  have hr : (if j < n then some (g j) else none) = some r := hr
  split at hr
  · have hr := Option.some.inj hr
    rw [← hr]
    exact ⟨Int.le_trans (hg j).1 hx.1, Int.le_trans hx.2 (hg j).2⟩
  · cases hr
theorem Bd.m2 {x : Int32} (h : Bd x (-2) (-2)) : x = -2 := Int32.toInt_inj.mp (by rw [show x.toInt = -2 by obtain ⟨h1, h2⟩ := h; omega]; decide)
theorem Bd.ix {x : Int32} {k : Int} (h : Bd x k k) (n : Nat) (e : k = (n : Int)) : x.toNatClampNeg = n := by
  obtain ⟨h1, h2⟩ := h
  show x.toInt.toNat = n
  omega
theorem Bd.nix {x : Int32} {a b : Int} (h : Bd x a b) (n : Nat) (hs : (n : Int) < a ∨ (b < (n : Int) ∧ 0 ≤ a)) : n ≠ x.toNatClampNeg := by
  obtain ⟨h1, h2⟩ := h
  show n ≠ x.toInt.toNat
  omega
theorem Ok.fa {G : Gm} {v : Mv} {w : Mw} {a k t n : Nat} {g : Nat → Int × Int × Bool} {x : Int32} {lo hi : Int} {b : Bool} (h : Ok G v w) (e : x = v a k) (hG : G a = some (.inr (t, n, .inl g))) (hk : k < n) (hf : g k = (lo, hi, b)) : Bd x lo hi := by
  subst e
  exact h.1 a _ hG k (lo, hi, b) (by show (if _ then _ else _) = _; rw [if_pos hk, hf])
section JA1
variable {p : Program} {l : Launch} {e : Env} {R : Room} {s : State} {m : MethodId} {args : Array Value} {below : List Frame} {meth : Method} {c : Code} {cells slots : Nat} {Q : State → Prop} {D : va_G} {dA : Nat → ClassId} {G : Gm} {A : Nat → Prop} {H0 : Heap} {nL : Nat} {cc : ByteArray} {own : String} {v : Mv} {w : Mw} {lv lv' : List (Nat × Value)} {pc : Nat} {st : List Value}
theorem J_aast41 (E : Cx p R s m meth c cells slots cc nL own D dA G A) {n : Nat} {L : List Nat} {a b : Nat} {i : Int32} {fs : List Fk} (hG : G a = some (.inr (4, n, .inr L))) (hB : G b = some (.inl (2, fs))) (hi : vp_in i n) (hd : decode cc pc = .ok (.aastore, 1)) (K : ∀ w1 : Mw, w1 = stu w a i.toNatClampNeg (some b) → J p l e R s m args below meth c cells slots Q D dA G A H0 nL v w1 lv (pc + 1) st) : J p l e R s m args below meth c cells slots Q D dA G A H0 nL v w lv pc (.ref b :: .int i :: .ref a :: st) := J_aast4 E hG hB hi hd (K _ rfl)
end JA1
theorem cal_X0_fillByStrength : CalV yX0_fillByStrength cX0_fillByStrength 5 none 3 := ⟨wd769, wd121, wd768, wd53, by decide +kernel, by decide +kernel, by decide +kernel⟩
theorem cal_X0_fillByThingKind : CalV yX0_fillByThingKind cX0_fillByThingKind 5 none 3 := ⟨wd812, wd121, wd811, wd58, by decide +kernel, by decide +kernel, by decide +kernel⟩
theorem cal_X0_fillByOneKind : CalV yX0_fillByOneKind cX0_fillByOneKind 5 none 3 := ⟨wd837, wd121, wd836, wd62, by decide +kernel, by decide +kernel, by decide +kernel⟩
theorem cal_X0_put : CalV yX0_put cX0_put 2 none 1 := ⟨wd774, wd121, wd773, wd54, by decide +kernel, by decide +kernel, by decide +kernel⟩
theorem cal_X0_greaterPart : CalV yX0_greaterPart cX0_greaterPart 4 (some .int) 1 := ⟨wd778, wd121, wd777, wd55, by decide +kernel, by decide +kernel, by decide +kernel⟩
theorem cal_X0_mostAlike : CalV yX0_mostAlike cX0_mostAlike 5 (some .int) 0 := ⟨wd817, wd121, wd816, wd59, by decide +kernel, by decide +kernel, by decide +kernel⟩
theorem cal_X1_fill : CalV yX1_fill cX1_fill 5 none 2 := ⟨wd687, wd120, wd686, wd40, by decide +kernel, by decide +kernel, by decide +kernel⟩
theorem cal_X1_best : CalV yX1_best cX1_best 6 (some .int) 2 := ⟨wd696, wd120, wd695, wd42, by decide +kernel, by decide +kernel, by decide +kernel⟩
theorem cal_X1_most : CalV yX1_most cX1_most 3 (some .int) 2 := ⟨wd700, wd120, wd699, wd43, by decide +kernel, by decide +kernel, by decide +kernel⟩
theorem cal_X1_firstThingOf : CalV yX1_firstThingOf cX1_firstThingOf 6 (some .int) 2 := ⟨wd705, wd120, wd704, wd44, by decide +kernel, by decide +kernel, by decide +kernel⟩
theorem cal_X1_firstThing : CalV yX1_firstThing cX1_firstThing 6 (some .int) 2 := ⟨wd709, wd120, wd708, wd45, by decide +kernel, by decide +kernel, by decide +kernel⟩
theorem cal_X2_copyFrom : CalV yX2_copyFrom cX2_copyFrom 3 none 1 := ⟨wd574, wd117, wd573, wd29, by decide +kernel, by decide +kernel, by decide +kernel⟩
theorem cal_X2_isHere : CalV yX2_isHere cX2_isHere 2 (some .boolean) 1 := ⟨wd499, wd117, wd498, wd17, by decide +kernel, by decide +kernel, by decide +kernel⟩
theorem cal_X2_countHere : CalV yX2_countHere cX2_countHere 1 (some .int) 0 := ⟨wd624, wd117, wd623, wd37, by decide +kernel, by decide +kernel, by decide +kernel⟩
theorem cal_X2_lose : CalV yX2_lose cX2_lose 2 none 1 := ⟨wd562, wd117, wd561, wd26, by decide +kernel, by decide +kernel, by decide +kernel⟩
theorem cal_X2_growOlder : CalV yX2_growOlder cX2_growOlder 2 none 1 := ⟨wd557, wd117, wd556, wd25, by decide +kernel, by decide +kernel, by decide +kernel⟩
theorem cal_X3_append : CalV yX3_append cX3_append 2 (some .int) 1 := ⟨wd391, wd119, wd390, wd6, by decide +kernel, by decide +kernel, by decide +kernel⟩
theorem cal_X3_readItems : CalV yX3_readItems cX3_readItems 2 (some .int) 0 := ⟨wd403, wd119, wd402, wd7, by decide +kernel, by decide +kernel, by decide +kernel⟩
theorem cal_X3_takeItem : CalV yX3_takeItem cX3_takeItem 2 (some .boolean) 1 := ⟨wd417, wd119, wd416, wd10, by decide +kernel, by decide +kernel, by decide +kernel⟩
theorem cal_X3_takeThing : CalV yX3_takeThing cX3_takeThing 2 (some .boolean) 0 := ⟨wd475, wd119, wd474, wd12, by decide +kernel, by decide +kernel, by decide +kernel⟩
theorem cal_X3_takeOne : CalV yX3_takeOne cX3_takeOne 3 (some .boolean) 0 := ⟨wd485, wd119, wd484, wd14, by decide +kernel, by decide +kernel, by decide +kernel⟩
theorem cal_X3_takeOwn : CalV yX3_takeOwn cX3_takeOwn 2 (some .boolean) 0 := ⟨wd491, wd119, wd490, wd15, by decide +kernel, by decide +kernel, by decide +kernel⟩
theorem cal_X3_takeLeave : CalV yX3_takeLeave cX3_takeLeave 1 (some .boolean) 0 := ⟨wd512, wd119, wd511, wd20, by decide +kernel, by decide +kernel, by decide +kernel⟩
theorem cal_X3_takeYears : CalV yX3_takeYears cX3_takeYears 1 (some .boolean) 0 := ⟨wd517, wd119, wd516, wd21, by decide +kernel, by decide +kernel, by decide +kernel⟩
theorem cal_X3_takeNumber : CalV yX3_takeNumber cX3_takeNumber 3 (some .boolean) 2 := ⟨wd479, wd119, wd478, wd13, by decide +kernel, by decide +kernel, by decide +kernel⟩
theorem cal_X3_takeStop : CalV yX3_takeStop cX3_takeStop 1 (some .boolean) 0 := ⟨wd566, wd119, wd565, wd27, by decide +kernel, by decide +kernel, by decide +kernel⟩
theorem cal_X3_isWord : CalV yX3_isWord cX3_isWord 3 (some .boolean) 1 := ⟨wd422, wd119, wd421, wd11, by decide +kernel, by decide +kernel, by decide +kernel⟩
theorem cal_X3_nextToken : CalV yX3_nextToken cX3_nextToken 1 none 0 := ⟨wd408, wd119, wd407, wd8, by decide +kernel, by decide +kernel, by decide +kernel⟩
theorem cal_X3_passRun : CalV yX3_passRun cX3_passRun 3 none 2 := ⟨wd413, wd119, wd412, wd9, by decide +kernel, by decide +kernel, by decide +kernel⟩
theorem cal_X4_isFull : CalV yX4_isFull cX4_isFull 1 (some .boolean) 0 := ⟨wd734, wd118, wd733, wd48, by decide +kernel, by decide +kernel, by decide +kernel⟩
theorem cal_X4_add : CalV yX4_add cX4_add 6 (some .int) 4 := ⟨wd738, wd118, wd737, wd49, by decide +kernel, by decide +kernel, by decide +kernel⟩
theorem cal_X4_cell : CalV yX4_cell cX4_cell 3 (some .int) 2 := ⟨wd754, wd118, wd753, wd52, by decide +kernel, by decide +kernel, by decide +kernel⟩
theorem cal_X4_drop : CalV yX4_drop cX4_drop 2 (some .int) 0 := ⟨wd356, wd118, wd355, wd1, by decide +kernel, by decide +kernel, by decide +kernel⟩
theorem cal_X4_copyFrom : CalV yX4_copyFrom cX4_copyFrom 3 none 1 := ⟨wd578, wd118, wd577, wd30, by decide +kernel, by decide +kernel, by decide +kernel⟩
theorem cal_X4_mixInto : CalV yX4_mixInto cX4_mixInto 6 (some .long) 1 := ⟨wd923, wd118, wd922, wd69, by decide +kernel, by decide +kernel, by decide +kernel⟩
theorem cal_X5_thingWeighs : CalS yX5_thingWeighs cX5_thingWeighs 3 (some .int) 3 := ⟨wd532, wd127, wd531, by decide +kernel, by decide +kernel, by decide +kernel⟩
theorem cal_X5_bell : CalS yX5_bell cX5_bell 1 (some .int) 1 := ⟨wd535, wd127, wd534, by decide +kernel, by decide +kernel, by decide +kernel⟩
theorem cal_X5_trunk : CalS yX5_trunk cX5_trunk 1 (some .int) 1 := ⟨wd538, wd127, wd537, by decide +kernel, by decide +kernel, by decide +kernel⟩
theorem cal_X5_oneLifts : CalS yX5_oneLifts cX5_oneLifts 4 (some .int) 3 := ⟨wd544, wd127, wd543, by decide +kernel, by decide +kernel, by decide +kernel⟩
theorem cal_X5_smith : CalS yX5_smith cX5_smith 1 (some .int) 1 := ⟨wd547, wd127, wd546, by decide +kernel, by decide +kernel, by decide +kernel⟩
theorem cal_X5_weak : CalS yX5_weak cX5_weak 1 (some .int) 1 := ⟨wd550, wd127, wd549, by decide +kernel, by decide +kernel, by decide +kernel⟩
theorem cal_X6_startAnew : CalV yX6_startAnew cX6_startAnew 1 none 0 := ⟨wd352, wd116, wd351, wd0, by decide +kernel, by decide +kernel, by decide +kernel⟩
theorem cal_X6_copyFrom : CalV yX6_copyFrom cX6_copyFrom 3 none 1 := ⟨wd570, wd116, wd569, wd28, by decide +kernel, by decide +kernel, by decide +kernel⟩
theorem cal_X6_hasThing : CalV yX6_hasThing cX6_hasThing 2 (some .boolean) 1 := ⟨wd529, wd116, wd528, wd24, by decide +kernel, by decide +kernel, by decide +kernel⟩
theorem cal_X6_hasOne : CalV yX6_hasOne cX6_hasOne 2 (some .boolean) 1 := ⟨wd587, wd116, wd586, wd31, by decide +kernel, by decide +kernel, by decide +kernel⟩
theorem cal_X6_addThing : CalV yX6_addThing cX6_addThing 4 (some .int) 2 := ⟨wd375, wd116, wd374, wd4, by decide +kernel, by decide +kernel, by decide +kernel⟩
theorem cal_X6_addOne : CalV yX6_addOne cX6_addOne 5 (some .int) 3 := ⟨wd383, wd116, wd382, wd5, by decide +kernel, by decide +kernel, by decide +kernel⟩
theorem cal_X6_remember : CalV yX6_remember cX6_remember 3 none 0 := ⟨wd598, wd116, wd597, wd33, by decide +kernel, by decide +kernel, by decide +kernel⟩
theorem cal_X6_bringBack : CalV yX6_bringBack cX6_bringBack 1 none 0 := ⟨wd638, wd116, wd637, wd38, by decide +kernel, by decide +kernel, by decide +kernel⟩
theorem cal_X6_mayGet : CalV yX6_mayGet cX6_mayGet 2 (some .boolean) 1 := ⟨wd495, wd116, wd494, wd16, by decide +kernel, by decide +kernel, by decide +kernel⟩
theorem cal_X6_ownerOf : CalV yX6_ownerOf cX6_ownerOf 2 (some .int) 1 := ⟨wd503, wd116, wd502, wd18, by decide +kernel, by decide +kernel, by decide +kernel⟩
theorem cal_X6_ownerIn : CalV yX6_ownerIn cX6_ownerIn 4 (some .int) 2 := ⟨wd507, wd116, wd506, wd19, by decide +kernel, by decide +kernel, by decide +kernel⟩
theorem cal_X6_countOwned : CalV yX6_countOwned cX6_countOwned 3 (some .int) 0 := ⟨wd907, wd116, wd906, wd67, by decide +kernel, by decide +kernel, by decide +kernel⟩
theorem cal_X6_factOfOne : CalV yX6_factOfOne cX6_factOfOne 3 (some .int) 2 := ⟨wd646, wd116, wd645, wd39, by decide +kernel, by decide +kernel, by decide +kernel⟩
theorem cal_X6_weightOf : CalV yX6_weightOf cX6_weightOf 3 (some .int) 2 := ⟨wd606, wd116, wd605, wd35, by decide +kernel, by decide +kernel, by decide +kernel⟩
theorem cal_X6_liftOf : CalV yX6_liftOf cX6_liftOf 4 (some .int) 2 := ⟨wd610, wd116, wd609, wd36, by decide +kernel, by decide +kernel, by decide +kernel⟩
theorem cal_X6_holdsFor : CalV yX6_holdsFor cX6_holdsFor 5 (some .int) 3 := ⟨wd602, wd116, wd601, wd34, by decide +kernel, by decide +kernel, by decide +kernel⟩
theorem cal_X6_thingsHolding : CalV yX6_thingsHolding cX6_thingsHolding 5 (some .int) 2 := ⟨wd691, wd116, wd690, wd41, by decide +kernel, by decide +kernel, by decide +kernel⟩
theorem cal_X6_toldWeight : CalV yX6_toldWeight cX6_toldWeight 4 (some .int) 1 := ⟨wd717, wd116, wd716, wd46, by decide +kernel, by decide +kernel, by decide +kernel⟩
theorem cal_X6_liftByTwo : CalV yX6_liftByTwo cX6_liftByTwo 7 (some .boolean) 3 := ⟨wd726, wd116, wd725, wd47, by decide +kernel, by decide +kernel, by decide +kernel⟩
theorem cal_X6_isHeldIn : CalV yX6_isHeldIn cX6_isHeldIn 4 (some .boolean) 2 := ⟨wd525, wd116, wd524, wd23, by decide +kernel, by decide +kernel, by decide +kernel⟩
theorem cal_X6_passYears : CalV yX6_passYears cX6_passYears 6 none 3 := ⟨wd521, wd116, wd520, wd22, by decide +kernel, by decide +kernel, by decide +kernel⟩
theorem cal_X6_giveIfFree : CalV yX6_giveIfFree cX6_giveIfFree 4 none 3 := ⟨wd878, wd116, wd877, wd65, by decide +kernel, by decide +kernel, by decide +kernel⟩
theorem cal_X6_tenthsHeld : CalV yX6_tenthsHeld cX6_tenthsHeld 7 (some .int) 3 := ⟨wd855, wd116, wd854, wd63, by decide +kernel, by decide +kernel, by decide +kernel⟩
theorem cal_X6_fittingStrengths : CalV yX6_fittingStrengths cX6_fittingStrengths 4 (some .int) 1 := ⟨wd746, wd116, wd745, wd50, by decide +kernel, by decide +kernel, by decide +kernel⟩
theorem cal_X6_fitsSeen : CalV yX6_fitsSeen cX6_fitsSeen 6 (some .boolean) 2 := ⟨wd750, wd116, wd749, wd51, by decide +kernel, by decide +kernel, by decide +kernel⟩
theorem cal_X6_fittingThingKinds : CalV yX6_fittingThingKinds cX6_fittingThingKinds 4 (some .int) 1 := ⟨wd800, wd116, wd799, wd56, by decide +kernel, by decide +kernel, by decide +kernel⟩
theorem cal_X6_fitsNotes : CalV yX6_fitsNotes cX6_fitsNotes 4 (some .boolean) 2 := ⟨wd804, wd116, wd803, wd57, by decide +kernel, by decide +kernel, by decide +kernel⟩
theorem cal_X6_fittingOneKinds : CalV yX6_fittingOneKinds cX6_fittingOneKinds 4 (some .int) 1 := ⟨wd825, wd116, wd824, wd60, by decide +kernel, by decide +kernel, by decide +kernel⟩
theorem cal_X6_fitsMarks : CalV yX6_fitsMarks cX6_fitsMarks 4 (some .boolean) 2 := ⟨wd829, wd116, wd828, wd61, by decide +kernel, by decide +kernel, by decide +kernel⟩
theorem cal_X6_mixInto : CalV yX6_mixInto cX6_mixInto 7 (some .long) 1 := ⟨wd917, wd116, wd916, wd68, by decide +kernel, by decide +kernel, by decide +kernel⟩
theorem cal_X7_people : CalV yX7_people cX7_people 2 (some .int) 0 := ⟨wd348, wd115, wd346, wd347, by decide +kernel, by decide +kernel, by decide +kernel⟩
theorem cal_X7_thing : CalV yX7_thing cX7_thing 3 (some .int) 2 := ⟨wd360, wd115, wd358, wd359, by decide +kernel, by decide +kernel, by decide +kernel⟩
theorem cal_X7_one : CalV yX7_one cX7_one 4 (some .int) 3 := ⟨wd379, wd115, wd377, wd378, by decide +kernel, by decide +kernel, by decide +kernel⟩
theorem cal_X7_type : CalV yX7_type cX7_type 2 (some .int) 1 := ⟨wd387, wd115, wd385, wd386, by decide +kernel, by decide +kernel, by decide +kernel⟩
theorem cal_X7_clear : CalV yX7_clear cX7_clear 2 (some .int) 0 := ⟨wd395, wd115, wd393, wd394, by decide +kernel, by decide +kernel, by decide +kernel⟩
theorem cal_X7_read : CalV yX7_read cX7_read 2 (some .int) 0 := ⟨wd399, wd115, wd397, wd398, by decide +kernel, by decide +kernel, by decide +kernel⟩
theorem cal_X7_owns : CalV yX7_owns cX7_owns 3 (some .int) 2 := ⟨wd583, wd115, wd581, wd582, by decide +kernel, by decide +kernel, by decide +kernel⟩
theorem cal_X7_leaves : CalV yX7_leaves cX7_leaves 3 (some .int) 1 := ⟨wd615, wd115, wd613, wd614, by decide +kernel, by decide +kernel, by decide +kernel⟩
theorem cal_X7_years : CalV yX7_years cX7_years 2 (some .int) 1 := ⟨wd619, wd115, wd617, wd618, by decide +kernel, by decide +kernel, by decide +kernel⟩
theorem cal_X7_undo : CalV yX7_undo cX7_undo 1 (some .int) 0 := ⟨wd634, wd115, wd632, wd633, by decide +kernel, by decide +kernel, by decide +kernel⟩
theorem cal_X7_of : CalV yX7_of cX7_of 3 (some .int) 2 := ⟨wd642, wd115, wd640, wd641, by decide +kernel, by decide +kernel, by decide +kernel⟩
theorem cal_X7_about : CalV yX7_about cX7_about 3 (some .int) 2 := ⟨wd650, wd115, wd648, wd649, by decide +kernel, by decide +kernel, by decide +kernel⟩
theorem cal_X7_lifts : CalV yX7_lifts cX7_lifts 3 (some .int) 2 := ⟨wd654, wd115, wd652, wd653, by decide +kernel, by decide +kernel, by decide +kernel⟩
theorem cal_X7_weighs : CalV yX7_weighs cX7_weighs 3 (some .int) 2 := ⟨wd659, wd115, wd657, wd658, by decide +kernel, by decide +kernel, by decide +kernel⟩
theorem cal_X7_held : CalV yX7_held cX7_held 3 (some .int) 0 := ⟨wd664, wd115, wd662, wd663, by decide +kernel, by decide +kernel, by decide +kernel⟩
theorem cal_X7_left : CalV yX7_left cX7_left 2 (some .int) 1 := ⟨wd670, wd115, wd668, wd669, by decide +kernel, by decide +kernel, by decide +kernel⟩
theorem cal_X7_when : CalV yX7_when cX7_when 4 (some .int) 1 := ⟨wd675, wd115, wd673, wd674, by decide +kernel, by decide +kernel, by decide +kernel⟩
theorem cal_X7_lasts : CalV yX7_lasts cX7_lasts 3 (some .int) 2 := ⟨wd679, wd115, wd677, wd678, by decide +kernel, by decide +kernel, by decide +kernel⟩
theorem cal_X7_match : CalV yX7_match cX7_match 4 (some .int) 2 := ⟨wd683, wd115, wd681, wd682, by decide +kernel, by decide +kernel, by decide +kernel⟩
theorem cal_X7_light : CalV yX7_light cX7_light 6 (some .int) 1 := ⟨wd713, wd115, wd711, wd712, by decide +kernel, by decide +kernel, by decide +kernel⟩
theorem cal_X7_two : CalV yX7_two cX7_two 6 (some .int) 2 := ⟨wd722, wd115, wd720, wd721, by decide +kernel, by decide +kernel, by decide +kernel⟩
theorem cal_X7_seen : CalV yX7_seen cX7_seen 5 (some .int) 4 := ⟨wd730, wd115, wd728, wd729, by decide +kernel, by decide +kernel, by decide +kernel⟩
theorem cal_X7_strong : CalV yX7_strong cX7_strong 4 (some .int) 2 := ⟨wd742, wd115, wd740, wd741, by decide +kernel, by decide +kernel, by decide +kernel⟩
theorem cal_X7_tell : CalV yX7_tell cX7_tell 8 (some .int) 1 := ⟨wd765, wd115, wd763, wd764, by decide +kernel, by decide +kernel, by decide +kernel⟩
theorem cal_X7_note : CalV yX7_note cX7_note 5 (some .int) 4 := ⟨wd783, wd115, wd781, wd782, by decide +kernel, by decide +kernel, by decide +kernel⟩
theorem cal_X7_mark : CalV yX7_mark cX7_mark 5 (some .int) 4 := ⟨wd787, wd115, wd785, wd786, by decide +kernel, by decide +kernel, by decide +kernel⟩
theorem cal_X7_forget : CalV yX7_forget cX7_forget 2 (some .int) 1 := ⟨wd791, wd115, wd789, wd790, by decide +kernel, by decide +kernel, by decide +kernel⟩
theorem cal_X7_is : CalV yX7_is cX7_is 2 (some .int) 1 := ⟨wd796, wd115, wd794, wd795, by decide +kernel, by decide +kernel, by decide +kernel⟩
theorem cal_X7_look : CalV yX7_look cX7_look 7 (some .int) 1 := ⟨wd808, wd115, wd806, wd807, by decide +kernel, by decide +kernel, by decide +kernel⟩
theorem cal_X7_kinds : CalV yX7_kinds cX7_kinds 2 (some .int) 1 := ⟨wd821, wd115, wd819, wd820, by decide +kernel, by decide +kernel, by decide +kernel⟩
theorem cal_X7_ask : CalV yX7_ask cX7_ask 7 (some .int) 1 := ⟨wd833, wd115, wd831, wd832, by decide +kernel, by decide +kernel, by decide +kernel⟩
theorem cal_X7_tries : CalV yX7_tries cX7_tries 11 (some .int) 3 := ⟨wd841, wd115, wd839, wd840, by decide +kernel, by decide +kernel, by decide +kernel⟩
theorem cal_X7_shout : CalV yX7_shout cX7_shout 9 (some .int) 3 := ⟨wd851, wd115, wd849, wd850, by decide +kernel, by decide +kernel, by decide +kernel⟩
theorem cal_X7_centuries : CalV yX7_centuries cX7_centuries 8 (some .int) 2 := ⟨wd867, wd115, wd865, wd866, by decide +kernel, by decide +kernel, by decide +kernel⟩
theorem cal_X7_part : CalV yX7_part cX7_part 2 (some .long) 1 := ⟨wd883, wd115, wd881, wd882, by decide +kernel, by decide +kernel, by decide +kernel⟩
theorem cal_X7_image : CalV yX7_image cX7_image 2 (some .int) 1 := ⟨wd887, wd115, wd885, wd886, by decide +kernel, by decide +kernel, by decide +kernel⟩
theorem cal_X7_from : CalV yX7_from cX7_from 2 (some .int) 1 := ⟨wd891, wd115, wd889, wd890, by decide +kernel, by decide +kernel, by decide +kernel⟩
theorem cal_X7_status : CalV yX7_status cX7_status 2 (some .int) 1 := ⟨wd895, wd115, wd893, wd894, by decide +kernel, by decide +kernel, by decide +kernel⟩
theorem cal_X7_count : CalV yX7_count cX7_count 2 (some .int) 1 := ⟨wd899, wd115, wd897, wd898, by decide +kernel, by decide +kernel, by decide +kernel⟩
theorem cal_X7_digest : CalV yX7_digest cX7_digest 4 (some .long) 0 := ⟨wd911, wd115, wd909, wd910, by decide +kernel, by decide +kernel, by decide +kernel⟩
theorem cal_X7_howMany : CalV yX7_howMany cX7_howMany 2 (some .int) 1 := ⟨wd903, wd115, wd902, wd66, by decide +kernel, by decide +kernel, by decide +kernel⟩
theorem cal_X7_bad : CalV yX7_bad cX7_bad 1 (some .int) 0 := ⟨wd367, wd115, wd366, wd2, by decide +kernel, by decide +kernel, by decide +kernel⟩
theorem cal_X7_no : CalV yX7_no cX7_no 1 (some .int) 0 := ⟨wd594, wd115, wd593, wd32, by decide +kernel, by decide +kernel, by decide +kernel⟩
theorem cal_X7_full : CalV yX7_full cX7_full 1 (some .int) 0 := ⟨wd371, wd115, wd370, wd3, by decide +kernel, by decide +kernel, by decide +kernel⟩
theorem cal_X7_setFraction : CalV yX7_setFraction cX7_setFraction 7 none 2 := ⟨wd860, wd115, wd859, wd64, by decide +kernel, by decide +kernel, by decide +kernel⟩
theorem cal_X7_commonDivisor : CalS yX7_commonDivisor cX7_commonDivisor 11 (some .long) 2 := ⟨wd863, wd115, wd862, by decide +kernel, by decide +kernel, by decide +kernel⟩
theorem cal_X7_leastBit : CalS yX7_leastBit cX7_leastBit 2 (some .int) 1 := ⟨wd758, wd115, wd757, by decide +kernel, by decide +kernel, by decide +kernel⟩
theorem cal_X7_greatestBit : CalS yX7_greatestBit cX7_greatestBit 2 (some .int) 1 := ⟨wd761, wd115, wd760, by decide +kernel, by decide +kernel, by decide +kernel⟩
theorem cal_X7_isWithin : CalS yX7_isWithin cX7_isWithin 3 (some .boolean) 3 := ⟨wd363, wd115, wd362, by decide +kernel, by decide +kernel, by decide +kernel⟩
theorem cal_X7_isContent : CalS yX7_isContent cX7_isContent 5 (some .boolean) 5 := ⟨wd844, wd115, wd843, by decide +kernel, by decide +kernel, by decide +kernel⟩
theorem cal_X7_gain : CalS yX7_gain cX7_gain 5 (some .int) 5 := ⟨wd847, wd115, wd846, by decide +kernel, by decide +kernel, by decide +kernel⟩
theorem cal_X8_in : CalS yX8_in cX8_in 3 (some .boolean) 3 := ⟨wd998, wd122, wd997, by decide +kernel, by decide +kernel, by decide +kernel⟩
theorem cal_X8_has : CalS yX8_has cX8_has 2 (some .boolean) 2 := ⟨wd1077, wd122, wd1076, by decide +kernel, by decide +kernel, by decide +kernel⟩
theorem cal_X8_bitsOf : CalS yX8_bitsOf cX8_bitsOf 3 (some .int) 1 := ⟨wd1154, wd122, wd1153, by decide +kernel, by decide +kernel, by decide +kernel⟩
theorem cal_X8_bad : CalV yX8_bad cX8_bad 1 (some .int) 0 := ⟨wd1002, wd122, wd1001, wd71, by decide +kernel, by decide +kernel, by decide +kernel⟩
theorem cal_X8_no : CalV yX8_no cX8_no 1 (some .int) 0 := ⟨wd1135, wd122, wd1134, wd97, by decide +kernel, by decide +kernel, by decide +kernel⟩
theorem cal_X8_full : CalV yX8_full cX8_full 1 (some .int) 0 := ⟨wd1006, wd122, wd1005, wd72, by decide +kernel, by decide +kernel, by decide +kernel⟩
theorem cal_X8_begin : CalV yX8_begin cX8_begin 3 none 1 := ⟨wd934, wd122, wd933, wd70, by decide +kernel, by decide +kernel, by decide +kernel⟩
theorem cal_X8_copyRow : CalV yX8_copyRow cX8_copyRow 4 none 2 := ⟨wd1115, wd122, wd1114, wd93, by decide +kernel, by decide +kernel, by decide +kernel⟩
theorem cal_X8_take : CalV yX8_take cX8_take 2 none 0 := ⟨wd1202, wd122, wd1201, wd104, by decide +kernel, by decide +kernel, by decide +kernel⟩
theorem cal_X8_isThing : CalV yX8_isThing cX8_isThing 2 (some .boolean) 1 := ⟨wd1127, wd122, wd1126, wd95, by decide +kernel, by decide +kernel, by decide +kernel⟩
theorem cal_X8_isOne : CalV yX8_isOne cX8_isOne 2 (some .boolean) 1 := ⟨wd1123, wd122, wd1122, wd94, by decide +kernel, by decide +kernel, by decide +kernel⟩
theorem cal_X8_weighsBy : CalS yX8_weighsBy cX8_weighsBy 4 (some .int) 3 := ⟨wd1104, wd122, wd1103, by decide +kernel, by decide +kernel, by decide +kernel⟩
theorem cal_X8_liftsBy : CalS yX8_liftsBy cX8_liftsBy 5 (some .int) 3 := ⟨wd1111, wd122, wd1110, by decide +kernel, by decide +kernel, by decide +kernel⟩
theorem cal_X8_weighsOf : CalV yX8_weighsOf cX8_weighsOf 4 (some .int) 3 := ⟨wd1101, wd122, wd1100, wd91, by decide +kernel, by decide +kernel, by decide +kernel⟩
theorem cal_X8_liftsOf : CalV yX8_liftsOf cX8_liftsOf 4 (some .int) 3 := ⟨wd1108, wd122, wd1107, wd92, by decide +kernel, by decide +kernel, by decide +kernel⟩
theorem cal_X8_isHeld : CalV yX8_isHeld cX8_isHeld 6 (some .boolean) 4 := ⟨wd1097, wd122, wd1096, wd90, by decide +kernel, by decide +kernel, by decide +kernel⟩
theorem cal_X8_passOn : CalV yX8_passOn cX8_passOn 6 none 3 := ⟨wd1093, wd122, wd1092, wd89, by decide +kernel, by decide +kernel, by decide +kernel⟩
theorem cal_X8_hereOf : CalV yX8_hereOf cX8_hereOf 3 (some .int) 2 := ⟨wd1151, wd122, wd1150, wd99, by decide +kernel, by decide +kernel, by decide +kernel⟩
theorem cal_X8_ownerOf : CalV yX8_ownerOf cX8_ownerOf 7 (some .int) 4 := ⟨wd1081, wd122, wd1080, wd86, by decide +kernel, by decide +kernel, by decide +kernel⟩
theorem cal_X8_people : CalV yX8_people cX8_people 2 (some .int) 0 := ⟨wd991, wd122, wd989, wd990, by decide +kernel, by decide +kernel, by decide +kernel⟩
theorem cal_X8_add : CalV yX8_add cX8_add 5 (some .int) 3 := ⟨wd1010, wd122, wd1009, wd73, by decide +kernel, by decide +kernel, by decide +kernel⟩
theorem cal_X8_thing : CalV yX8_thing cX8_thing 3 (some .int) 2 := ⟨wd995, wd122, wd993, wd994, by decide +kernel, by decide +kernel, by decide +kernel⟩
theorem cal_X8_join : CalV yX8_join cX8_join 6 (some .int) 4 := ⟨wd1018, wd122, wd1017, wd74, by decide +kernel, by decide +kernel, by decide +kernel⟩
theorem cal_X8_one : CalV yX8_one cX8_one 4 (some .int) 3 := ⟨wd1014, wd122, wd1012, wd1013, by decide +kernel, by decide +kernel, by decide +kernel⟩
theorem cal_X8_type : CalV yX8_type cX8_type 2 (some .int) 1 := ⟨wd1022, wd122, wd1020, wd1021, by decide +kernel, by decide +kernel, by decide +kernel⟩
theorem cal_X8_clear : CalV yX8_clear cX8_clear 2 (some .int) 0 := ⟨wd1026, wd122, wd1024, wd1025, by decide +kernel, by decide +kernel, by decide +kernel⟩
theorem cal_X8_here : CalV yX8_here cX8_here 1 (some .int) 0 := ⟨wd1038, wd122, wd1037, wd76, by decide +kernel, by decide +kernel, by decide +kernel⟩
theorem cal_X8_spells : CalV yX8_spells cX8_spells 9 (some .boolean) 7 := ⟨wd1046, wd122, wd1045, wd78, by decide +kernel, by decide +kernel, by decide +kernel⟩
theorem cal_X8_wordOf : CalV yX8_wordOf cX8_wordOf 1 (some .int) 0 := ⟨wd1042, wd122, wd1041, wd77, by decide +kernel, by decide +kernel, by decide +kernel⟩
theorem cal_X8_step : CalV yX8_step cX8_step 2 none 0 := ⟨wd1034, wd122, wd1033, wd75, by decide +kernel, by decide +kernel, by decide +kernel⟩
theorem cal_X8_due : CalV yX8_due cX8_due 2 none 1 := ⟨wd1054, wd122, wd1053, wd80, by decide +kernel, by decide +kernel, by decide +kernel⟩
theorem cal_X8_number : CalV yX8_number cX8_number 4 (some .int) 2 := ⟨wd1066, wd122, wd1065, wd83, by decide +kernel, by decide +kernel, by decide +kernel⟩
theorem cal_X8_readThing : CalV yX8_readThing cX8_readThing 3 none 0 := ⟨wd1062, wd122, wd1061, wd82, by decide +kernel, by decide +kernel, by decide +kernel⟩
theorem cal_X8_readOne : CalV yX8_readOne cX8_readOne 4 none 0 := ⟨wd1070, wd122, wd1069, wd84, by decide +kernel, by decide +kernel, by decide +kernel⟩
theorem cal_X8_readOwn : CalV yX8_readOwn cX8_readOwn 4 none 0 := ⟨wd1074, wd122, wd1073, wd85, by decide +kernel, by decide +kernel, by decide +kernel⟩
theorem cal_X8_readLeave : CalV yX8_readLeave cX8_readLeave 2 none 0 := ⟨wd1085, wd122, wd1084, wd87, by decide +kernel, by decide +kernel, by decide +kernel⟩
theorem cal_X8_readYears : CalV yX8_readYears cX8_readYears 3 none 0 := ⟨wd1089, wd122, wd1088, wd88, by decide +kernel, by decide +kernel, by decide +kernel⟩
theorem cal_X8_item : CalV yX8_item cX8_item 2 none 1 := ⟨wd1058, wd122, wd1057, wd81, by decide +kernel, by decide +kernel, by decide +kernel⟩
theorem cal_X8_may : CalV yX8_may cX8_may 2 (some .boolean) 1 := ⟨wd1050, wd122, wd1049, wd79, by decide +kernel, by decide +kernel, by decide +kernel⟩
theorem cal_X8_read : CalV yX8_read cX8_read 2 (some .int) 0 := ⟨wd1030, wd122, wd1028, wd1029, by decide +kernel, by decide +kernel, by decide +kernel⟩
theorem cal_X8_know : CalV yX8_know cX8_know 2 none 0 := ⟨wd1139, wd122, wd1138, wd98, by decide +kernel, by decide +kernel, by decide +kernel⟩
theorem cal_X8_isLost : CalV yX8_isLost cX8_isLost 2 (some .boolean) 1 := ⟨wd1131, wd122, wd1130, wd96, by decide +kernel, by decide +kernel, by decide +kernel⟩
theorem cal_X8_owns : CalV yX8_owns cX8_owns 3 (some .int) 2 := ⟨wd1119, wd122, wd1117, wd1118, by decide +kernel, by decide +kernel, by decide +kernel⟩
theorem cal_X8_leaves : CalV yX8_leaves cX8_leaves 3 (some .int) 1 := ⟨wd1143, wd122, wd1141, wd1142, by decide +kernel, by decide +kernel, by decide +kernel⟩
theorem cal_X8_years : CalV yX8_years cX8_years 3 (some .int) 1 := ⟨wd1147, wd122, wd1145, wd1146, by decide +kernel, by decide +kernel, by decide +kernel⟩
theorem cal_X8_undo : CalV yX8_undo cX8_undo 2 (some .int) 0 := ⟨wd1158, wd122, wd1156, wd1157, by decide +kernel, by decide +kernel, by decide +kernel⟩
theorem cal_X8_told : CalV yX8_told cX8_told 3 (some .int) 2 := ⟨wd1166, wd122, wd1165, wd100, by decide +kernel, by decide +kernel, by decide +kernel⟩
theorem cal_X8_of : CalV yX8_of cX8_of 3 (some .int) 2 := ⟨wd1162, wd122, wd1160, wd1161, by decide +kernel, by decide +kernel, by decide +kernel⟩
theorem cal_X8_about : CalV yX8_about cX8_about 3 (some .int) 2 := ⟨wd1170, wd122, wd1168, wd1169, by decide +kernel, by decide +kernel, by decide +kernel⟩
theorem cal_X8_ageIn : CalV yX8_ageIn cX8_ageIn 4 (some .int) 2 := ⟨wd1182, wd122, wd1181, wd102, by decide +kernel, by decide +kernel, by decide +kernel⟩
theorem cal_X8_liftsIn : CalV yX8_liftsIn cX8_liftsIn 3 (some .int) 2 := ⟨wd1178, wd122, wd1177, wd101, by decide +kernel, by decide +kernel, by decide +kernel⟩
theorem cal_X8_weighsIn : CalV yX8_weighsIn cX8_weighsIn 3 (some .int) 2 := ⟨wd1190, wd122, wd1189, wd103, by decide +kernel, by decide +kernel, by decide +kernel⟩
theorem cal_X8_lifts : CalV yX8_lifts cX8_lifts 3 (some .int) 2 := ⟨wd1174, wd122, wd1172, wd1173, by decide +kernel, by decide +kernel, by decide +kernel⟩
theorem cal_X8_weighs : CalV yX8_weighs cX8_weighs 3 (some .int) 2 := ⟨wd1186, wd122, wd1184, wd1185, by decide +kernel, by decide +kernel, by decide +kernel⟩
theorem cal_X8_held : CalV yX8_held cX8_held 3 (some .int) 0 := ⟨wd1194, wd122, wd1192, wd1193, by decide +kernel, by decide +kernel, by decide +kernel⟩
theorem cal_X8_left : CalV yX8_left cX8_left 3 (some .int) 1 := ⟨wd1198, wd122, wd1196, wd1197, by decide +kernel, by decide +kernel, by decide +kernel⟩
theorem cal_X8_when : CalV yX8_when cX8_when 3 (some .int) 1 := ⟨wd1206, wd122, wd1204, wd1205, by decide +kernel, by decide +kernel, by decide +kernel⟩
theorem cal_X8_longOf : CalV yX8_longOf cX8_longOf 4 (some .int) 2 := ⟨wd1214, wd122, wd1213, wd105, by decide +kernel, by decide +kernel, by decide +kernel⟩
theorem cal_X8_lasts : CalV yX8_lasts cX8_lasts 3 (some .int) 2 := ⟨wd1210, wd122, wd1208, wd1209, by decide +kernel, by decide +kernel, by decide +kernel⟩
theorem cal_X8_tellMost : CalV yX8_tellMost cX8_tellMost 9 none 1 := ⟨wd1222, wd122, wd1221, wd106, by decide +kernel, by decide +kernel, by decide +kernel⟩
theorem cal_X8_match : CalV yX8_match cX8_match 9 (some .int) 2 := ⟨wd1218, wd122, wd1216, wd1217, by decide +kernel, by decide +kernel, by decide +kernel⟩
theorem cal_X8_light : CalV yX8_light cX8_light 2 (some .int) 1 := ⟨wd1227, wd122, wd1225, wd1226, by decide +kernel, by decide +kernel, by decide +kernel⟩
theorem cal_X8_doTwo : CalV yX8_doTwo cX8_doTwo 7 (some .boolean) 3 := ⟨wd1235, wd122, wd1234, wd107, by decide +kernel, by decide +kernel, by decide +kernel⟩
theorem cal_X8_two : CalV yX8_two cX8_two 6 (some .int) 2 := ⟨wd1231, wd122, wd1229, wd1230, by decide +kernel, by decide +kernel, by decide +kernel⟩
theorem cal_X8_tell4 : CalV yX8_tell4 cX8_tell4 8 (some .int) 6 := ⟨wd1243, wd122, wd1242, wd108, by decide +kernel, by decide +kernel, by decide +kernel⟩
theorem cal_X8_seen : CalV yX8_seen cX8_seen 5 (some .int) 4 := ⟨wd1239, wd122, wd1237, wd1238, by decide +kernel, by decide +kernel, by decide +kernel⟩
theorem cal_X8_strengthsOf : CalV yX8_strengthsOf cX8_strengthsOf 8 (some .int) 1 := ⟨wd1251, wd122, wd1250, wd109, by decide +kernel, by decide +kernel, by decide +kernel⟩
theorem cal_X8_strong : CalV yX8_strong cX8_strong 7 (some .int) 2 := ⟨wd1247, wd122, wd1245, wd1246, by decide +kernel, by decide +kernel, by decide +kernel⟩
theorem cal_X8_tell : CalV yX8_tell cX8_tell 9 (some .int) 1 := ⟨wd1255, wd122, wd1253, wd1254, by decide +kernel, by decide +kernel, by decide +kernel⟩
theorem cal_X8_note : CalV yX8_note cX8_note 5 (some .int) 4 := ⟨wd1259, wd122, wd1257, wd1258, by decide +kernel, by decide +kernel, by decide +kernel⟩
theorem cal_X8_mark : CalV yX8_mark cX8_mark 5 (some .int) 4 := ⟨wd1263, wd122, wd1261, wd1262, by decide +kernel, by decide +kernel, by decide +kernel⟩
theorem cal_X8_forget : CalV yX8_forget cX8_forget 5 (some .int) 1 := ⟨wd1267, wd122, wd1265, wd1266, by decide +kernel, by decide +kernel, by decide +kernel⟩
theorem cal_X8_kindsOf : CalV yX8_kindsOf cX8_kindsOf 11 (some .int) 2 := ⟨wd1275, wd122, wd1274, wd110, by decide +kernel, by decide +kernel, by decide +kernel⟩
theorem cal_X8_is : CalV yX8_is cX8_is 2 (some .int) 1 := ⟨wd1271, wd122, wd1269, wd1270, by decide +kernel, by decide +kernel, by decide +kernel⟩
theorem cal_X8_kinds : CalV yX8_kinds cX8_kinds 2 (some .int) 1 := ⟨wd1279, wd122, wd1277, wd1278, by decide +kernel, by decide +kernel, by decide +kernel⟩
theorem cal_X8_partBy : CalV yX8_partBy cX8_partBy 14 (some .int) 4 := ⟨wd1287, wd122, wd1286, wd111, by decide +kernel, by decide +kernel, by decide +kernel⟩
theorem cal_X8_look : CalV yX8_look cX8_look 2 (some .int) 1 := ⟨wd1283, wd122, wd1281, wd1282, by decide +kernel, by decide +kernel, by decide +kernel⟩
theorem cal_X8_ask : CalV yX8_ask cX8_ask 2 (some .int) 1 := ⟨wd1291, wd122, wd1289, wd1290, by decide +kernel, by decide +kernel, by decide +kernel⟩
theorem cal_X8_gets : CalS yX8_gets cX8_gets 5 (some .int) 5 := ⟨wd1298, wd122, wd1297, by decide +kernel, by decide +kernel, by decide +kernel⟩
theorem cal_X8_tries : CalV yX8_tries cX8_tries 13 (some .int) 3 := ⟨wd1295, wd122, wd1293, wd1294, by decide +kernel, by decide +kernel, by decide +kernel⟩
theorem cal_X8_fraction : CalV yX8_fraction cX8_fraction 11 none 2 := ⟨wd1307, wd122, wd1306, wd112, by decide +kernel, by decide +kernel, by decide +kernel⟩
theorem cal_X8_shout : CalV yX8_shout cX8_shout 11 (some .int) 3 := ⟨wd1302, wd122, wd1300, wd1301, by decide +kernel, by decide +kernel, by decide +kernel⟩
theorem cal_X8_centuries : CalV yX8_centuries cX8_centuries 9 (some .int) 2 := ⟨wd1311, wd122, wd1309, wd1310, by decide +kernel, by decide +kernel, by decide +kernel⟩
theorem cal_X8_part : CalV yX8_part cX8_part 2 (some .long) 1 := ⟨wd1322, wd122, wd1320, wd1321, by decide +kernel, by decide +kernel, by decide +kernel⟩
theorem cal_X8_image : CalV yX8_image cX8_image 2 (some .int) 1 := ⟨wd1326, wd122, wd1324, wd1325, by decide +kernel, by decide +kernel, by decide +kernel⟩
theorem cal_X8_from : CalV yX8_from cX8_from 2 (some .int) 1 := ⟨wd1330, wd122, wd1328, wd1329, by decide +kernel, by decide +kernel, by decide +kernel⟩
theorem cal_X8_status : CalV yX8_status cX8_status 2 (some .int) 1 := ⟨wd1334, wd122, wd1332, wd1333, by decide +kernel, by decide +kernel, by decide +kernel⟩
theorem cal_X8_many : CalV yX8_many cX8_many 4 (some .int) 1 := ⟨wd1342, wd122, wd1341, wd113, by decide +kernel, by decide +kernel, by decide +kernel⟩
theorem cal_X8_count : CalV yX8_count cX8_count 2 (some .int) 1 := ⟨wd1338, wd122, wd1336, wd1337, by decide +kernel, by decide +kernel, by decide +kernel⟩
theorem cal_X8_digest : CalV yX8_digest cX8_digest 5 (some .long) 0 := ⟨wd1346, wd122, wd1344, wd1345, by decide +kernel, by decide +kernel, by decide +kernel⟩
theorem cal_J9_min_7cf53 : CalS yJ9_min_7cf53 cJ9_min_7cf53 2 (some .int) 2 := ⟨wd541, wd128, wd540, by decide +kernel, by decide +kernel, by decide +kernel⟩
theorem cal_J9_max_7cf53 : CalS yJ9_max_7cf53 cJ9_max_7cf53 2 (some .int) 2 := ⟨wd553, wd128, wd552, by decide +kernel, by decide +kernel, by decide +kernel⟩
theorem cal_J6_bitCount_0f7a4 : CalS yJ6_bitCount_0f7a4 cJ6_bitCount_0f7a4 1 (some .int) 1 := ⟨wd627, wd129, wd626, by decide +kernel, by decide +kernel, by decide +kernel⟩
