section
-- ===== PART A: goes FIRST, ahead of the names: the tables' words, and 'selects' of the private methods out of them =====
/-- a private method of a class that the tables say can be made, by its rows of tables_1 -/
def lw_okq (q : MethodName × Nat) : Prop := (q.1.cls ≠ "java/lang/invoke/MethodHandle" ∧ q.1.cls ≠ "java/lang/invoke/VarHandle") ∧ Cond.instantiable q.1.cls q.2 ∈ tables_1 ∧ Cond.privateMethod q.1 ∈ tables_1 ∧ Cond.instanceMethod q.1 ∈ tables_1
theorem lw_p0 : lw_okq (⟨"StoneHeld$World", "startAnew", "()V"⟩, 12) := ⟨⟨by decide +kernel, by decide +kernel⟩, List.mem_of_getElem? (i := 25) (by decide +kernel), List.mem_of_getElem? (i := 236) (by decide +kernel), List.mem_of_getElem? (i := 237) (by decide +kernel)⟩
theorem lw_p1 : lw_okq (⟨"StoneHeld$Rows", "drop", "()I"⟩, 3) := ⟨⟨by decide +kernel, by decide +kernel⟩, List.mem_of_getElem? (i := 60) (by decide +kernel), List.mem_of_getElem? (i := 240) (by decide +kernel), List.mem_of_getElem? (i := 241) (by decide +kernel)⟩
theorem lw_p2 : lw_okq (⟨"StoneHeld", "bad", "()I"⟩, 12) := ⟨⟨by decide +kernel, by decide +kernel⟩, List.mem_of_getElem? (i := 17) (by decide +kernel), List.mem_of_getElem? (i := 251) (by decide +kernel), List.mem_of_getElem? (i := 252) (by decide +kernel)⟩
theorem lw_p3 : lw_okq (⟨"StoneHeld", "full", "()I"⟩, 12) := ⟨⟨by decide +kernel, by decide +kernel⟩, List.mem_of_getElem? (i := 17) (by decide +kernel), List.mem_of_getElem? (i := 255) (by decide +kernel), List.mem_of_getElem? (i := 256) (by decide +kernel)⟩
theorem lw_p4 : lw_okq (⟨"StoneHeld$World", "addThing", "(II)I"⟩, 12) := ⟨⟨by decide +kernel, by decide +kernel⟩, List.mem_of_getElem? (i := 25) (by decide +kernel), List.mem_of_getElem? (i := 259) (by decide +kernel), List.mem_of_getElem? (i := 260) (by decide +kernel)⟩
theorem lw_p5 : lw_okq (⟨"StoneHeld$World", "addOne", "(III)I"⟩, 12) := ⟨⟨by decide +kernel, by decide +kernel⟩, List.mem_of_getElem? (i := 25) (by decide +kernel), List.mem_of_getElem? (i := 267) (by decide +kernel), List.mem_of_getElem? (i := 268) (by decide +kernel)⟩
theorem lw_p6 : lw_okq (⟨"StoneHeld$Reader", "append", "(I)I"⟩, 7) := ⟨⟨by decide +kernel, by decide +kernel⟩, List.mem_of_getElem? (i := 131) (by decide +kernel), List.mem_of_getElem? (i := 275) (by decide +kernel), List.mem_of_getElem? (i := 276) (by decide +kernel)⟩
theorem lw_p7 : lw_okq (⟨"StoneHeld$Reader", "readItems", "()I"⟩, 7) := ⟨⟨by decide +kernel, by decide +kernel⟩, List.mem_of_getElem? (i := 131) (by decide +kernel), List.mem_of_getElem? (i := 287) (by decide +kernel), List.mem_of_getElem? (i := 288) (by decide +kernel)⟩
theorem lw_p8 : lw_okq (⟨"StoneHeld$Reader", "nextToken", "()V"⟩, 7) := ⟨⟨by decide +kernel, by decide +kernel⟩, List.mem_of_getElem? (i := 131) (by decide +kernel), List.mem_of_getElem? (i := 292) (by decide +kernel), List.mem_of_getElem? (i := 293) (by decide +kernel)⟩
theorem lw_p9 : lw_okq (⟨"StoneHeld$Reader", "passRun", "(II)V"⟩, 7) := ⟨⟨by decide +kernel, by decide +kernel⟩, List.mem_of_getElem? (i := 131) (by decide +kernel), List.mem_of_getElem? (i := 297) (by decide +kernel), List.mem_of_getElem? (i := 298) (by decide +kernel)⟩
theorem lw_p10 : lw_okq (⟨"StoneHeld$Reader", "takeItem", "(Z)Z"⟩, 7) := ⟨⟨by decide +kernel, by decide +kernel⟩, List.mem_of_getElem? (i := 131) (by decide +kernel), List.mem_of_getElem? (i := 301) (by decide +kernel), List.mem_of_getElem? (i := 302) (by decide +kernel)⟩
theorem lw_p11 : lw_okq (⟨"StoneHeld$Reader", "isWord", "(Ljava/lang/String;)Z"⟩, 7) := ⟨⟨by decide +kernel, by decide +kernel⟩, List.mem_of_getElem? (i := 131) (by decide +kernel), List.mem_of_getElem? (i := 306) (by decide +kernel), List.mem_of_getElem? (i := 307) (by decide +kernel)⟩
theorem lw_p12 : lw_okq (⟨"StoneHeld$Reader", "takeThing", "()Z"⟩, 7) := ⟨⟨by decide +kernel, by decide +kernel⟩, List.mem_of_getElem? (i := 131) (by decide +kernel), List.mem_of_getElem? (i := 359) (by decide +kernel), List.mem_of_getElem? (i := 360) (by decide +kernel)⟩
theorem lw_p13 : lw_okq (⟨"StoneHeld$Reader", "takeNumber", "(II)Z"⟩, 7) := ⟨⟨by decide +kernel, by decide +kernel⟩, List.mem_of_getElem? (i := 131) (by decide +kernel), List.mem_of_getElem? (i := 363) (by decide +kernel), List.mem_of_getElem? (i := 364) (by decide +kernel)⟩
theorem lw_p14 : lw_okq (⟨"StoneHeld$Reader", "takeOne", "()Z"⟩, 7) := ⟨⟨by decide +kernel, by decide +kernel⟩, List.mem_of_getElem? (i := 131) (by decide +kernel), List.mem_of_getElem? (i := 369) (by decide +kernel), List.mem_of_getElem? (i := 370) (by decide +kernel)⟩
theorem lw_p15 : lw_okq (⟨"StoneHeld$Reader", "takeOwn", "()Z"⟩, 7) := ⟨⟨by decide +kernel, by decide +kernel⟩, List.mem_of_getElem? (i := 131) (by decide +kernel), List.mem_of_getElem? (i := 375) (by decide +kernel), List.mem_of_getElem? (i := 376) (by decide +kernel)⟩
def lw_privs_1 : List (MethodName × Nat) := [(⟨"StoneHeld$World", "startAnew", "()V"⟩, 12), (⟨"StoneHeld$Rows", "drop", "()I"⟩, 3), (⟨"StoneHeld", "bad", "()I"⟩, 12), (⟨"StoneHeld", "full", "()I"⟩, 12), (⟨"StoneHeld$World", "addThing", "(II)I"⟩, 12), (⟨"StoneHeld$World", "addOne", "(III)I"⟩, 12), (⟨"StoneHeld$Reader", "append", "(I)I"⟩, 7), (⟨"StoneHeld$Reader", "readItems", "()I"⟩, 7), (⟨"StoneHeld$Reader", "nextToken", "()V"⟩, 7), (⟨"StoneHeld$Reader", "passRun", "(II)V"⟩, 7), (⟨"StoneHeld$Reader", "takeItem", "(Z)Z"⟩, 7), (⟨"StoneHeld$Reader", "isWord", "(Ljava/lang/String;)Z"⟩, 7), (⟨"StoneHeld$Reader", "takeThing", "()Z"⟩, 7), (⟨"StoneHeld$Reader", "takeNumber", "(II)Z"⟩, 7), (⟨"StoneHeld$Reader", "takeOne", "()Z"⟩, 7), (⟨"StoneHeld$Reader", "takeOwn", "()Z"⟩, 7)]
theorem lw_r1 : ∀ q ∈ lw_privs_1, lw_okq q := List.forall_mem_cons.mpr ⟨lw_p0, List.forall_mem_cons.mpr ⟨lw_p1, List.forall_mem_cons.mpr ⟨lw_p2, List.forall_mem_cons.mpr ⟨lw_p3, List.forall_mem_cons.mpr ⟨lw_p4, List.forall_mem_cons.mpr ⟨lw_p5, List.forall_mem_cons.mpr ⟨lw_p6, List.forall_mem_cons.mpr ⟨lw_p7, List.forall_mem_cons.mpr ⟨lw_p8, List.forall_mem_cons.mpr ⟨lw_p9, List.forall_mem_cons.mpr ⟨lw_p10, List.forall_mem_cons.mpr ⟨lw_p11, List.forall_mem_cons.mpr ⟨lw_p12, List.forall_mem_cons.mpr ⟨lw_p13, List.forall_mem_cons.mpr ⟨lw_p14, List.forall_mem_cons.mpr ⟨lw_p15, fun _ h => absurd h List.not_mem_nil⟩⟩⟩⟩⟩⟩⟩⟩⟩⟩⟩⟩⟩⟩⟩⟩
theorem lw_p16 : lw_okq (⟨"StoneHeld$World", "mayGet", "(I)Z"⟩, 12) := ⟨⟨by decide +kernel, by decide +kernel⟩, List.mem_of_getElem? (i := 25) (by decide +kernel), List.mem_of_getElem? (i := 379) (by decide +kernel), List.mem_of_getElem? (i := 380) (by decide +kernel)⟩
theorem lw_p17 : lw_okq (⟨"StoneHeld$Moment", "isHere", "(I)Z"⟩, 4) := ⟨⟨by decide +kernel, by decide +kernel⟩, List.mem_of_getElem? (i := 31) (by decide +kernel), List.mem_of_getElem? (i := 383) (by decide +kernel), List.mem_of_getElem? (i := 384) (by decide +kernel)⟩
theorem lw_p18 : lw_okq (⟨"StoneHeld$World", "ownerOf", "(I)I"⟩, 12) := ⟨⟨by decide +kernel, by decide +kernel⟩, List.mem_of_getElem? (i := 25) (by decide +kernel), List.mem_of_getElem? (i := 387) (by decide +kernel), List.mem_of_getElem? (i := 388) (by decide +kernel)⟩
theorem lw_p19 : lw_okq (⟨"StoneHeld$World", "ownerIn", "(LStoneHeld$Moment;I)I"⟩, 12) := ⟨⟨by decide +kernel, by decide +kernel⟩, List.mem_of_getElem? (i := 25) (by decide +kernel), List.mem_of_getElem? (i := 391) (by decide +kernel), List.mem_of_getElem? (i := 392) (by decide +kernel)⟩
theorem lw_p20 : lw_okq (⟨"StoneHeld$Reader", "takeLeave", "()Z"⟩, 7) := ⟨⟨by decide +kernel, by decide +kernel⟩, List.mem_of_getElem? (i := 131) (by decide +kernel), List.mem_of_getElem? (i := 396) (by decide +kernel), List.mem_of_getElem? (i := 397) (by decide +kernel)⟩
theorem lw_p21 : lw_okq (⟨"StoneHeld$Reader", "takeYears", "()Z"⟩, 7) := ⟨⟨by decide +kernel, by decide +kernel⟩, List.mem_of_getElem? (i := 131) (by decide +kernel), List.mem_of_getElem? (i := 401) (by decide +kernel), List.mem_of_getElem? (i := 402) (by decide +kernel)⟩
theorem lw_p22 : lw_okq (⟨"StoneHeld$World", "passYears", "(LStoneHeld$Moment;II)V"⟩, 12) := ⟨⟨by decide +kernel, by decide +kernel⟩, List.mem_of_getElem? (i := 25) (by decide +kernel), List.mem_of_getElem? (i := 405) (by decide +kernel), List.mem_of_getElem? (i := 406) (by decide +kernel)⟩
theorem lw_p23 : lw_okq (⟨"StoneHeld$World", "isHeldIn", "(LStoneHeld$Moment;I)Z"⟩, 12) := ⟨⟨by decide +kernel, by decide +kernel⟩, List.mem_of_getElem? (i := 25) (by decide +kernel), List.mem_of_getElem? (i := 409) (by decide +kernel), List.mem_of_getElem? (i := 410) (by decide +kernel)⟩
theorem lw_p24 : lw_okq (⟨"StoneHeld$World", "hasThing", "(I)Z"⟩, 12) := ⟨⟨by decide +kernel, by decide +kernel⟩, List.mem_of_getElem? (i := 25) (by decide +kernel), List.mem_of_getElem? (i := 413) (by decide +kernel), List.mem_of_getElem? (i := 414) (by decide +kernel)⟩
theorem lw_p25 : lw_okq (⟨"StoneHeld$Moment", "growOlder", "(I)V"⟩, 4) := ⟨⟨by decide +kernel, by decide +kernel⟩, List.mem_of_getElem? (i := 31) (by decide +kernel), List.mem_of_getElem? (i := 441) (by decide +kernel), List.mem_of_getElem? (i := 442) (by decide +kernel)⟩
theorem lw_p26 : lw_okq (⟨"StoneHeld$Moment", "lose", "(I)V"⟩, 4) := ⟨⟨by decide +kernel, by decide +kernel⟩, List.mem_of_getElem? (i := 31) (by decide +kernel), List.mem_of_getElem? (i := 446) (by decide +kernel), List.mem_of_getElem? (i := 447) (by decide +kernel)⟩
theorem lw_p27 : lw_okq (⟨"StoneHeld$Reader", "takeStop", "()Z"⟩, 7) := ⟨⟨by decide +kernel, by decide +kernel⟩, List.mem_of_getElem? (i := 131) (by decide +kernel), List.mem_of_getElem? (i := 450) (by decide +kernel), List.mem_of_getElem? (i := 451) (by decide +kernel)⟩
theorem lw_p28 : lw_okq (⟨"StoneHeld$World", "copyFrom", "(LStoneHeld$World;)V"⟩, 12) := ⟨⟨by decide +kernel, by decide +kernel⟩, List.mem_of_getElem? (i := 25) (by decide +kernel), List.mem_of_getElem? (i := 454) (by decide +kernel), List.mem_of_getElem? (i := 455) (by decide +kernel)⟩
theorem lw_p29 : lw_okq (⟨"StoneHeld$Moment", "copyFrom", "(LStoneHeld$Moment;)V"⟩, 4) := ⟨⟨by decide +kernel, by decide +kernel⟩, List.mem_of_getElem? (i := 31) (by decide +kernel), List.mem_of_getElem? (i := 458) (by decide +kernel), List.mem_of_getElem? (i := 459) (by decide +kernel)⟩
theorem lw_p30 : lw_okq (⟨"StoneHeld$Rows", "copyFrom", "(LStoneHeld$Rows;)V"⟩, 3) := ⟨⟨by decide +kernel, by decide +kernel⟩, List.mem_of_getElem? (i := 60) (by decide +kernel), List.mem_of_getElem? (i := 462) (by decide +kernel), List.mem_of_getElem? (i := 463) (by decide +kernel)⟩
theorem lw_p31 : lw_okq (⟨"StoneHeld$World", "hasOne", "(I)Z"⟩, 12) := ⟨⟨by decide +kernel, by decide +kernel⟩, List.mem_of_getElem? (i := 25) (by decide +kernel), List.mem_of_getElem? (i := 471) (by decide +kernel), List.mem_of_getElem? (i := 472) (by decide +kernel)⟩
def lw_privs_2 : List (MethodName × Nat) := [(⟨"StoneHeld$World", "mayGet", "(I)Z"⟩, 12), (⟨"StoneHeld$Moment", "isHere", "(I)Z"⟩, 4), (⟨"StoneHeld$World", "ownerOf", "(I)I"⟩, 12), (⟨"StoneHeld$World", "ownerIn", "(LStoneHeld$Moment;I)I"⟩, 12), (⟨"StoneHeld$Reader", "takeLeave", "()Z"⟩, 7), (⟨"StoneHeld$Reader", "takeYears", "()Z"⟩, 7), (⟨"StoneHeld$World", "passYears", "(LStoneHeld$Moment;II)V"⟩, 12), (⟨"StoneHeld$World", "isHeldIn", "(LStoneHeld$Moment;I)Z"⟩, 12), (⟨"StoneHeld$World", "hasThing", "(I)Z"⟩, 12), (⟨"StoneHeld$Moment", "growOlder", "(I)V"⟩, 4), (⟨"StoneHeld$Moment", "lose", "(I)V"⟩, 4), (⟨"StoneHeld$Reader", "takeStop", "()Z"⟩, 7), (⟨"StoneHeld$World", "copyFrom", "(LStoneHeld$World;)V"⟩, 12), (⟨"StoneHeld$Moment", "copyFrom", "(LStoneHeld$Moment;)V"⟩, 4), (⟨"StoneHeld$Rows", "copyFrom", "(LStoneHeld$Rows;)V"⟩, 3), (⟨"StoneHeld$World", "hasOne", "(I)Z"⟩, 12)]
theorem lw_r2 : ∀ q ∈ lw_privs_2, lw_okq q := List.forall_mem_cons.mpr ⟨lw_p16, List.forall_mem_cons.mpr ⟨lw_p17, List.forall_mem_cons.mpr ⟨lw_p18, List.forall_mem_cons.mpr ⟨lw_p19, List.forall_mem_cons.mpr ⟨lw_p20, List.forall_mem_cons.mpr ⟨lw_p21, List.forall_mem_cons.mpr ⟨lw_p22, List.forall_mem_cons.mpr ⟨lw_p23, List.forall_mem_cons.mpr ⟨lw_p24, List.forall_mem_cons.mpr ⟨lw_p25, List.forall_mem_cons.mpr ⟨lw_p26, List.forall_mem_cons.mpr ⟨lw_p27, List.forall_mem_cons.mpr ⟨lw_p28, List.forall_mem_cons.mpr ⟨lw_p29, List.forall_mem_cons.mpr ⟨lw_p30, List.forall_mem_cons.mpr ⟨lw_p31, fun _ h => absurd h List.not_mem_nil⟩⟩⟩⟩⟩⟩⟩⟩⟩⟩⟩⟩⟩⟩⟩⟩
theorem lw_p32 : lw_okq (⟨"StoneHeld", "no", "()I"⟩, 12) := ⟨⟨by decide +kernel, by decide +kernel⟩, List.mem_of_getElem? (i := 17) (by decide +kernel), List.mem_of_getElem? (i := 478) (by decide +kernel), List.mem_of_getElem? (i := 479) (by decide +kernel)⟩
theorem lw_p33 : lw_okq (⟨"StoneHeld$World", "remember", "()V"⟩, 12) := ⟨⟨by decide +kernel, by decide +kernel⟩, List.mem_of_getElem? (i := 25) (by decide +kernel), List.mem_of_getElem? (i := 482) (by decide +kernel), List.mem_of_getElem? (i := 483) (by decide +kernel)⟩
theorem lw_p34 : lw_okq (⟨"StoneHeld$World", "holdsFor", "(III)I"⟩, 12) := ⟨⟨by decide +kernel, by decide +kernel⟩, List.mem_of_getElem? (i := 25) (by decide +kernel), List.mem_of_getElem? (i := 486) (by decide +kernel), List.mem_of_getElem? (i := 487) (by decide +kernel)⟩
theorem lw_p35 : lw_okq (⟨"StoneHeld$World", "weightOf", "(II)I"⟩, 12) := ⟨⟨by decide +kernel, by decide +kernel⟩, List.mem_of_getElem? (i := 25) (by decide +kernel), List.mem_of_getElem? (i := 490) (by decide +kernel), List.mem_of_getElem? (i := 491) (by decide +kernel)⟩
theorem lw_p36 : lw_okq (⟨"StoneHeld$World", "liftOf", "(II)I"⟩, 12) := ⟨⟨by decide +kernel, by decide +kernel⟩, List.mem_of_getElem? (i := 25) (by decide +kernel), List.mem_of_getElem? (i := 494) (by decide +kernel), List.mem_of_getElem? (i := 495) (by decide +kernel)⟩
theorem lw_p37 : lw_okq (⟨"StoneHeld$Moment", "countHere", "()I"⟩, 4) := ⟨⟨by decide +kernel, by decide +kernel⟩, List.mem_of_getElem? (i := 31) (by decide +kernel), List.mem_of_getElem? (i := 508) (by decide +kernel), List.mem_of_getElem? (i := 509) (by decide +kernel)⟩
theorem lw_p38 : lw_okq (⟨"StoneHeld$World", "bringBack", "()V"⟩, 12) := ⟨⟨by decide +kernel, by decide +kernel⟩, List.mem_of_getElem? (i := 25) (by decide +kernel), List.mem_of_getElem? (i := 522) (by decide +kernel), List.mem_of_getElem? (i := 523) (by decide +kernel)⟩
theorem lw_p39 : lw_okq (⟨"StoneHeld$World", "factOfOne", "(II)I"⟩, 12) := ⟨⟨by decide +kernel, by decide +kernel⟩, List.mem_of_getElem? (i := 25) (by decide +kernel), List.mem_of_getElem? (i := 530) (by decide +kernel), List.mem_of_getElem? (i := 531) (by decide +kernel)⟩
theorem lw_p40 : lw_okq (⟨"StoneHeld$Matching", "fill", "(LStoneHeld$World;I)V"⟩, 3) := ⟨⟨by decide +kernel, by decide +kernel⟩, List.mem_of_getElem? (i := 164) (by decide +kernel), List.mem_of_getElem? (i := 571) (by decide +kernel), List.mem_of_getElem? (i := 572) (by decide +kernel)⟩
theorem lw_p41 : lw_okq (⟨"StoneHeld$World", "thingsHolding", "(II)I"⟩, 12) := ⟨⟨by decide +kernel, by decide +kernel⟩, List.mem_of_getElem? (i := 25) (by decide +kernel), List.mem_of_getElem? (i := 575) (by decide +kernel), List.mem_of_getElem? (i := 576) (by decide +kernel)⟩
theorem lw_p42 : lw_okq (⟨"StoneHeld$Matching", "best", "(II)I"⟩, 3) := ⟨⟨by decide +kernel, by decide +kernel⟩, List.mem_of_getElem? (i := 164) (by decide +kernel), List.mem_of_getElem? (i := 580) (by decide +kernel), List.mem_of_getElem? (i := 581) (by decide +kernel)⟩
theorem lw_p43 : lw_okq (⟨"StoneHeld$Matching", "most", "(II)I"⟩, 3) := ⟨⟨by decide +kernel, by decide +kernel⟩, List.mem_of_getElem? (i := 164) (by decide +kernel), List.mem_of_getElem? (i := 584) (by decide +kernel), List.mem_of_getElem? (i := 585) (by decide +kernel)⟩
theorem lw_p44 : lw_okq (⟨"StoneHeld$Matching", "firstThingOf", "(II)I"⟩, 3) := ⟨⟨by decide +kernel, by decide +kernel⟩, List.mem_of_getElem? (i := 164) (by decide +kernel), List.mem_of_getElem? (i := 589) (by decide +kernel), List.mem_of_getElem? (i := 590) (by decide +kernel)⟩
theorem lw_p45 : lw_okq (⟨"StoneHeld$Matching", "firstThing", "(II)I"⟩, 3) := ⟨⟨by decide +kernel, by decide +kernel⟩, List.mem_of_getElem? (i := 164) (by decide +kernel), List.mem_of_getElem? (i := 593) (by decide +kernel), List.mem_of_getElem? (i := 594) (by decide +kernel)⟩
theorem lw_p46 : lw_okq (⟨"StoneHeld$World", "toldWeight", "(I)I"⟩, 12) := ⟨⟨by decide +kernel, by decide +kernel⟩, List.mem_of_getElem? (i := 25) (by decide +kernel), List.mem_of_getElem? (i := 601) (by decide +kernel), List.mem_of_getElem? (i := 602) (by decide +kernel)⟩
theorem lw_p47 : lw_okq (⟨"StoneHeld$World", "liftByTwo", "(III)Z"⟩, 12) := ⟨⟨by decide +kernel, by decide +kernel⟩, List.mem_of_getElem? (i := 25) (by decide +kernel), List.mem_of_getElem? (i := 610) (by decide +kernel), List.mem_of_getElem? (i := 611) (by decide +kernel)⟩
def lw_privs_3 : List (MethodName × Nat) := [(⟨"StoneHeld", "no", "()I"⟩, 12), (⟨"StoneHeld$World", "remember", "()V"⟩, 12), (⟨"StoneHeld$World", "holdsFor", "(III)I"⟩, 12), (⟨"StoneHeld$World", "weightOf", "(II)I"⟩, 12), (⟨"StoneHeld$World", "liftOf", "(II)I"⟩, 12), (⟨"StoneHeld$Moment", "countHere", "()I"⟩, 4), (⟨"StoneHeld$World", "bringBack", "()V"⟩, 12), (⟨"StoneHeld$World", "factOfOne", "(II)I"⟩, 12), (⟨"StoneHeld$Matching", "fill", "(LStoneHeld$World;I)V"⟩, 3), (⟨"StoneHeld$World", "thingsHolding", "(II)I"⟩, 12), (⟨"StoneHeld$Matching", "best", "(II)I"⟩, 3), (⟨"StoneHeld$Matching", "most", "(II)I"⟩, 3), (⟨"StoneHeld$Matching", "firstThingOf", "(II)I"⟩, 3), (⟨"StoneHeld$Matching", "firstThing", "(II)I"⟩, 3), (⟨"StoneHeld$World", "toldWeight", "(I)I"⟩, 12), (⟨"StoneHeld$World", "liftByTwo", "(III)Z"⟩, 12)]
theorem lw_r3 : ∀ q ∈ lw_privs_3, lw_okq q := List.forall_mem_cons.mpr ⟨lw_p32, List.forall_mem_cons.mpr ⟨lw_p33, List.forall_mem_cons.mpr ⟨lw_p34, List.forall_mem_cons.mpr ⟨lw_p35, List.forall_mem_cons.mpr ⟨lw_p36, List.forall_mem_cons.mpr ⟨lw_p37, List.forall_mem_cons.mpr ⟨lw_p38, List.forall_mem_cons.mpr ⟨lw_p39, List.forall_mem_cons.mpr ⟨lw_p40, List.forall_mem_cons.mpr ⟨lw_p41, List.forall_mem_cons.mpr ⟨lw_p42, List.forall_mem_cons.mpr ⟨lw_p43, List.forall_mem_cons.mpr ⟨lw_p44, List.forall_mem_cons.mpr ⟨lw_p45, List.forall_mem_cons.mpr ⟨lw_p46, List.forall_mem_cons.mpr ⟨lw_p47, fun _ h => absurd h List.not_mem_nil⟩⟩⟩⟩⟩⟩⟩⟩⟩⟩⟩⟩⟩⟩⟩⟩
theorem lw_p48 : lw_okq (⟨"StoneHeld$Rows", "isFull", "()Z"⟩, 3) := ⟨⟨by decide +kernel, by decide +kernel⟩, List.mem_of_getElem? (i := 60) (by decide +kernel), List.mem_of_getElem? (i := 618) (by decide +kernel), List.mem_of_getElem? (i := 619) (by decide +kernel)⟩
theorem lw_p49 : lw_okq (⟨"StoneHeld$Rows", "add", "(IIII)I"⟩, 3) := ⟨⟨by decide +kernel, by decide +kernel⟩, List.mem_of_getElem? (i := 60) (by decide +kernel), List.mem_of_getElem? (i := 622) (by decide +kernel), List.mem_of_getElem? (i := 623) (by decide +kernel)⟩
theorem lw_p50 : lw_okq (⟨"StoneHeld$World", "fittingStrengths", "(I)I"⟩, 12) := ⟨⟨by decide +kernel, by decide +kernel⟩, List.mem_of_getElem? (i := 25) (by decide +kernel), List.mem_of_getElem? (i := 630) (by decide +kernel), List.mem_of_getElem? (i := 631) (by decide +kernel)⟩
theorem lw_p51 : lw_okq (⟨"StoneHeld$World", "fitsSeen", "(II)Z"⟩, 12) := ⟨⟨by decide +kernel, by decide +kernel⟩, List.mem_of_getElem? (i := 25) (by decide +kernel), List.mem_of_getElem? (i := 634) (by decide +kernel), List.mem_of_getElem? (i := 635) (by decide +kernel)⟩
theorem lw_p52 : lw_okq (⟨"StoneHeld$Rows", "cell", "(II)I"⟩, 3) := ⟨⟨by decide +kernel, by decide +kernel⟩, List.mem_of_getElem? (i := 60) (by decide +kernel), List.mem_of_getElem? (i := 638) (by decide +kernel), List.mem_of_getElem? (i := 639) (by decide +kernel)⟩
theorem lw_p53 : lw_okq (⟨"StoneHeld$Answers", "fillByStrength", "(III)V"⟩, 2) := ⟨⟨by decide +kernel, by decide +kernel⟩, List.mem_of_getElem? (i := 180) (by decide +kernel), List.mem_of_getElem? (i := 653) (by decide +kernel), List.mem_of_getElem? (i := 654) (by decide +kernel)⟩
theorem lw_p54 : lw_okq (⟨"StoneHeld$Answers", "put", "(I)V"⟩, 2) := ⟨⟨by decide +kernel, by decide +kernel⟩, List.mem_of_getElem? (i := 180) (by decide +kernel), List.mem_of_getElem? (i := 658) (by decide +kernel), List.mem_of_getElem? (i := 659) (by decide +kernel)⟩
theorem lw_p55 : lw_okq (⟨"StoneHeld$Answers", "greaterPart", "(I)I"⟩, 2) := ⟨⟨by decide +kernel, by decide +kernel⟩, List.mem_of_getElem? (i := 180) (by decide +kernel), List.mem_of_getElem? (i := 662) (by decide +kernel), List.mem_of_getElem? (i := 663) (by decide +kernel)⟩
theorem lw_p56 : lw_okq (⟨"StoneHeld$World", "fittingThingKinds", "(I)I"⟩, 12) := ⟨⟨by decide +kernel, by decide +kernel⟩, List.mem_of_getElem? (i := 25) (by decide +kernel), List.mem_of_getElem? (i := 684) (by decide +kernel), List.mem_of_getElem? (i := 685) (by decide +kernel)⟩
theorem lw_p57 : lw_okq (⟨"StoneHeld$World", "fitsNotes", "(II)Z"⟩, 12) := ⟨⟨by decide +kernel, by decide +kernel⟩, List.mem_of_getElem? (i := 25) (by decide +kernel), List.mem_of_getElem? (i := 688) (by decide +kernel), List.mem_of_getElem? (i := 689) (by decide +kernel)⟩
theorem lw_p58 : lw_okq (⟨"StoneHeld$Answers", "fillByThingKind", "(III)V"⟩, 2) := ⟨⟨by decide +kernel, by decide +kernel⟩, List.mem_of_getElem? (i := 180) (by decide +kernel), List.mem_of_getElem? (i := 696) (by decide +kernel), List.mem_of_getElem? (i := 697) (by decide +kernel)⟩
theorem lw_p59 : lw_okq (⟨"StoneHeld$Answers", "mostAlike", "()I"⟩, 2) := ⟨⟨by decide +kernel, by decide +kernel⟩, List.mem_of_getElem? (i := 180) (by decide +kernel), List.mem_of_getElem? (i := 701) (by decide +kernel), List.mem_of_getElem? (i := 702) (by decide +kernel)⟩
theorem lw_p60 : lw_okq (⟨"StoneHeld$World", "fittingOneKinds", "(I)I"⟩, 12) := ⟨⟨by decide +kernel, by decide +kernel⟩, List.mem_of_getElem? (i := 25) (by decide +kernel), List.mem_of_getElem? (i := 709) (by decide +kernel), List.mem_of_getElem? (i := 710) (by decide +kernel)⟩
theorem lw_p61 : lw_okq (⟨"StoneHeld$World", "fitsMarks", "(II)Z"⟩, 12) := ⟨⟨by decide +kernel, by decide +kernel⟩, List.mem_of_getElem? (i := 25) (by decide +kernel), List.mem_of_getElem? (i := 713) (by decide +kernel), List.mem_of_getElem? (i := 714) (by decide +kernel)⟩
theorem lw_p62 : lw_okq (⟨"StoneHeld$Answers", "fillByOneKind", "(III)V"⟩, 2) := ⟨⟨by decide +kernel, by decide +kernel⟩, List.mem_of_getElem? (i := 180) (by decide +kernel), List.mem_of_getElem? (i := 721) (by decide +kernel), List.mem_of_getElem? (i := 722) (by decide +kernel)⟩
theorem lw_p63 : lw_okq (⟨"StoneHeld$World", "tenthsHeld", "(III)I"⟩, 12) := ⟨⟨by decide +kernel, by decide +kernel⟩, List.mem_of_getElem? (i := 25) (by decide +kernel), List.mem_of_getElem? (i := 739) (by decide +kernel), List.mem_of_getElem? (i := 740) (by decide +kernel)⟩
def lw_privs_4 : List (MethodName × Nat) := [(⟨"StoneHeld$Rows", "isFull", "()Z"⟩, 3), (⟨"StoneHeld$Rows", "add", "(IIII)I"⟩, 3), (⟨"StoneHeld$World", "fittingStrengths", "(I)I"⟩, 12), (⟨"StoneHeld$World", "fitsSeen", "(II)Z"⟩, 12), (⟨"StoneHeld$Rows", "cell", "(II)I"⟩, 3), (⟨"StoneHeld$Answers", "fillByStrength", "(III)V"⟩, 2), (⟨"StoneHeld$Answers", "put", "(I)V"⟩, 2), (⟨"StoneHeld$Answers", "greaterPart", "(I)I"⟩, 2), (⟨"StoneHeld$World", "fittingThingKinds", "(I)I"⟩, 12), (⟨"StoneHeld$World", "fitsNotes", "(II)Z"⟩, 12), (⟨"StoneHeld$Answers", "fillByThingKind", "(III)V"⟩, 2), (⟨"StoneHeld$Answers", "mostAlike", "()I"⟩, 2), (⟨"StoneHeld$World", "fittingOneKinds", "(I)I"⟩, 12), (⟨"StoneHeld$World", "fitsMarks", "(II)Z"⟩, 12), (⟨"StoneHeld$Answers", "fillByOneKind", "(III)V"⟩, 2), (⟨"StoneHeld$World", "tenthsHeld", "(III)I"⟩, 12)]
theorem lw_r4 : ∀ q ∈ lw_privs_4, lw_okq q := List.forall_mem_cons.mpr ⟨lw_p48, List.forall_mem_cons.mpr ⟨lw_p49, List.forall_mem_cons.mpr ⟨lw_p50, List.forall_mem_cons.mpr ⟨lw_p51, List.forall_mem_cons.mpr ⟨lw_p52, List.forall_mem_cons.mpr ⟨lw_p53, List.forall_mem_cons.mpr ⟨lw_p54, List.forall_mem_cons.mpr ⟨lw_p55, List.forall_mem_cons.mpr ⟨lw_p56, List.forall_mem_cons.mpr ⟨lw_p57, List.forall_mem_cons.mpr ⟨lw_p58, List.forall_mem_cons.mpr ⟨lw_p59, List.forall_mem_cons.mpr ⟨lw_p60, List.forall_mem_cons.mpr ⟨lw_p61, List.forall_mem_cons.mpr ⟨lw_p62, List.forall_mem_cons.mpr ⟨lw_p63, fun _ h => absurd h List.not_mem_nil⟩⟩⟩⟩⟩⟩⟩⟩⟩⟩⟩⟩⟩⟩⟩⟩
theorem lw_p64 : lw_okq (⟨"StoneHeld", "setFraction", "(JJ)V"⟩, 12) := ⟨⟨by decide +kernel, by decide +kernel⟩, List.mem_of_getElem? (i := 17) (by decide +kernel), List.mem_of_getElem? (i := 744) (by decide +kernel), List.mem_of_getElem? (i := 745) (by decide +kernel)⟩
theorem lw_p65 : lw_okq (⟨"StoneHeld$World", "giveIfFree", "(LStoneHeld$Moment;II)V"⟩, 12) := ⟨⟨by decide +kernel, by decide +kernel⟩, List.mem_of_getElem? (i := 25) (by decide +kernel), List.mem_of_getElem? (i := 762) (by decide +kernel), List.mem_of_getElem? (i := 763) (by decide +kernel)⟩
theorem lw_p66 : lw_okq (⟨"StoneHeld", "howMany", "(I)I"⟩, 12) := ⟨⟨by decide +kernel, by decide +kernel⟩, List.mem_of_getElem? (i := 17) (by decide +kernel), List.mem_of_getElem? (i := 787) (by decide +kernel), List.mem_of_getElem? (i := 788) (by decide +kernel)⟩
theorem lw_p67 : lw_okq (⟨"StoneHeld$World", "countOwned", "()I"⟩, 12) := ⟨⟨by decide +kernel, by decide +kernel⟩, List.mem_of_getElem? (i := 25) (by decide +kernel), List.mem_of_getElem? (i := 791) (by decide +kernel), List.mem_of_getElem? (i := 792) (by decide +kernel)⟩
theorem lw_p68 : lw_okq (⟨"StoneHeld$World", "mixInto", "(J)J"⟩, 12) := ⟨⟨by decide +kernel, by decide +kernel⟩, List.mem_of_getElem? (i := 25) (by decide +kernel), List.mem_of_getElem? (i := 801) (by decide +kernel), List.mem_of_getElem? (i := 802) (by decide +kernel)⟩
theorem lw_p69 : lw_okq (⟨"StoneHeld$Rows", "mixInto", "(J)J"⟩, 3) := ⟨⟨by decide +kernel, by decide +kernel⟩, List.mem_of_getElem? (i := 60) (by decide +kernel), List.mem_of_getElem? (i := 807) (by decide +kernel), List.mem_of_getElem? (i := 808) (by decide +kernel)⟩
theorem lw_p70 : lw_okq (⟨"StoneHeldModel", "begin", "(I)V"⟩, 17) := ⟨⟨by decide +kernel, by decide +kernel⟩, List.mem_of_getElem? (i := 812) (by decide +kernel), List.mem_of_getElem? (i := 818) (by decide +kernel), List.mem_of_getElem? (i := 819) (by decide +kernel)⟩
theorem lw_p71 : lw_okq (⟨"StoneHeldModel", "bad", "()I"⟩, 17) := ⟨⟨by decide +kernel, by decide +kernel⟩, List.mem_of_getElem? (i := 812) (by decide +kernel), List.mem_of_getElem? (i := 886) (by decide +kernel), List.mem_of_getElem? (i := 887) (by decide +kernel)⟩
theorem lw_p72 : lw_okq (⟨"StoneHeldModel", "full", "()I"⟩, 17) := ⟨⟨by decide +kernel, by decide +kernel⟩, List.mem_of_getElem? (i := 812) (by decide +kernel), List.mem_of_getElem? (i := 890) (by decide +kernel), List.mem_of_getElem? (i := 891) (by decide +kernel)⟩
theorem lw_p73 : lw_okq (⟨"StoneHeldModel", "add", "(III)I"⟩, 17) := ⟨⟨by decide +kernel, by decide +kernel⟩, List.mem_of_getElem? (i := 812) (by decide +kernel), List.mem_of_getElem? (i := 894) (by decide +kernel), List.mem_of_getElem? (i := 895) (by decide +kernel)⟩
theorem lw_p74 : lw_okq (⟨"StoneHeldModel", "join", "(IIII)I"⟩, 17) := ⟨⟨by decide +kernel, by decide +kernel⟩, List.mem_of_getElem? (i := 812) (by decide +kernel), List.mem_of_getElem? (i := 902) (by decide +kernel), List.mem_of_getElem? (i := 903) (by decide +kernel)⟩
theorem lw_p75 : lw_okq (⟨"StoneHeldModel", "step", "()V"⟩, 17) := ⟨⟨by decide +kernel, by decide +kernel⟩, List.mem_of_getElem? (i := 812) (by decide +kernel), List.mem_of_getElem? (i := 918) (by decide +kernel), List.mem_of_getElem? (i := 919) (by decide +kernel)⟩
theorem lw_p76 : lw_okq (⟨"StoneHeldModel", "here", "()I"⟩, 17) := ⟨⟨by decide +kernel, by decide +kernel⟩, List.mem_of_getElem? (i := 812) (by decide +kernel), List.mem_of_getElem? (i := 922) (by decide +kernel), List.mem_of_getElem? (i := 923) (by decide +kernel)⟩
theorem lw_p77 : lw_okq (⟨"StoneHeldModel", "wordOf", "()I"⟩, 17) := ⟨⟨by decide +kernel, by decide +kernel⟩, List.mem_of_getElem? (i := 812) (by decide +kernel), List.mem_of_getElem? (i := 926) (by decide +kernel), List.mem_of_getElem? (i := 927) (by decide +kernel)⟩
theorem lw_p78 : lw_okq (⟨"StoneHeldModel", "spells", "(IIIIIII)Z"⟩, 17) := ⟨⟨by decide +kernel, by decide +kernel⟩, List.mem_of_getElem? (i := 812) (by decide +kernel), List.mem_of_getElem? (i := 930) (by decide +kernel), List.mem_of_getElem? (i := 931) (by decide +kernel)⟩
theorem lw_p79 : lw_okq (⟨"StoneHeldModel", "may", "(I)Z"⟩, 17) := ⟨⟨by decide +kernel, by decide +kernel⟩, List.mem_of_getElem? (i := 812) (by decide +kernel), List.mem_of_getElem? (i := 934) (by decide +kernel), List.mem_of_getElem? (i := 935) (by decide +kernel)⟩
def lw_privs_5 : List (MethodName × Nat) := [(⟨"StoneHeld", "setFraction", "(JJ)V"⟩, 12), (⟨"StoneHeld$World", "giveIfFree", "(LStoneHeld$Moment;II)V"⟩, 12), (⟨"StoneHeld", "howMany", "(I)I"⟩, 12), (⟨"StoneHeld$World", "countOwned", "()I"⟩, 12), (⟨"StoneHeld$World", "mixInto", "(J)J"⟩, 12), (⟨"StoneHeld$Rows", "mixInto", "(J)J"⟩, 3), (⟨"StoneHeldModel", "begin", "(I)V"⟩, 17), (⟨"StoneHeldModel", "bad", "()I"⟩, 17), (⟨"StoneHeldModel", "full", "()I"⟩, 17), (⟨"StoneHeldModel", "add", "(III)I"⟩, 17), (⟨"StoneHeldModel", "join", "(IIII)I"⟩, 17), (⟨"StoneHeldModel", "step", "()V"⟩, 17), (⟨"StoneHeldModel", "here", "()I"⟩, 17), (⟨"StoneHeldModel", "wordOf", "()I"⟩, 17), (⟨"StoneHeldModel", "spells", "(IIIIIII)Z"⟩, 17), (⟨"StoneHeldModel", "may", "(I)Z"⟩, 17)]
theorem lw_r5 : ∀ q ∈ lw_privs_5, lw_okq q := List.forall_mem_cons.mpr ⟨lw_p64, List.forall_mem_cons.mpr ⟨lw_p65, List.forall_mem_cons.mpr ⟨lw_p66, List.forall_mem_cons.mpr ⟨lw_p67, List.forall_mem_cons.mpr ⟨lw_p68, List.forall_mem_cons.mpr ⟨lw_p69, List.forall_mem_cons.mpr ⟨lw_p70, List.forall_mem_cons.mpr ⟨lw_p71, List.forall_mem_cons.mpr ⟨lw_p72, List.forall_mem_cons.mpr ⟨lw_p73, List.forall_mem_cons.mpr ⟨lw_p74, List.forall_mem_cons.mpr ⟨lw_p75, List.forall_mem_cons.mpr ⟨lw_p76, List.forall_mem_cons.mpr ⟨lw_p77, List.forall_mem_cons.mpr ⟨lw_p78, List.forall_mem_cons.mpr ⟨lw_p79, fun _ h => absurd h List.not_mem_nil⟩⟩⟩⟩⟩⟩⟩⟩⟩⟩⟩⟩⟩⟩⟩⟩
theorem lw_p80 : lw_okq (⟨"StoneHeldModel", "due", "(Z)V"⟩, 17) := ⟨⟨by decide +kernel, by decide +kernel⟩, List.mem_of_getElem? (i := 812) (by decide +kernel), List.mem_of_getElem? (i := 938) (by decide +kernel), List.mem_of_getElem? (i := 939) (by decide +kernel)⟩
theorem lw_p81 : lw_okq (⟨"StoneHeldModel", "item", "(I)V"⟩, 17) := ⟨⟨by decide +kernel, by decide +kernel⟩, List.mem_of_getElem? (i := 812) (by decide +kernel), List.mem_of_getElem? (i := 942) (by decide +kernel), List.mem_of_getElem? (i := 943) (by decide +kernel)⟩
theorem lw_p82 : lw_okq (⟨"StoneHeldModel", "readThing", "()V"⟩, 17) := ⟨⟨by decide +kernel, by decide +kernel⟩, List.mem_of_getElem? (i := 812) (by decide +kernel), List.mem_of_getElem? (i := 946) (by decide +kernel), List.mem_of_getElem? (i := 947) (by decide +kernel)⟩
theorem lw_p83 : lw_okq (⟨"StoneHeldModel", "number", "(II)I"⟩, 17) := ⟨⟨by decide +kernel, by decide +kernel⟩, List.mem_of_getElem? (i := 812) (by decide +kernel), List.mem_of_getElem? (i := 950) (by decide +kernel), List.mem_of_getElem? (i := 951) (by decide +kernel)⟩
theorem lw_p84 : lw_okq (⟨"StoneHeldModel", "readOne", "()V"⟩, 17) := ⟨⟨by decide +kernel, by decide +kernel⟩, List.mem_of_getElem? (i := 812) (by decide +kernel), List.mem_of_getElem? (i := 954) (by decide +kernel), List.mem_of_getElem? (i := 955) (by decide +kernel)⟩
theorem lw_p85 : lw_okq (⟨"StoneHeldModel", "readOwn", "()V"⟩, 17) := ⟨⟨by decide +kernel, by decide +kernel⟩, List.mem_of_getElem? (i := 812) (by decide +kernel), List.mem_of_getElem? (i := 958) (by decide +kernel), List.mem_of_getElem? (i := 959) (by decide +kernel)⟩
theorem lw_p86 : lw_okq (⟨"StoneHeldModel", "ownerOf", "(I[III)I"⟩, 17) := ⟨⟨by decide +kernel, by decide +kernel⟩, List.mem_of_getElem? (i := 812) (by decide +kernel), List.mem_of_getElem? (i := 965) (by decide +kernel), List.mem_of_getElem? (i := 966) (by decide +kernel)⟩
theorem lw_p87 : lw_okq (⟨"StoneHeldModel", "readLeave", "()V"⟩, 17) := ⟨⟨by decide +kernel, by decide +kernel⟩, List.mem_of_getElem? (i := 812) (by decide +kernel), List.mem_of_getElem? (i := 969) (by decide +kernel), List.mem_of_getElem? (i := 970) (by decide +kernel)⟩
theorem lw_p88 : lw_okq (⟨"StoneHeldModel", "readYears", "()V"⟩, 17) := ⟨⟨by decide +kernel, by decide +kernel⟩, List.mem_of_getElem? (i := 812) (by decide +kernel), List.mem_of_getElem? (i := 973) (by decide +kernel), List.mem_of_getElem? (i := 974) (by decide +kernel)⟩
theorem lw_p89 : lw_okq (⟨"StoneHeldModel", "passOn", "(I[II)V"⟩, 17) := ⟨⟨by decide +kernel, by decide +kernel⟩, List.mem_of_getElem? (i := 812) (by decide +kernel), List.mem_of_getElem? (i := 977) (by decide +kernel), List.mem_of_getElem? (i := 978) (by decide +kernel)⟩
theorem lw_p90 : lw_okq (⟨"StoneHeldModel", "isHeld", "(I[III)Z"⟩, 17) := ⟨⟨by decide +kernel, by decide +kernel⟩, List.mem_of_getElem? (i := 812) (by decide +kernel), List.mem_of_getElem? (i := 981) (by decide +kernel), List.mem_of_getElem? (i := 982) (by decide +kernel)⟩
theorem lw_p91 : lw_okq (⟨"StoneHeldModel", "weighsOf", "(III)I"⟩, 17) := ⟨⟨by decide +kernel, by decide +kernel⟩, List.mem_of_getElem? (i := 812) (by decide +kernel), List.mem_of_getElem? (i := 985) (by decide +kernel), List.mem_of_getElem? (i := 986) (by decide +kernel)⟩
theorem lw_p92 : lw_okq (⟨"StoneHeldModel", "liftsOf", "(III)I"⟩, 17) := ⟨⟨by decide +kernel, by decide +kernel⟩, List.mem_of_getElem? (i := 812) (by decide +kernel), List.mem_of_getElem? (i := 992) (by decide +kernel), List.mem_of_getElem? (i := 993) (by decide +kernel)⟩
theorem lw_p93 : lw_okq (⟨"StoneHeldModel", "copyRow", "(II)V"⟩, 17) := ⟨⟨by decide +kernel, by decide +kernel⟩, List.mem_of_getElem? (i := 812) (by decide +kernel), List.mem_of_getElem? (i := 999) (by decide +kernel), List.mem_of_getElem? (i := 1000) (by decide +kernel)⟩
theorem lw_p94 : lw_okq (⟨"StoneHeldModel", "isOne", "(I)Z"⟩, 17) := ⟨⟨by decide +kernel, by decide +kernel⟩, List.mem_of_getElem? (i := 812) (by decide +kernel), List.mem_of_getElem? (i := 1007) (by decide +kernel), List.mem_of_getElem? (i := 1008) (by decide +kernel)⟩
theorem lw_p95 : lw_okq (⟨"StoneHeldModel", "isThing", "(I)Z"⟩, 17) := ⟨⟨by decide +kernel, by decide +kernel⟩, List.mem_of_getElem? (i := 812) (by decide +kernel), List.mem_of_getElem? (i := 1011) (by decide +kernel), List.mem_of_getElem? (i := 1012) (by decide +kernel)⟩
def lw_privs_6 : List (MethodName × Nat) := [(⟨"StoneHeldModel", "due", "(Z)V"⟩, 17), (⟨"StoneHeldModel", "item", "(I)V"⟩, 17), (⟨"StoneHeldModel", "readThing", "()V"⟩, 17), (⟨"StoneHeldModel", "number", "(II)I"⟩, 17), (⟨"StoneHeldModel", "readOne", "()V"⟩, 17), (⟨"StoneHeldModel", "readOwn", "()V"⟩, 17), (⟨"StoneHeldModel", "ownerOf", "(I[III)I"⟩, 17), (⟨"StoneHeldModel", "readLeave", "()V"⟩, 17), (⟨"StoneHeldModel", "readYears", "()V"⟩, 17), (⟨"StoneHeldModel", "passOn", "(I[II)V"⟩, 17), (⟨"StoneHeldModel", "isHeld", "(I[III)Z"⟩, 17), (⟨"StoneHeldModel", "weighsOf", "(III)I"⟩, 17), (⟨"StoneHeldModel", "liftsOf", "(III)I"⟩, 17), (⟨"StoneHeldModel", "copyRow", "(II)V"⟩, 17), (⟨"StoneHeldModel", "isOne", "(I)Z"⟩, 17), (⟨"StoneHeldModel", "isThing", "(I)Z"⟩, 17)]
theorem lw_r6 : ∀ q ∈ lw_privs_6, lw_okq q := List.forall_mem_cons.mpr ⟨lw_p80, List.forall_mem_cons.mpr ⟨lw_p81, List.forall_mem_cons.mpr ⟨lw_p82, List.forall_mem_cons.mpr ⟨lw_p83, List.forall_mem_cons.mpr ⟨lw_p84, List.forall_mem_cons.mpr ⟨lw_p85, List.forall_mem_cons.mpr ⟨lw_p86, List.forall_mem_cons.mpr ⟨lw_p87, List.forall_mem_cons.mpr ⟨lw_p88, List.forall_mem_cons.mpr ⟨lw_p89, List.forall_mem_cons.mpr ⟨lw_p90, List.forall_mem_cons.mpr ⟨lw_p91, List.forall_mem_cons.mpr ⟨lw_p92, List.forall_mem_cons.mpr ⟨lw_p93, List.forall_mem_cons.mpr ⟨lw_p94, List.forall_mem_cons.mpr ⟨lw_p95, fun _ h => absurd h List.not_mem_nil⟩⟩⟩⟩⟩⟩⟩⟩⟩⟩⟩⟩⟩⟩⟩⟩
theorem lw_p96 : lw_okq (⟨"StoneHeldModel", "isLost", "(I)Z"⟩, 17) := ⟨⟨by decide +kernel, by decide +kernel⟩, List.mem_of_getElem? (i := 812) (by decide +kernel), List.mem_of_getElem? (i := 1015) (by decide +kernel), List.mem_of_getElem? (i := 1016) (by decide +kernel)⟩
theorem lw_p97 : lw_okq (⟨"StoneHeldModel", "no", "()I"⟩, 17) := ⟨⟨by decide +kernel, by decide +kernel⟩, List.mem_of_getElem? (i := 812) (by decide +kernel), List.mem_of_getElem? (i := 1019) (by decide +kernel), List.mem_of_getElem? (i := 1020) (by decide +kernel)⟩
theorem lw_p98 : lw_okq (⟨"StoneHeldModel", "know", "()V"⟩, 17) := ⟨⟨by decide +kernel, by decide +kernel⟩, List.mem_of_getElem? (i := 812) (by decide +kernel), List.mem_of_getElem? (i := 1023) (by decide +kernel), List.mem_of_getElem? (i := 1024) (by decide +kernel)⟩
theorem lw_p99 : lw_okq (⟨"StoneHeldModel", "hereOf", "([II)I"⟩, 17) := ⟨⟨by decide +kernel, by decide +kernel⟩, List.mem_of_getElem? (i := 812) (by decide +kernel), List.mem_of_getElem? (i := 1035) (by decide +kernel), List.mem_of_getElem? (i := 1036) (by decide +kernel)⟩
theorem lw_p100 : lw_okq (⟨"StoneHeldModel", "told", "(II)I"⟩, 17) := ⟨⟨by decide +kernel, by decide +kernel⟩, List.mem_of_getElem? (i := 812) (by decide +kernel), List.mem_of_getElem? (i := 1050) (by decide +kernel), List.mem_of_getElem? (i := 1051) (by decide +kernel)⟩
theorem lw_p101 : lw_okq (⟨"StoneHeldModel", "liftsIn", "(II)I"⟩, 17) := ⟨⟨by decide +kernel, by decide +kernel⟩, List.mem_of_getElem? (i := 812) (by decide +kernel), List.mem_of_getElem? (i := 1062) (by decide +kernel), List.mem_of_getElem? (i := 1063) (by decide +kernel)⟩
theorem lw_p102 : lw_okq (⟨"StoneHeldModel", "ageIn", "(II)I"⟩, 17) := ⟨⟨by decide +kernel, by decide +kernel⟩, List.mem_of_getElem? (i := 812) (by decide +kernel), List.mem_of_getElem? (i := 1066) (by decide +kernel), List.mem_of_getElem? (i := 1067) (by decide +kernel)⟩
theorem lw_p103 : lw_okq (⟨"StoneHeldModel", "weighsIn", "(II)I"⟩, 17) := ⟨⟨by decide +kernel, by decide +kernel⟩, List.mem_of_getElem? (i := 812) (by decide +kernel), List.mem_of_getElem? (i := 1074) (by decide +kernel), List.mem_of_getElem? (i := 1075) (by decide +kernel)⟩
theorem lw_p104 : lw_okq (⟨"StoneHeldModel", "take", "()V"⟩, 17) := ⟨⟨by decide +kernel, by decide +kernel⟩, List.mem_of_getElem? (i := 812) (by decide +kernel), List.mem_of_getElem? (i := 1086) (by decide +kernel), List.mem_of_getElem? (i := 1087) (by decide +kernel)⟩
theorem lw_p105 : lw_okq (⟨"StoneHeldModel", "longOf", "(II)I"⟩, 17) := ⟨⟨by decide +kernel, by decide +kernel⟩, List.mem_of_getElem? (i := 812) (by decide +kernel), List.mem_of_getElem? (i := 1098) (by decide +kernel), List.mem_of_getElem? (i := 1099) (by decide +kernel)⟩
theorem lw_p106 : lw_okq (⟨"StoneHeldModel", "tellMost", "(I)V"⟩, 17) := ⟨⟨by decide +kernel, by decide +kernel⟩, List.mem_of_getElem? (i := 812) (by decide +kernel), List.mem_of_getElem? (i := 1106) (by decide +kernel), List.mem_of_getElem? (i := 1107) (by decide +kernel)⟩
theorem lw_p107 : lw_okq (⟨"StoneHeldModel", "doTwo", "(III)Z"⟩, 17) := ⟨⟨by decide +kernel, by decide +kernel⟩, List.mem_of_getElem? (i := 812) (by decide +kernel), List.mem_of_getElem? (i := 1119) (by decide +kernel), List.mem_of_getElem? (i := 1120) (by decide +kernel)⟩
theorem lw_p108 : lw_okq (⟨"StoneHeldModel", "tell4", "(IIIIII)I"⟩, 17) := ⟨⟨by decide +kernel, by decide +kernel⟩, List.mem_of_getElem? (i := 812) (by decide +kernel), List.mem_of_getElem? (i := 1127) (by decide +kernel), List.mem_of_getElem? (i := 1128) (by decide +kernel)⟩
theorem lw_p109 : lw_okq (⟨"StoneHeldModel", "strengthsOf", "(I)I"⟩, 17) := ⟨⟨by decide +kernel, by decide +kernel⟩, List.mem_of_getElem? (i := 812) (by decide +kernel), List.mem_of_getElem? (i := 1135) (by decide +kernel), List.mem_of_getElem? (i := 1136) (by decide +kernel)⟩
theorem lw_p110 : lw_okq (⟨"StoneHeldModel", "kindsOf", "(IZ)I"⟩, 17) := ⟨⟨by decide +kernel, by decide +kernel⟩, List.mem_of_getElem? (i := 812) (by decide +kernel), List.mem_of_getElem? (i := 1159) (by decide +kernel), List.mem_of_getElem? (i := 1160) (by decide +kernel)⟩
theorem lw_p111 : lw_okq (⟨"StoneHeldModel", "partBy", "(IIIZ)I"⟩, 17) := ⟨⟨by decide +kernel, by decide +kernel⟩, List.mem_of_getElem? (i := 812) (by decide +kernel), List.mem_of_getElem? (i := 1171) (by decide +kernel), List.mem_of_getElem? (i := 1172) (by decide +kernel)⟩
def lw_privs_7 : List (MethodName × Nat) := [(⟨"StoneHeldModel", "isLost", "(I)Z"⟩, 17), (⟨"StoneHeldModel", "no", "()I"⟩, 17), (⟨"StoneHeldModel", "know", "()V"⟩, 17), (⟨"StoneHeldModel", "hereOf", "([II)I"⟩, 17), (⟨"StoneHeldModel", "told", "(II)I"⟩, 17), (⟨"StoneHeldModel", "liftsIn", "(II)I"⟩, 17), (⟨"StoneHeldModel", "ageIn", "(II)I"⟩, 17), (⟨"StoneHeldModel", "weighsIn", "(II)I"⟩, 17), (⟨"StoneHeldModel", "take", "()V"⟩, 17), (⟨"StoneHeldModel", "longOf", "(II)I"⟩, 17), (⟨"StoneHeldModel", "tellMost", "(I)V"⟩, 17), (⟨"StoneHeldModel", "doTwo", "(III)Z"⟩, 17), (⟨"StoneHeldModel", "tell4", "(IIIIII)I"⟩, 17), (⟨"StoneHeldModel", "strengthsOf", "(I)I"⟩, 17), (⟨"StoneHeldModel", "kindsOf", "(IZ)I"⟩, 17), (⟨"StoneHeldModel", "partBy", "(IIIZ)I"⟩, 17)]
theorem lw_r7 : ∀ q ∈ lw_privs_7, lw_okq q := List.forall_mem_cons.mpr ⟨lw_p96, List.forall_mem_cons.mpr ⟨lw_p97, List.forall_mem_cons.mpr ⟨lw_p98, List.forall_mem_cons.mpr ⟨lw_p99, List.forall_mem_cons.mpr ⟨lw_p100, List.forall_mem_cons.mpr ⟨lw_p101, List.forall_mem_cons.mpr ⟨lw_p102, List.forall_mem_cons.mpr ⟨lw_p103, List.forall_mem_cons.mpr ⟨lw_p104, List.forall_mem_cons.mpr ⟨lw_p105, List.forall_mem_cons.mpr ⟨lw_p106, List.forall_mem_cons.mpr ⟨lw_p107, List.forall_mem_cons.mpr ⟨lw_p108, List.forall_mem_cons.mpr ⟨lw_p109, List.forall_mem_cons.mpr ⟨lw_p110, List.forall_mem_cons.mpr ⟨lw_p111, fun _ h => absurd h List.not_mem_nil⟩⟩⟩⟩⟩⟩⟩⟩⟩⟩⟩⟩⟩⟩⟩⟩
theorem lw_p112 : lw_okq (⟨"StoneHeldModel", "fraction", "(JJ)V"⟩, 17) := ⟨⟨by decide +kernel, by decide +kernel⟩, List.mem_of_getElem? (i := 812) (by decide +kernel), List.mem_of_getElem? (i := 1191) (by decide +kernel), List.mem_of_getElem? (i := 1192) (by decide +kernel)⟩
theorem lw_p113 : lw_okq (⟨"StoneHeldModel", "many", "(I)I"⟩, 17) := ⟨⟨by decide +kernel, by decide +kernel⟩, List.mem_of_getElem? (i := 812) (by decide +kernel), List.mem_of_getElem? (i := 1226) (by decide +kernel), List.mem_of_getElem? (i := 1227) (by decide +kernel)⟩
def lw_privs_8 : List (MethodName × Nat) := [(⟨"StoneHeldModel", "fraction", "(JJ)V"⟩, 17), (⟨"StoneHeldModel", "many", "(I)I"⟩, 17)]
theorem lw_r8 : ∀ q ∈ lw_privs_8, lw_okq q := List.forall_mem_cons.mpr ⟨lw_p112, List.forall_mem_cons.mpr ⟨lw_p113, fun _ h => absurd h List.not_mem_nil⟩⟩
def lw_privs : List (MethodName × Nat) := lw_privs_1 ++ (lw_privs_2 ++ (lw_privs_3 ++ (lw_privs_4 ++ (lw_privs_5 ++ (lw_privs_6 ++ (lw_privs_7 ++ (lw_privs_8)))))))
def lw_tbl : List Cond := k2_sels lw_privs ++ tables_1
theorem lw_privs_ok : ∀ q ∈ lw_privs, lw_okq q := by
  show ∀ q ∈ lw_privs_1 ++ (lw_privs_2 ++ (lw_privs_3 ++ (lw_privs_4 ++ (lw_privs_5 ++ (lw_privs_6 ++ (lw_privs_7 ++ (lw_privs_8))))))), lw_okq q
  exact List.forall_mem_append.mpr ⟨lw_r1, List.forall_mem_append.mpr ⟨lw_r2, List.forall_mem_append.mpr ⟨lw_r3, List.forall_mem_append.mpr ⟨lw_r4, List.forall_mem_append.mpr ⟨lw_r5, List.forall_mem_append.mpr ⟨lw_r6, List.forall_mem_append.mpr ⟨lw_r7, lw_r8⟩⟩⟩⟩⟩⟩⟩
end
section
def RX0 : String := "StoneHeld$Answers"
def TX0 : u_T := fun k => match k with
  | 0 => ("StoneHeld$Answers", "row", "[I", true)
  | _ => ("StoneHeld$Answers", "size", "I", false)
def tyX0 : Nat → FieldType := fun k => match k with
  | 0 => .array .int
  | _ => .int
abbrev wsX00 : List Cond := u_ws RX0 TX0 2
theorem nmX0 : ∀ a, a < 2 → ∀ b, b < 2 → a ≠ b → (TX0 a).2.1 ≠ (TX0 b).2.1 := by decide +kernel
theorem tyX0_ok : ∀ k, k < 2 → parseFieldDescriptor (TX0 k).2.2.1 = some (tyX0 k) := by decide +kernel
abbrev cX0_init : ByteArray := prog_2_method_1_code
def yX0_init : MethodName := ⟨RX0, "<init>", "()V"⟩
abbrev cX0_fillByStrength : ByteArray := prog_2_method_2_code
def yX0_fillByStrength : MethodName := ⟨RX0, "fillByStrength", "(III)V"⟩
abbrev cX0_fillByThingKind : ByteArray := prog_2_method_3_code
def yX0_fillByThingKind : MethodName := ⟨RX0, "fillByThingKind", "(III)V"⟩
abbrev cX0_fillByOneKind : ByteArray := prog_2_method_4_code
def yX0_fillByOneKind : MethodName := ⟨RX0, "fillByOneKind", "(III)V"⟩
abbrev cX0_put : ByteArray := prog_2_method_5_code
def yX0_put : MethodName := ⟨RX0, "put", "(I)V"⟩
abbrev cX0_greaterPart : ByteArray := prog_2_method_6_code
def yX0_greaterPart : MethodName := ⟨RX0, "greaterPart", "(I)I"⟩
abbrev cX0_mostAlike : ByteArray := prog_2_method_7_code
def yX0_mostAlike : MethodName := ⟨RX0, "mostAlike", "()I"⟩
def RX1 : String := "StoneHeld$Matching"
def TX1 : u_T := fun k => match k with
  | 0 => ("StoneHeld$Matching", "holding", "[I", true)
  | 1 => ("StoneHeld$Matching", "table", "[I", true)
  | _ => ("StoneHeld$Matching", "ones", "I", false)
def tyX1 : Nat → FieldType := fun k => match k with
  | 0 => .array .int
  | 1 => .array .int
  | _ => .int
abbrev wsX10 : List Cond := u_ws RX1 TX1 3
theorem nmX1 : ∀ a, a < 3 → ∀ b, b < 3 → a ≠ b → (TX1 a).2.1 ≠ (TX1 b).2.1 := by decide +kernel
theorem tyX1_ok : ∀ k, k < 3 → parseFieldDescriptor (TX1 k).2.2.1 = some (tyX1 k) := by decide +kernel
abbrev cX1_init : ByteArray := prog_3_method_1_code
def yX1_init : MethodName := ⟨RX1, "<init>", "()V"⟩
abbrev cX1_fill : ByteArray := prog_3_method_2_code
def yX1_fill : MethodName := ⟨RX1, "fill", "(LStoneHeld$World;I)V"⟩
abbrev cX1_best : ByteArray := prog_3_method_3_code
def yX1_best : MethodName := ⟨RX1, "best", "(II)I"⟩
abbrev cX1_most : ByteArray := prog_3_method_4_code
def yX1_most : MethodName := ⟨RX1, "most", "(II)I"⟩
abbrev cX1_firstThingOf : ByteArray := prog_3_method_5_code
def yX1_firstThingOf : MethodName := ⟨RX1, "firstThingOf", "(II)I"⟩
abbrev cX1_firstThing : ByteArray := prog_3_method_6_code
def yX1_firstThing : MethodName := ⟨RX1, "firstThing", "(II)I"⟩
def RX2 : String := "StoneHeld$Moment"
def TX2 : u_T := fun k => match k with
  | 0 => ("StoneHeld$Moment", "age", "[I", true)
  | 1 => ("StoneHeld$Moment", "owned", "[I", true)
  | 2 => ("StoneHeld$Moment", "here", "I", false)
  | _ => ("StoneHeld$Moment", "year", "I", false)
def tyX2 : Nat → FieldType := fun k => match k with
  | 0 => .array .int
  | 1 => .array .int
  | 2 => .int
  | _ => .int
abbrev wsX20 : List Cond := u_ws RX2 TX2 4
theorem nmX2 : ∀ a, a < 4 → ∀ b, b < 4 → a ≠ b → (TX2 a).2.1 ≠ (TX2 b).2.1 := by decide +kernel
theorem tyX2_ok : ∀ k, k < 4 → parseFieldDescriptor (TX2 k).2.2.1 = some (tyX2 k) := by decide +kernel
abbrev cX2_init : ByteArray := prog_4_method_1_code
def yX2_init : MethodName := ⟨RX2, "<init>", "()V"⟩
abbrev cX2_copyFrom : ByteArray := prog_4_method_2_code
def yX2_copyFrom : MethodName := ⟨RX2, "copyFrom", "(LStoneHeld$Moment;)V"⟩
abbrev cX2_isHere : ByteArray := prog_4_method_3_code
def yX2_isHere : MethodName := ⟨RX2, "isHere", "(I)Z"⟩
abbrev cX2_countHere : ByteArray := prog_4_method_4_code
def yX2_countHere : MethodName := ⟨RX2, "countHere", "()I"⟩
abbrev cX2_lose : ByteArray := prog_4_method_5_code
def yX2_lose : MethodName := ⟨RX2, "lose", "(I)V"⟩
abbrev cX2_growOlder : ByteArray := prog_4_method_6_code
def yX2_growOlder : MethodName := ⟨RX2, "growOlder", "(I)V"⟩
def RX3 : String := "StoneHeld$Reader"
def TX3 : u_T := fun k => match k with
  | 0 => ("StoneHeld$Reader", "text", "[I", true)
  | 1 => ("StoneHeld$Reader", "length", "I", false)
  | 2 => ("StoneHeld$Reader", "place", "I", false)
  | 3 => ("StoneHeld$Reader", "token", "I", false)
  | 4 => ("StoneHeld$Reader", "start", "I", false)
  | 5 => ("StoneHeld$Reader", "number", "I", false)
  | _ => ("StoneHeld$Reader", "draft", "LStoneHeld$World;", true)
def tyX3 : Nat → FieldType := fun k => match k with
  | 0 => .array .int
  | 1 => .int
  | 2 => .int
  | 3 => .int
  | 4 => .int
  | 5 => .int
  | _ => .object "StoneHeld$World"
abbrev wsX30 : List Cond := u_ws RX3 TX3 7
theorem nmX3 : ∀ a, a < 7 → ∀ b, b < 7 → a ≠ b → (TX3 a).2.1 ≠ (TX3 b).2.1 := by decide +kernel
theorem tyX3_ok : ∀ k, k < 7 → parseFieldDescriptor (TX3 k).2.2.1 = some (tyX3 k) := by decide +kernel
abbrev cX3_init : ByteArray := prog_5_method_1_code
def yX3_init : MethodName := ⟨RX3, "<init>", "()V"⟩
abbrev cX3_append : ByteArray := prog_5_method_2_code
def yX3_append : MethodName := ⟨RX3, "append", "(I)I"⟩
abbrev cX3_readItems : ByteArray := prog_5_method_3_code
def yX3_readItems : MethodName := ⟨RX3, "readItems", "()I"⟩
abbrev cX3_takeItem : ByteArray := prog_5_method_4_code
def yX3_takeItem : MethodName := ⟨RX3, "takeItem", "(Z)Z"⟩
abbrev cX3_takeThing : ByteArray := prog_5_method_5_code
def yX3_takeThing : MethodName := ⟨RX3, "takeThing", "()Z"⟩
abbrev cX3_takeOne : ByteArray := prog_5_method_6_code
def yX3_takeOne : MethodName := ⟨RX3, "takeOne", "()Z"⟩
abbrev cX3_takeOwn : ByteArray := prog_5_method_7_code
def yX3_takeOwn : MethodName := ⟨RX3, "takeOwn", "()Z"⟩
abbrev cX3_takeLeave : ByteArray := prog_5_method_8_code
def yX3_takeLeave : MethodName := ⟨RX3, "takeLeave", "()Z"⟩
abbrev cX3_takeYears : ByteArray := prog_5_method_9_code
def yX3_takeYears : MethodName := ⟨RX3, "takeYears", "()Z"⟩
abbrev cX3_takeNumber : ByteArray := prog_5_method_10_code
def yX3_takeNumber : MethodName := ⟨RX3, "takeNumber", "(II)Z"⟩
abbrev cX3_takeStop : ByteArray := prog_5_method_11_code
def yX3_takeStop : MethodName := ⟨RX3, "takeStop", "()Z"⟩
abbrev cX3_isWord : ByteArray := prog_5_method_12_code
def yX3_isWord : MethodName := ⟨RX3, "isWord", "(Ljava/lang/String;)Z"⟩
abbrev cX3_nextToken : ByteArray := prog_5_method_13_code
def yX3_nextToken : MethodName := ⟨RX3, "nextToken", "()V"⟩
abbrev cX3_passRun : ByteArray := prog_5_method_14_code
def yX3_passRun : MethodName := ⟨RX3, "passRun", "(II)V"⟩
def RX4 : String := "StoneHeld$Rows"
def TX4 : u_T := fun k => match k with
  | 0 => ("StoneHeld$Rows", "most", "I", true)
  | 1 => ("StoneHeld$Rows", "cells", "[I", true)
  | _ => ("StoneHeld$Rows", "size", "I", false)
def tyX4 : Nat → FieldType := fun k => match k with
  | 0 => .int
  | 1 => .array .int
  | _ => .int
abbrev wsX40 : List Cond := u_ws RX4 TX4 3
theorem nmX4 : ∀ a, a < 3 → ∀ b, b < 3 → a ≠ b → (TX4 a).2.1 ≠ (TX4 b).2.1 := by decide +kernel
theorem tyX4_ok : ∀ k, k < 3 → parseFieldDescriptor (TX4 k).2.2.1 = some (tyX4 k) := by decide +kernel
abbrev cX4_init : ByteArray := prog_6_method_1_code
def yX4_init : MethodName := ⟨RX4, "<init>", "(I)V"⟩
abbrev cX4_isFull : ByteArray := prog_6_method_2_code
def yX4_isFull : MethodName := ⟨RX4, "isFull", "()Z"⟩
abbrev cX4_add : ByteArray := prog_6_method_3_code
def yX4_add : MethodName := ⟨RX4, "add", "(IIII)I"⟩
abbrev cX4_cell : ByteArray := prog_6_method_4_code
def yX4_cell : MethodName := ⟨RX4, "cell", "(II)I"⟩
abbrev cX4_drop : ByteArray := prog_6_method_5_code
def yX4_drop : MethodName := ⟨RX4, "drop", "()I"⟩
abbrev cX4_copyFrom : ByteArray := prog_6_method_6_code
def yX4_copyFrom : MethodName := ⟨RX4, "copyFrom", "(LStoneHeld$Rows;)V"⟩
abbrev cX4_mixInto : ByteArray := prog_6_method_7_code
def yX4_mixInto : MethodName := ⟨RX4, "mixInto", "(J)J"⟩
def RX5 : String := "StoneHeld$Scales"
def TX5 : u_T := fun k => match k with
  | _ => ("", "", "", false)
def tyX5 : Nat → FieldType := fun k => match k with
  | _ => .int
abbrev wsX50 : List Cond := u_ws RX5 TX5 0
theorem nmX5 : ∀ a, a < 0 → ∀ b, b < 0 → a ≠ b → (TX5 a).2.1 ≠ (TX5 b).2.1 := by decide +kernel
theorem tyX5_ok : ∀ k, k < 0 → parseFieldDescriptor (TX5 k).2.2.1 = some (tyX5 k) := by decide +kernel
abbrev cX5_thingWeighs : ByteArray := prog_7_method_2_code
def yX5_thingWeighs : MethodName := ⟨RX5, "thingWeighs", "(III)I"⟩
abbrev cX5_bell : ByteArray := prog_7_method_3_code
def yX5_bell : MethodName := ⟨RX5, "bell", "(I)I"⟩
abbrev cX5_trunk : ByteArray := prog_7_method_4_code
def yX5_trunk : MethodName := ⟨RX5, "trunk", "(I)I"⟩
abbrev cX5_oneLifts : ByteArray := prog_7_method_5_code
def yX5_oneLifts : MethodName := ⟨RX5, "oneLifts", "(III)I"⟩
abbrev cX5_smith : ByteArray := prog_7_method_6_code
def yX5_smith : MethodName := ⟨RX5, "smith", "(I)I"⟩
abbrev cX5_weak : ByteArray := prog_7_method_7_code
def yX5_weak : MethodName := ⟨RX5, "weak", "(I)I"⟩
def RX6 : String := "StoneHeld$World"
def TX6 : u_T := fun k => match k with
  | 0 => ("StoneHeld$World", "things", "I", false)
  | 1 => ("StoneHeld$World", "thingKind", "[I", true)
  | 2 => ("StoneHeld$World", "thingWeight", "[I", true)
  | 3 => ("StoneHeld$World", "ones", "I", false)
  | 4 => ("StoneHeld$World", "kind", "[I", true)
  | 5 => ("StoneHeld$World", "strength", "[I", true)
  | 6 => ("StoneHeld$World", "now", "LStoneHeld$Moment;", true)
  | 7 => ("StoneHeld$World", "past", "[LStoneHeld$Moment;", true)
  | 8 => ("StoneHeld$World", "pasts", "I", false)
  | 9 => ("StoneHeld$World", "seenOnes", "LStoneHeld$Rows;", true)
  | 10 => ("StoneHeld$World", "notes", "LStoneHeld$Rows;", true)
  | _ => ("StoneHeld$World", "marks", "LStoneHeld$Rows;", true)
def tyX6 : Nat → FieldType := fun k => match k with
  | 0 => .int
  | 1 => .array .int
  | 2 => .array .int
  | 3 => .int
  | 4 => .array .int
  | 5 => .array .int
  | 6 => .object "StoneHeld$Moment"
  | 7 => .array (.object "StoneHeld$Moment")
  | 8 => .int
  | 9 => .object "StoneHeld$Rows"
  | 10 => .object "StoneHeld$Rows"
  | _ => .object "StoneHeld$Rows"
abbrev wsX60 : List Cond := u_ws RX6 TX6 12
theorem nmX6 : ∀ a, a < 12 → ∀ b, b < 12 → a ≠ b → (TX6 a).2.1 ≠ (TX6 b).2.1 := by decide +kernel
theorem tyX6_ok : ∀ k, k < 12 → parseFieldDescriptor (TX6 k).2.2.1 = some (tyX6 k) := by decide +kernel
abbrev cX6_init : ByteArray := prog_8_method_1_code
def yX6_init : MethodName := ⟨RX6, "<init>", "()V"⟩
abbrev cX6_startAnew : ByteArray := prog_8_method_2_code
def yX6_startAnew : MethodName := ⟨RX6, "startAnew", "()V"⟩
abbrev cX6_copyFrom : ByteArray := prog_8_method_3_code
def yX6_copyFrom : MethodName := ⟨RX6, "copyFrom", "(LStoneHeld$World;)V"⟩
abbrev cX6_hasThing : ByteArray := prog_8_method_4_code
def yX6_hasThing : MethodName := ⟨RX6, "hasThing", "(I)Z"⟩
abbrev cX6_hasOne : ByteArray := prog_8_method_5_code
def yX6_hasOne : MethodName := ⟨RX6, "hasOne", "(I)Z"⟩
abbrev cX6_addThing : ByteArray := prog_8_method_6_code
def yX6_addThing : MethodName := ⟨RX6, "addThing", "(II)I"⟩
abbrev cX6_addOne : ByteArray := prog_8_method_7_code
def yX6_addOne : MethodName := ⟨RX6, "addOne", "(III)I"⟩
abbrev cX6_remember : ByteArray := prog_8_method_8_code
def yX6_remember : MethodName := ⟨RX6, "remember", "()V"⟩
abbrev cX6_bringBack : ByteArray := prog_8_method_9_code
def yX6_bringBack : MethodName := ⟨RX6, "bringBack", "()V"⟩
abbrev cX6_mayGet : ByteArray := prog_8_method_10_code
def yX6_mayGet : MethodName := ⟨RX6, "mayGet", "(I)Z"⟩
abbrev cX6_ownerOf : ByteArray := prog_8_method_11_code
def yX6_ownerOf : MethodName := ⟨RX6, "ownerOf", "(I)I"⟩
abbrev cX6_ownerIn : ByteArray := prog_8_method_12_code
def yX6_ownerIn : MethodName := ⟨RX6, "ownerIn", "(LStoneHeld$Moment;I)I"⟩
abbrev cX6_countOwned : ByteArray := prog_8_method_13_code
def yX6_countOwned : MethodName := ⟨RX6, "countOwned", "()I"⟩
abbrev cX6_factOfOne : ByteArray := prog_8_method_14_code
def yX6_factOfOne : MethodName := ⟨RX6, "factOfOne", "(II)I"⟩
abbrev cX6_weightOf : ByteArray := prog_8_method_15_code
def yX6_weightOf : MethodName := ⟨RX6, "weightOf", "(II)I"⟩
abbrev cX6_liftOf : ByteArray := prog_8_method_16_code
def yX6_liftOf : MethodName := ⟨RX6, "liftOf", "(II)I"⟩
abbrev cX6_holdsFor : ByteArray := prog_8_method_17_code
def yX6_holdsFor : MethodName := ⟨RX6, "holdsFor", "(III)I"⟩
abbrev cX6_thingsHolding : ByteArray := prog_8_method_18_code
def yX6_thingsHolding : MethodName := ⟨RX6, "thingsHolding", "(II)I"⟩
abbrev cX6_toldWeight : ByteArray := prog_8_method_19_code
def yX6_toldWeight : MethodName := ⟨RX6, "toldWeight", "(I)I"⟩
abbrev cX6_liftByTwo : ByteArray := prog_8_method_20_code
def yX6_liftByTwo : MethodName := ⟨RX6, "liftByTwo", "(III)Z"⟩
abbrev cX6_isHeldIn : ByteArray := prog_8_method_21_code
def yX6_isHeldIn : MethodName := ⟨RX6, "isHeldIn", "(LStoneHeld$Moment;I)Z"⟩
abbrev cX6_passYears : ByteArray := prog_8_method_22_code
def yX6_passYears : MethodName := ⟨RX6, "passYears", "(LStoneHeld$Moment;II)V"⟩
abbrev cX6_giveIfFree : ByteArray := prog_8_method_23_code
def yX6_giveIfFree : MethodName := ⟨RX6, "giveIfFree", "(LStoneHeld$Moment;II)V"⟩
abbrev cX6_tenthsHeld : ByteArray := prog_8_method_24_code
def yX6_tenthsHeld : MethodName := ⟨RX6, "tenthsHeld", "(III)I"⟩
abbrev cX6_fittingStrengths : ByteArray := prog_8_method_25_code
def yX6_fittingStrengths : MethodName := ⟨RX6, "fittingStrengths", "(I)I"⟩
abbrev cX6_fitsSeen : ByteArray := prog_8_method_26_code
def yX6_fitsSeen : MethodName := ⟨RX6, "fitsSeen", "(II)Z"⟩
abbrev cX6_fittingThingKinds : ByteArray := prog_8_method_27_code
def yX6_fittingThingKinds : MethodName := ⟨RX6, "fittingThingKinds", "(I)I"⟩
abbrev cX6_fitsNotes : ByteArray := prog_8_method_28_code
def yX6_fitsNotes : MethodName := ⟨RX6, "fitsNotes", "(II)Z"⟩
abbrev cX6_fittingOneKinds : ByteArray := prog_8_method_29_code
def yX6_fittingOneKinds : MethodName := ⟨RX6, "fittingOneKinds", "(I)I"⟩
abbrev cX6_fitsMarks : ByteArray := prog_8_method_30_code
def yX6_fitsMarks : MethodName := ⟨RX6, "fitsMarks", "(II)Z"⟩
abbrev cX6_mixInto : ByteArray := prog_8_method_31_code
def yX6_mixInto : MethodName := ⟨RX6, "mixInto", "(J)J"⟩
def RX7 : String := "StoneHeld"
def TX7 : u_T := fun k => match k with
  | 0 => ("StoneHeld", "world", "LStoneHeld$World;", true)
  | 1 => ("StoneHeld", "reader", "LStoneHeld$Reader;", true)
  | 2 => ("StoneHeld", "images", "[LStoneHeld$World;", true)
  | 3 => ("StoneHeld", "keptImages", "I", false)
  | 4 => ("StoneHeld", "matching", "LStoneHeld$Matching;", true)
  | 5 => ("StoneHeld", "answers", "LStoneHeld$Answers;", true)
  | 6 => ("StoneHeld", "ahead", "LStoneHeld$Moment;", true)
  | 7 => ("StoneHeld", "above", "J", false)
  | 8 => ("StoneHeld", "below", "J", false)
  | 9 => ("StoneHeld", "refusedBad", "I", false)
  | 10 => ("StoneHeld", "refusedNo", "I", false)
  | _ => ("StoneHeld", "refusedFull", "I", false)
def tyX7 : Nat → FieldType := fun k => match k with
  | 0 => .object "StoneHeld$World"
  | 1 => .object "StoneHeld$Reader"
  | 2 => .array (.object "StoneHeld$World")
  | 3 => .int
  | 4 => .object "StoneHeld$Matching"
  | 5 => .object "StoneHeld$Answers"
  | 6 => .object "StoneHeld$Moment"
  | 7 => .long
  | 8 => .long
  | 9 => .int
  | 10 => .int
  | _ => .int
abbrev wsX70 : List Cond := u_ws RX7 TX7 12
theorem nmX7 : ∀ a, a < 12 → ∀ b, b < 12 → a ≠ b → (TX7 a).2.1 ≠ (TX7 b).2.1 := by decide +kernel
theorem tyX7_ok : ∀ k, k < 12 → parseFieldDescriptor (TX7 k).2.2.1 = some (tyX7 k) := by decide +kernel
abbrev cX7_init : ByteArray := prog_1_method_1_code
def yX7_init : MethodName := ⟨RX7, "<init>", "()V"⟩
abbrev cX7_people : ByteArray := prog_1_method_2_code
def yX7_people : MethodName := ⟨RX7, "people", "()I"⟩
abbrev cX7_thing : ByteArray := prog_1_method_3_code
def yX7_thing : MethodName := ⟨RX7, "thing", "(II)I"⟩
abbrev cX7_one : ByteArray := prog_1_method_4_code
def yX7_one : MethodName := ⟨RX7, "one", "(III)I"⟩
abbrev cX7_type : ByteArray := prog_1_method_5_code
def yX7_type : MethodName := ⟨RX7, "type", "(I)I"⟩
abbrev cX7_clear : ByteArray := prog_1_method_6_code
def yX7_clear : MethodName := ⟨RX7, "clear", "()I"⟩
abbrev cX7_read : ByteArray := prog_1_method_7_code
def yX7_read : MethodName := ⟨RX7, "read", "()I"⟩
abbrev cX7_owns : ByteArray := prog_1_method_8_code
def yX7_owns : MethodName := ⟨RX7, "owns", "(II)I"⟩
abbrev cX7_leaves : ByteArray := prog_1_method_9_code
def yX7_leaves : MethodName := ⟨RX7, "leaves", "(I)I"⟩
abbrev cX7_years : ByteArray := prog_1_method_10_code
def yX7_years : MethodName := ⟨RX7, "years", "(I)I"⟩
abbrev cX7_undo : ByteArray := prog_1_method_11_code
def yX7_undo : MethodName := ⟨RX7, "undo", "()I"⟩
abbrev cX7_of : ByteArray := prog_1_method_12_code
def yX7_of : MethodName := ⟨RX7, "of", "(II)I"⟩
abbrev cX7_about : ByteArray := prog_1_method_13_code
def yX7_about : MethodName := ⟨RX7, "about", "(II)I"⟩
abbrev cX7_lifts : ByteArray := prog_1_method_14_code
def yX7_lifts : MethodName := ⟨RX7, "lifts", "(II)I"⟩
abbrev cX7_weighs : ByteArray := prog_1_method_15_code
def yX7_weighs : MethodName := ⟨RX7, "weighs", "(II)I"⟩
abbrev cX7_held : ByteArray := prog_1_method_16_code
def yX7_held : MethodName := ⟨RX7, "held", "()I"⟩
abbrev cX7_left : ByteArray := prog_1_method_17_code
def yX7_left : MethodName := ⟨RX7, "left", "(I)I"⟩
abbrev cX7_when : ByteArray := prog_1_method_18_code
def yX7_when : MethodName := ⟨RX7, "when", "(I)I"⟩
abbrev cX7_lasts : ByteArray := prog_1_method_19_code
def yX7_lasts : MethodName := ⟨RX7, "lasts", "(II)I"⟩
abbrev cX7_match : ByteArray := prog_1_method_20_code
def yX7_match : MethodName := ⟨RX7, "match", "(II)I"⟩
abbrev cX7_light : ByteArray := prog_1_method_21_code
def yX7_light : MethodName := ⟨RX7, "light", "(I)I"⟩
abbrev cX7_two : ByteArray := prog_1_method_22_code
def yX7_two : MethodName := ⟨RX7, "two", "(II)I"⟩
abbrev cX7_seen : ByteArray := prog_1_method_23_code
def yX7_seen : MethodName := ⟨RX7, "seen", "(IIII)I"⟩
abbrev cX7_strong : ByteArray := prog_1_method_24_code
def yX7_strong : MethodName := ⟨RX7, "strong", "(II)I"⟩
abbrev cX7_tell : ByteArray := prog_1_method_25_code
def yX7_tell : MethodName := ⟨RX7, "tell", "(I)I"⟩
abbrev cX7_note : ByteArray := prog_1_method_26_code
def yX7_note : MethodName := ⟨RX7, "note", "(IIII)I"⟩
abbrev cX7_mark : ByteArray := prog_1_method_27_code
def yX7_mark : MethodName := ⟨RX7, "mark", "(IIII)I"⟩
abbrev cX7_forget : ByteArray := prog_1_method_28_code
def yX7_forget : MethodName := ⟨RX7, "forget", "(I)I"⟩
abbrev cX7_is : ByteArray := prog_1_method_29_code
def yX7_is : MethodName := ⟨RX7, "is", "(I)I"⟩
abbrev cX7_look : ByteArray := prog_1_method_30_code
def yX7_look : MethodName := ⟨RX7, "look", "(I)I"⟩
abbrev cX7_kinds : ByteArray := prog_1_method_31_code
def yX7_kinds : MethodName := ⟨RX7, "kinds", "(I)I"⟩
abbrev cX7_ask : ByteArray := prog_1_method_32_code
def yX7_ask : MethodName := ⟨RX7, "ask", "(I)I"⟩
abbrev cX7_tries : ByteArray := prog_1_method_33_code
def yX7_tries : MethodName := ⟨RX7, "tries", "(III)I"⟩
abbrev cX7_shout : ByteArray := prog_1_method_34_code
def yX7_shout : MethodName := ⟨RX7, "shout", "(III)I"⟩
abbrev cX7_centuries : ByteArray := prog_1_method_35_code
def yX7_centuries : MethodName := ⟨RX7, "centuries", "(II)I"⟩
abbrev cX7_part : ByteArray := prog_1_method_36_code
def yX7_part : MethodName := ⟨RX7, "part", "(I)J"⟩
abbrev cX7_image : ByteArray := prog_1_method_37_code
def yX7_image : MethodName := ⟨RX7, "image", "(I)I"⟩
abbrev cX7_from : ByteArray := prog_1_method_38_code
def yX7_from : MethodName := ⟨RX7, "from", "(I)I"⟩
abbrev cX7_status : ByteArray := prog_1_method_39_code
def yX7_status : MethodName := ⟨RX7, "status", "(I)I"⟩
abbrev cX7_count : ByteArray := prog_1_method_40_code
def yX7_count : MethodName := ⟨RX7, "count", "(I)I"⟩
abbrev cX7_digest : ByteArray := prog_1_method_41_code
def yX7_digest : MethodName := ⟨RX7, "digest", "()J"⟩
abbrev cX7_howMany : ByteArray := prog_1_method_42_code
def yX7_howMany : MethodName := ⟨RX7, "howMany", "(I)I"⟩
abbrev cX7_bad : ByteArray := prog_1_method_43_code
def yX7_bad : MethodName := ⟨RX7, "bad", "()I"⟩
abbrev cX7_no : ByteArray := prog_1_method_44_code
def yX7_no : MethodName := ⟨RX7, "no", "()I"⟩
abbrev cX7_full : ByteArray := prog_1_method_45_code
def yX7_full : MethodName := ⟨RX7, "full", "()I"⟩
abbrev cX7_setFraction : ByteArray := prog_1_method_46_code
def yX7_setFraction : MethodName := ⟨RX7, "setFraction", "(JJ)V"⟩
abbrev cX7_commonDivisor : ByteArray := prog_1_method_47_code
def yX7_commonDivisor : MethodName := ⟨RX7, "commonDivisor", "(JJ)J"⟩
abbrev cX7_leastBit : ByteArray := prog_1_method_48_code
def yX7_leastBit : MethodName := ⟨RX7, "leastBit", "(I)I"⟩
abbrev cX7_greatestBit : ByteArray := prog_1_method_49_code
def yX7_greatestBit : MethodName := ⟨RX7, "greatestBit", "(I)I"⟩
abbrev cX7_isWithin : ByteArray := prog_1_method_50_code
def yX7_isWithin : MethodName := ⟨RX7, "isWithin", "(III)Z"⟩
abbrev cX7_isContent : ByteArray := prog_1_method_51_code
def yX7_isContent : MethodName := ⟨RX7, "isContent", "(ZZIII)Z"⟩
abbrev cX7_gain : ByteArray := prog_1_method_52_code
def yX7_gain : MethodName := ⟨RX7, "gain", "(ZZIII)I"⟩
def RX8 : String := "StoneHeldModel"
def TX8 : u_T := fun k => match k with
  | 0 => ("StoneHeldModel", "refused", "[I", true)
  | 1 => ("StoneHeldModel", "all", "[I", true)
  | 2 => ("StoneHeldModel", "isKept", "[Z", true)
  | 3 => ("StoneHeldModel", "tried", "[I", true)
  | 4 => ("StoneHeldModel", "text", "[B", true)
  | 5 => ("StoneHeldModel", "typed", "I", false)
  | 6 => ("StoneHeldModel", "at", "I", false)
  | 7 => ("StoneHeldModel", "place", "I", false)
  | 8 => ("StoneHeldModel", "sort", "I", false)
  | 9 => ("StoneHeldModel", "value", "I", false)
  | 10 => ("StoneHeldModel", "isWrong", "Z", false)
  | 11 => ("StoneHeldModel", "items", "I", false)
  | 12 => ("StoneHeldModel", "most", "[I", true)
  | 13 => ("StoneHeldModel", "least", "[I", true)
  | 14 => ("StoneHeldModel", "holds", "[I", true)
  | 15 => ("StoneHeldModel", "above", "J", false)
  | _ => ("StoneHeldModel", "below", "J", false)
def tyX8 : Nat → FieldType := fun k => match k with
  | 0 => .array .int
  | 1 => .array .int
  | 2 => .array .boolean
  | 3 => .array .int
  | 4 => .array .byte
  | 5 => .int
  | 6 => .int
  | 7 => .int
  | 8 => .int
  | 9 => .int
  | 10 => .boolean
  | 11 => .int
  | 12 => .array .int
  | 13 => .array .int
  | 14 => .array .int
  | 15 => .long
  | _ => .long
abbrev wsX80 : List Cond := u_ws RX8 TX8 17
theorem nmX8 : ∀ a, a < 17 → ∀ b, b < 17 → a ≠ b → (TX8 a).2.1 ≠ (TX8 b).2.1 := by decide +kernel
theorem tyX8_ok : ∀ k, k < 17 → parseFieldDescriptor (TX8 k).2.2.1 = some (tyX8 k) := by decide +kernel
abbrev cX8_init : ByteArray := prog_10_method_1_code
def yX8_init : MethodName := ⟨RX8, "<init>", "()V"⟩
abbrev cX8_in : ByteArray := prog_10_method_3_code
def yX8_in : MethodName := ⟨RX8, "in", "(III)Z"⟩
abbrev cX8_has : ByteArray := prog_10_method_4_code
def yX8_has : MethodName := ⟨RX8, "has", "(II)Z"⟩
abbrev cX8_bitsOf : ByteArray := prog_10_method_5_code
def yX8_bitsOf : MethodName := ⟨RX8, "bitsOf", "(I)I"⟩
abbrev cX8_bad : ByteArray := prog_10_method_6_code
def yX8_bad : MethodName := ⟨RX8, "bad", "()I"⟩
abbrev cX8_no : ByteArray := prog_10_method_7_code
def yX8_no : MethodName := ⟨RX8, "no", "()I"⟩
abbrev cX8_full : ByteArray := prog_10_method_8_code
def yX8_full : MethodName := ⟨RX8, "full", "()I"⟩
abbrev cX8_begin : ByteArray := prog_10_method_9_code
def yX8_begin : MethodName := ⟨RX8, "begin", "(I)V"⟩
abbrev cX8_copyRow : ByteArray := prog_10_method_10_code
def yX8_copyRow : MethodName := ⟨RX8, "copyRow", "(II)V"⟩
abbrev cX8_take : ByteArray := prog_10_method_11_code
def yX8_take : MethodName := ⟨RX8, "take", "()V"⟩
abbrev cX8_isThing : ByteArray := prog_10_method_12_code
def yX8_isThing : MethodName := ⟨RX8, "isThing", "(I)Z"⟩
abbrev cX8_isOne : ByteArray := prog_10_method_13_code
def yX8_isOne : MethodName := ⟨RX8, "isOne", "(I)Z"⟩
abbrev cX8_weighsBy : ByteArray := prog_10_method_14_code
def yX8_weighsBy : MethodName := ⟨RX8, "weighsBy", "(III)I"⟩
abbrev cX8_liftsBy : ByteArray := prog_10_method_15_code
def yX8_liftsBy : MethodName := ⟨RX8, "liftsBy", "(III)I"⟩
abbrev cX8_weighsOf : ByteArray := prog_10_method_16_code
def yX8_weighsOf : MethodName := ⟨RX8, "weighsOf", "(III)I"⟩
abbrev cX8_liftsOf : ByteArray := prog_10_method_17_code
def yX8_liftsOf : MethodName := ⟨RX8, "liftsOf", "(III)I"⟩
abbrev cX8_isHeld : ByteArray := prog_10_method_18_code
def yX8_isHeld : MethodName := ⟨RX8, "isHeld", "(I[III)Z"⟩
abbrev cX8_passOn : ByteArray := prog_10_method_19_code
def yX8_passOn : MethodName := ⟨RX8, "passOn", "(I[II)V"⟩
abbrev cX8_hereOf : ByteArray := prog_10_method_20_code
def yX8_hereOf : MethodName := ⟨RX8, "hereOf", "([II)I"⟩
abbrev cX8_ownerOf : ByteArray := prog_10_method_21_code
def yX8_ownerOf : MethodName := ⟨RX8, "ownerOf", "(I[III)I"⟩
abbrev cX8_people : ByteArray := prog_10_method_22_code
def yX8_people : MethodName := ⟨RX8, "people", "()I"⟩
abbrev cX8_add : ByteArray := prog_10_method_23_code
def yX8_add : MethodName := ⟨RX8, "add", "(III)I"⟩
abbrev cX8_thing : ByteArray := prog_10_method_24_code
def yX8_thing : MethodName := ⟨RX8, "thing", "(II)I"⟩
abbrev cX8_join : ByteArray := prog_10_method_25_code
def yX8_join : MethodName := ⟨RX8, "join", "(IIII)I"⟩
abbrev cX8_one : ByteArray := prog_10_method_26_code
def yX8_one : MethodName := ⟨RX8, "one", "(III)I"⟩
abbrev cX8_type : ByteArray := prog_10_method_27_code
def yX8_type : MethodName := ⟨RX8, "type", "(I)I"⟩
abbrev cX8_clear : ByteArray := prog_10_method_28_code
def yX8_clear : MethodName := ⟨RX8, "clear", "()I"⟩
abbrev cX8_here : ByteArray := prog_10_method_29_code
def yX8_here : MethodName := ⟨RX8, "here", "()I"⟩
abbrev cX8_spells : ByteArray := prog_10_method_30_code
def yX8_spells : MethodName := ⟨RX8, "spells", "(IIIIIII)Z"⟩
abbrev cX8_wordOf : ByteArray := prog_10_method_31_code
def yX8_wordOf : MethodName := ⟨RX8, "wordOf", "()I"⟩
abbrev cX8_step : ByteArray := prog_10_method_32_code
def yX8_step : MethodName := ⟨RX8, "step", "()V"⟩
abbrev cX8_due : ByteArray := prog_10_method_33_code
def yX8_due : MethodName := ⟨RX8, "due", "(Z)V"⟩
abbrev cX8_number : ByteArray := prog_10_method_34_code
def yX8_number : MethodName := ⟨RX8, "number", "(II)I"⟩
abbrev cX8_readThing : ByteArray := prog_10_method_35_code
def yX8_readThing : MethodName := ⟨RX8, "readThing", "()V"⟩
abbrev cX8_readOne : ByteArray := prog_10_method_36_code
def yX8_readOne : MethodName := ⟨RX8, "readOne", "()V"⟩
abbrev cX8_readOwn : ByteArray := prog_10_method_37_code
def yX8_readOwn : MethodName := ⟨RX8, "readOwn", "()V"⟩
abbrev cX8_readLeave : ByteArray := prog_10_method_38_code
def yX8_readLeave : MethodName := ⟨RX8, "readLeave", "()V"⟩
abbrev cX8_readYears : ByteArray := prog_10_method_39_code
def yX8_readYears : MethodName := ⟨RX8, "readYears", "()V"⟩
abbrev cX8_item : ByteArray := prog_10_method_40_code
def yX8_item : MethodName := ⟨RX8, "item", "(I)V"⟩
abbrev cX8_may : ByteArray := prog_10_method_41_code
def yX8_may : MethodName := ⟨RX8, "may", "(I)Z"⟩
abbrev cX8_read : ByteArray := prog_10_method_42_code
def yX8_read : MethodName := ⟨RX8, "read", "()I"⟩
abbrev cX8_know : ByteArray := prog_10_method_43_code
def yX8_know : MethodName := ⟨RX8, "know", "()V"⟩
abbrev cX8_isLost : ByteArray := prog_10_method_44_code
def yX8_isLost : MethodName := ⟨RX8, "isLost", "(I)Z"⟩
abbrev cX8_owns : ByteArray := prog_10_method_45_code
def yX8_owns : MethodName := ⟨RX8, "owns", "(II)I"⟩
abbrev cX8_leaves : ByteArray := prog_10_method_46_code
def yX8_leaves : MethodName := ⟨RX8, "leaves", "(I)I"⟩
abbrev cX8_years : ByteArray := prog_10_method_47_code
def yX8_years : MethodName := ⟨RX8, "years", "(I)I"⟩
abbrev cX8_undo : ByteArray := prog_10_method_48_code
def yX8_undo : MethodName := ⟨RX8, "undo", "()I"⟩
abbrev cX8_told : ByteArray := prog_10_method_49_code
def yX8_told : MethodName := ⟨RX8, "told", "(II)I"⟩
abbrev cX8_of : ByteArray := prog_10_method_50_code
def yX8_of : MethodName := ⟨RX8, "of", "(II)I"⟩
abbrev cX8_about : ByteArray := prog_10_method_51_code
def yX8_about : MethodName := ⟨RX8, "about", "(II)I"⟩
abbrev cX8_ageIn : ByteArray := prog_10_method_52_code
def yX8_ageIn : MethodName := ⟨RX8, "ageIn", "(II)I"⟩
abbrev cX8_liftsIn : ByteArray := prog_10_method_53_code
def yX8_liftsIn : MethodName := ⟨RX8, "liftsIn", "(II)I"⟩
abbrev cX8_weighsIn : ByteArray := prog_10_method_54_code
def yX8_weighsIn : MethodName := ⟨RX8, "weighsIn", "(II)I"⟩
abbrev cX8_lifts : ByteArray := prog_10_method_55_code
def yX8_lifts : MethodName := ⟨RX8, "lifts", "(II)I"⟩
abbrev cX8_weighs : ByteArray := prog_10_method_56_code
def yX8_weighs : MethodName := ⟨RX8, "weighs", "(II)I"⟩
abbrev cX8_held : ByteArray := prog_10_method_57_code
def yX8_held : MethodName := ⟨RX8, "held", "()I"⟩
abbrev cX8_left : ByteArray := prog_10_method_58_code
def yX8_left : MethodName := ⟨RX8, "left", "(I)I"⟩
abbrev cX8_when : ByteArray := prog_10_method_59_code
def yX8_when : MethodName := ⟨RX8, "when", "(I)I"⟩
abbrev cX8_longOf : ByteArray := prog_10_method_60_code
def yX8_longOf : MethodName := ⟨RX8, "longOf", "(II)I"⟩
abbrev cX8_lasts : ByteArray := prog_10_method_61_code
def yX8_lasts : MethodName := ⟨RX8, "lasts", "(II)I"⟩
abbrev cX8_tellMost : ByteArray := prog_10_method_62_code
def yX8_tellMost : MethodName := ⟨RX8, "tellMost", "(I)V"⟩
abbrev cX8_match : ByteArray := prog_10_method_63_code
def yX8_match : MethodName := ⟨RX8, "match", "(II)I"⟩
abbrev cX8_light : ByteArray := prog_10_method_64_code
def yX8_light : MethodName := ⟨RX8, "light", "(I)I"⟩
abbrev cX8_doTwo : ByteArray := prog_10_method_65_code
def yX8_doTwo : MethodName := ⟨RX8, "doTwo", "(III)Z"⟩
abbrev cX8_two : ByteArray := prog_10_method_66_code
def yX8_two : MethodName := ⟨RX8, "two", "(II)I"⟩
abbrev cX8_tell4 : ByteArray := prog_10_method_67_code
def yX8_tell4 : MethodName := ⟨RX8, "tell4", "(IIIIII)I"⟩
abbrev cX8_seen : ByteArray := prog_10_method_68_code
def yX8_seen : MethodName := ⟨RX8, "seen", "(IIII)I"⟩
abbrev cX8_strengthsOf : ByteArray := prog_10_method_69_code
def yX8_strengthsOf : MethodName := ⟨RX8, "strengthsOf", "(I)I"⟩
abbrev cX8_strong : ByteArray := prog_10_method_70_code
def yX8_strong : MethodName := ⟨RX8, "strong", "(II)I"⟩
abbrev cX8_tell : ByteArray := prog_10_method_71_code
def yX8_tell : MethodName := ⟨RX8, "tell", "(I)I"⟩
abbrev cX8_note : ByteArray := prog_10_method_72_code
def yX8_note : MethodName := ⟨RX8, "note", "(IIII)I"⟩
abbrev cX8_mark : ByteArray := prog_10_method_73_code
def yX8_mark : MethodName := ⟨RX8, "mark", "(IIII)I"⟩
abbrev cX8_forget : ByteArray := prog_10_method_74_code
def yX8_forget : MethodName := ⟨RX8, "forget", "(I)I"⟩
abbrev cX8_kindsOf : ByteArray := prog_10_method_75_code
def yX8_kindsOf : MethodName := ⟨RX8, "kindsOf", "(IZ)I"⟩
abbrev cX8_is : ByteArray := prog_10_method_76_code
def yX8_is : MethodName := ⟨RX8, "is", "(I)I"⟩
abbrev cX8_kinds : ByteArray := prog_10_method_77_code
def yX8_kinds : MethodName := ⟨RX8, "kinds", "(I)I"⟩
abbrev cX8_partBy : ByteArray := prog_10_method_78_code
def yX8_partBy : MethodName := ⟨RX8, "partBy", "(IIIZ)I"⟩
abbrev cX8_look : ByteArray := prog_10_method_79_code
def yX8_look : MethodName := ⟨RX8, "look", "(I)I"⟩
abbrev cX8_ask : ByteArray := prog_10_method_80_code
def yX8_ask : MethodName := ⟨RX8, "ask", "(I)I"⟩
abbrev cX8_gets : ByteArray := prog_10_method_81_code
def yX8_gets : MethodName := ⟨RX8, "gets", "(ZZZZZ)I"⟩
abbrev cX8_tries : ByteArray := prog_10_method_82_code
def yX8_tries : MethodName := ⟨RX8, "tries", "(III)I"⟩
abbrev cX8_fraction : ByteArray := prog_10_method_83_code
def yX8_fraction : MethodName := ⟨RX8, "fraction", "(JJ)V"⟩
abbrev cX8_shout : ByteArray := prog_10_method_84_code
def yX8_shout : MethodName := ⟨RX8, "shout", "(III)I"⟩
abbrev cX8_centuries : ByteArray := prog_10_method_85_code
def yX8_centuries : MethodName := ⟨RX8, "centuries", "(II)I"⟩
abbrev cX8_part : ByteArray := prog_10_method_86_code
def yX8_part : MethodName := ⟨RX8, "part", "(I)J"⟩
abbrev cX8_image : ByteArray := prog_10_method_87_code
def yX8_image : MethodName := ⟨RX8, "image", "(I)I"⟩
abbrev cX8_from : ByteArray := prog_10_method_88_code
def yX8_from : MethodName := ⟨RX8, "from", "(I)I"⟩
abbrev cX8_status : ByteArray := prog_10_method_89_code
def yX8_status : MethodName := ⟨RX8, "status", "(I)I"⟩
abbrev cX8_many : ByteArray := prog_10_method_90_code
def yX8_many : MethodName := ⟨RX8, "many", "(I)I"⟩
abbrev cX8_count : ByteArray := prog_10_method_91_code
def yX8_count : MethodName := ⟨RX8, "count", "(I)I"⟩
abbrev cX8_digest : ByteArray := prog_10_method_92_code
def yX8_digest : MethodName := ⟨RX8, "digest", "()J"⟩
def RJ6 : String := "java/lang/Integer"
def TJ6 : u_T := fun k => match k with
  | _ => ("", "", "", false)
def tyJ6 : Nat → FieldType := fun k => match k with
  | _ => .int
abbrev wsJ60 : List Cond := u_ws RJ6 TJ6 0
theorem nmJ6 : ∀ a, a < 0 → ∀ b, b < 0 → a ≠ b → (TJ6 a).2.1 ≠ (TJ6 b).2.1 := by decide +kernel
theorem tyJ6_ok : ∀ k, k < 0 → parseFieldDescriptor (TJ6 k).2.2.1 = some (tyJ6 k) := by decide +kernel
abbrev cJ6_bitCount_0f7a4 : ByteArray := prog_11_method_49_code
def yJ6_bitCount_0f7a4 : MethodName := ⟨RJ6, "bitCount", "(I)I"⟩
def RJ9 : String := "java/lang/Math"
def TJ9 : u_T := fun k => match k with
  | _ => ("", "", "", false)
def tyJ9 : Nat → FieldType := fun k => match k with
  | _ => .int
abbrev wsJ90 : List Cond := u_ws RJ9 TJ9 0
theorem nmJ9 : ∀ a, a < 0 → ∀ b, b < 0 → a ≠ b → (TJ9 a).2.1 ≠ (TJ9 b).2.1 := by decide +kernel
theorem tyJ9_ok : ∀ k, k < 0 → parseFieldDescriptor (TJ9 k).2.2.1 = some (tyJ9 k) := by decide +kernel
abbrev cJ9_max_7cf53 : ByteArray := prog_12_method_65_code
def yJ9_max_7cf53 : MethodName := ⟨RJ9, "max", "(II)I"⟩
abbrev cJ9_min_7cf53 : ByteArray := prog_12_method_69_code
def yJ9_min_7cf53 : MethodName := ⟨RJ9, "min", "(II)I"⟩
def RJ0 : String := "java/lang/String"
def TJ0 : u_T := fun k => match k with
  | _ => ("", "", "", false)
def tyJ0 : Nat → FieldType := fun k => match k with
  | _ => .int
abbrev wsJ00 : List Cond := u_ws RJ0 TJ0 0
theorem nmJ0 : ∀ a, a < 0 → ∀ b, b < 0 → a ≠ b → (TJ0 a).2.1 ≠ (TJ0 b).2.1 := by decide +kernel
theorem tyJ0_ok : ∀ k, k < 0 → parseFieldDescriptor (TJ0 k).2.2.1 = some (tyJ0 k) := by decide +kernel
abbrev cJ0_length_8abf5 : ByteArray := prog_13_method_54_code
def yJ0_length_8abf5 : MethodName := ⟨RJ0, "length", "()I"⟩
abbrev cJ0_charAt_5068e : ByteArray := prog_13_method_56_code
def yJ0_charAt_5068e : MethodName := ⟨RJ0, "charAt", "(I)C"⟩
abbrev cJ0_coder_7d493 : ByteArray := prog_13_method_152_code
def yJ0_coder_7d493 : MethodName := ⟨RJ0, "coder", "()B"⟩
abbrev cJ0_isLatin1_aae02 : ByteArray := prog_13_method_154_code
def yJ0_isLatin1_aae02 : MethodName := ⟨RJ0, "isLatin1", "()Z"⟩
abbrev cJ0_checkIndex_df160 : ByteArray := prog_13_method_155_code
def yJ0_checkIndex_df160 : MethodName := ⟨RJ0, "checkIndex", "(II)V"⟩
def RJ1 : String := "java/lang/StringLatin1"
def TJ1 : u_T := fun k => match k with
  | _ => ("", "", "", false)
def tyJ1 : Nat → FieldType := fun k => match k with
  | _ => .int
abbrev wsJ10 : List Cond := u_ws RJ1 TJ1 0
theorem nmJ1 : ∀ a, a < 0 → ∀ b, b < 0 → a ≠ b → (TJ1 a).2.1 ≠ (TJ1 b).2.1 := by decide +kernel
theorem tyJ1_ok : ∀ k, k < 0 → parseFieldDescriptor (TJ1 k).2.2.1 = some (tyJ1 k) := by decide +kernel
abbrev cJ1_charAt_3b067 : ByteArray := prog_14_method_2_code
def yJ1_charAt_3b067 : MethodName := ⟨RJ1, "charAt", "([BI)C"⟩
def RJ2 : String := "java/lang/StringUTF16"
def TJ2 : u_T := fun k => match k with
  | _ => ("", "", "", false)
def tyJ2 : Nat → FieldType := fun k => match k with
  | _ => .int
abbrev wsJ20 : List Cond := u_ws RJ2 TJ2 0
theorem nmJ2 : ∀ a, a < 0 → ∀ b, b < 0 → a ≠ b → (TJ2 a).2.1 ≠ (TJ2 b).2.1 := by decide +kernel
theorem tyJ2_ok : ∀ k, k < 0 → parseFieldDescriptor (TJ2 k).2.2.1 = some (tyJ2 k) := by decide +kernel
abbrev cJ2_getChar_3b067 : ByteArray := prog_15_method_5_code
def yJ2_getChar_3b067 : MethodName := ⟨RJ2, "getChar", "([BI)C"⟩
abbrev cJ2_length_9d52b : ByteArray := prog_15_method_6_code
def yJ2_length_9d52b : MethodName := ⟨RJ2, "length", "([B)I"⟩
abbrev cJ2_charAt_3b067 : ByteArray := prog_15_method_83_code
def yJ2_charAt_3b067 : MethodName := ⟨RJ2, "charAt", "([BI)C"⟩
abbrev cJ2_checkIndex_2214a : ByteArray := prog_15_method_91_code
def yJ2_checkIndex_2214a : MethodName := ⟨RJ2, "checkIndex", "(I[B)V"⟩
def RJ3 : String := "jdk/internal/util/Preconditions"
def TJ3 : u_T := fun k => match k with
  | _ => ("", "", "", false)
def tyJ3 : Nat → FieldType := fun k => match k with
  | _ => .int
abbrev wsJ30 : List Cond := u_ws RJ3 TJ3 0
theorem nmJ3 : ∀ a, a < 0 → ∀ b, b < 0 → a ≠ b → (TJ3 a).2.1 ≠ (TJ3 b).2.1 := by decide +kernel
theorem tyJ3_ok : ∀ k, k < 0 → parseFieldDescriptor (TJ3 k).2.2.1 = some (tyJ3 k) := by decide +kernel
abbrev cJ3_checkIndex_8e157 : ByteArray := prog_16_method_11_code
def yJ3_checkIndex_8e157 : MethodName := ⟨RJ3, "checkIndex", "(IILjava/util/function/BiFunction;)I"⟩
def RL : String := "StoneHeldLaw"
abbrev cL_law : ByteArray := code
def yL_law : MethodName := ⟨RL, "law", "([I)Z"⟩
end
section
theorem dX0_init_0 : decode cX0_init 0 = .ok (.aload_n 0, 1) := by decide +kernel
theorem dX0_init_1 : decode cX0_init 1 = .ok (.invokespecial 3, 3) := by decide +kernel
theorem dX0_init_4 : decode cX0_init 4 = .ok (.aload_n 0, 1) := by decide +kernel
theorem dX0_init_5 : decode cX0_init 5 = .ok (.bipush 9, 2) := by decide +kernel
theorem dX0_init_7 : decode cX0_init 7 = .ok (.newarray .int, 2) := by decide +kernel
theorem dX0_init_9 : decode cX0_init 9 = .ok (.putfield 9, 3) := by decide +kernel
theorem dX0_init_12 : decode cX0_init 12 = .ok (.return_, 1) := by decide +kernel
theorem dX0_fillByStrength_0 : decode cX0_fillByStrength 0 = .ok (.aload_n 0, 1) := by decide +kernel
theorem dX0_fillByStrength_1 : decode cX0_fillByStrength 1 = .ok (.iconst 0, 1) := by decide +kernel
theorem dX0_fillByStrength_2 : decode cX0_fillByStrength 2 = .ok (.putfield 15, 3) := by decide +kernel
theorem dX0_fillByStrength_5 : decode cX0_fillByStrength 5 = .ok (.iconst 1, 1) := by decide +kernel
theorem dX0_fillByStrength_6 : decode cX0_fillByStrength 6 = .ok (.istore 4, 2) := by decide +kernel
theorem dX0_fillByStrength_8 : decode cX0_fillByStrength 8 = .ok (.iload 4, 2) := by decide +kernel
theorem dX0_fillByStrength_10 : decode cX0_fillByStrength 10 = .ok (.bipush 9, 2) := by decide +kernel
theorem dX0_fillByStrength_12 : decode cX0_fillByStrength 12 = .ok (.if_icmp .gt 30, 3) := by decide +kernel
theorem dX0_fillByStrength_15 : decode cX0_fillByStrength 15 = .ok (.iload_n 2, 1) := by decide +kernel
theorem dX0_fillByStrength_16 : decode cX0_fillByStrength 16 = .ok (.iload 4, 2) := by decide +kernel
theorem dX0_fillByStrength_18 : decode cX0_fillByStrength 18 = .ok (.ishr, 1) := by decide +kernel
theorem dX0_fillByStrength_19 : decode cX0_fillByStrength 19 = .ok (.iconst 1, 1) := by decide +kernel
theorem dX0_fillByStrength_20 : decode cX0_fillByStrength 20 = .ok (.iand, 1) := by decide +kernel
theorem dX0_fillByStrength_21 : decode cX0_fillByStrength 21 = .ok (.iconst 1, 1) := by decide +kernel
theorem dX0_fillByStrength_22 : decode cX0_fillByStrength 22 = .ok (.if_icmp .ne 14, 3) := by decide +kernel
theorem dX0_fillByStrength_25 : decode cX0_fillByStrength 25 = .ok (.aload_n 0, 1) := by decide +kernel
theorem dX0_fillByStrength_26 : decode cX0_fillByStrength 26 = .ok (.iload_n 1, 1) := by decide +kernel
theorem dX0_fillByStrength_27 : decode cX0_fillByStrength 27 = .ok (.iload 4, 2) := by decide +kernel
theorem dX0_fillByStrength_29 : decode cX0_fillByStrength 29 = .ok (.iload_n 3, 1) := by decide +kernel
theorem dX0_fillByStrength_30 : decode cX0_fillByStrength 30 = .ok (.invokestatic 19, 3) := by decide +kernel
theorem dX0_fillByStrength_33 : decode cX0_fillByStrength 33 = .ok (.invokevirtual 25, 3) := by decide +kernel
theorem dX0_fillByStrength_36 : decode cX0_fillByStrength 36 = .ok (.iinc 4 1, 3) := by decide +kernel
theorem dX0_fillByStrength_39 : decode cX0_fillByStrength 39 = .ok (.goto (-31), 3) := by decide +kernel
theorem dX0_fillByStrength_42 : decode cX0_fillByStrength 42 = .ok (.return_, 1) := by decide +kernel
theorem dX0_fillByThingKind_0 : decode cX0_fillByThingKind 0 = .ok (.aload_n 0, 1) := by decide +kernel
theorem dX0_fillByThingKind_1 : decode cX0_fillByThingKind 1 = .ok (.iconst 0, 1) := by decide +kernel
theorem dX0_fillByThingKind_2 : decode cX0_fillByThingKind 2 = .ok (.putfield 15, 3) := by decide +kernel
theorem dX0_fillByThingKind_5 : decode cX0_fillByThingKind 5 = .ok (.iconst 0, 1) := by decide +kernel
theorem dX0_fillByThingKind_6 : decode cX0_fillByThingKind 6 = .ok (.istore 4, 2) := by decide +kernel
theorem dX0_fillByThingKind_8 : decode cX0_fillByThingKind 8 = .ok (.iload 4, 2) := by decide +kernel
theorem dX0_fillByThingKind_10 : decode cX0_fillByThingKind 10 = .ok (.bipush 6, 2) := by decide +kernel
theorem dX0_fillByThingKind_12 : decode cX0_fillByThingKind 12 = .ok (.if_icmp .ge 30, 3) := by decide +kernel
theorem dX0_fillByThingKind_15 : decode cX0_fillByThingKind 15 = .ok (.iload_n 1, 1) := by decide +kernel
theorem dX0_fillByThingKind_16 : decode cX0_fillByThingKind 16 = .ok (.iload 4, 2) := by decide +kernel
theorem dX0_fillByThingKind_18 : decode cX0_fillByThingKind 18 = .ok (.ishr, 1) := by decide +kernel
theorem dX0_fillByThingKind_19 : decode cX0_fillByThingKind 19 = .ok (.iconst 1, 1) := by decide +kernel
theorem dX0_fillByThingKind_20 : decode cX0_fillByThingKind 20 = .ok (.iand, 1) := by decide +kernel
theorem dX0_fillByThingKind_21 : decode cX0_fillByThingKind 21 = .ok (.iconst 1, 1) := by decide +kernel
theorem dX0_fillByThingKind_22 : decode cX0_fillByThingKind 22 = .ok (.if_icmp .ne 14, 3) := by decide +kernel
theorem dX0_fillByThingKind_25 : decode cX0_fillByThingKind 25 = .ok (.aload_n 0, 1) := by decide +kernel
theorem dX0_fillByThingKind_26 : decode cX0_fillByThingKind 26 = .ok (.iload 4, 2) := by decide +kernel
theorem dX0_fillByThingKind_28 : decode cX0_fillByThingKind 28 = .ok (.iload_n 2, 1) := by decide +kernel
theorem dX0_fillByThingKind_29 : decode cX0_fillByThingKind 29 = .ok (.iload_n 3, 1) := by decide +kernel
theorem dX0_fillByThingKind_30 : decode cX0_fillByThingKind 30 = .ok (.invokestatic 29, 3) := by decide +kernel
theorem dX0_fillByThingKind_33 : decode cX0_fillByThingKind 33 = .ok (.invokevirtual 25, 3) := by decide +kernel
theorem dX0_fillByThingKind_36 : decode cX0_fillByThingKind 36 = .ok (.iinc 4 1, 3) := by decide +kernel
theorem dX0_fillByThingKind_39 : decode cX0_fillByThingKind 39 = .ok (.goto (-31), 3) := by decide +kernel
theorem dX0_fillByThingKind_42 : decode cX0_fillByThingKind 42 = .ok (.return_, 1) := by decide +kernel
theorem dX0_fillByOneKind_0 : decode cX0_fillByOneKind 0 = .ok (.aload_n 0, 1) := by decide +kernel
theorem dX0_fillByOneKind_1 : decode cX0_fillByOneKind 1 = .ok (.iconst 0, 1) := by decide +kernel
theorem dX0_fillByOneKind_2 : decode cX0_fillByOneKind 2 = .ok (.putfield 15, 3) := by decide +kernel
theorem dX0_fillByOneKind_5 : decode cX0_fillByOneKind 5 = .ok (.iconst 0, 1) := by decide +kernel
theorem dX0_fillByOneKind_6 : decode cX0_fillByOneKind 6 = .ok (.istore 4, 2) := by decide +kernel
theorem dX0_fillByOneKind_8 : decode cX0_fillByOneKind 8 = .ok (.iload 4, 2) := by decide +kernel
theorem dX0_fillByOneKind_10 : decode cX0_fillByOneKind 10 = .ok (.bipush 6, 2) := by decide +kernel
theorem dX0_fillByOneKind_12 : decode cX0_fillByOneKind 12 = .ok (.if_icmp .ge 30, 3) := by decide +kernel
theorem dX0_fillByOneKind_15 : decode cX0_fillByOneKind 15 = .ok (.iload_n 1, 1) := by decide +kernel
theorem dX0_fillByOneKind_16 : decode cX0_fillByOneKind 16 = .ok (.iload 4, 2) := by decide +kernel
theorem dX0_fillByOneKind_18 : decode cX0_fillByOneKind 18 = .ok (.ishr, 1) := by decide +kernel
theorem dX0_fillByOneKind_19 : decode cX0_fillByOneKind 19 = .ok (.iconst 1, 1) := by decide +kernel
theorem dX0_fillByOneKind_20 : decode cX0_fillByOneKind 20 = .ok (.iand, 1) := by decide +kernel
theorem dX0_fillByOneKind_21 : decode cX0_fillByOneKind 21 = .ok (.iconst 1, 1) := by decide +kernel
theorem dX0_fillByOneKind_22 : decode cX0_fillByOneKind 22 = .ok (.if_icmp .ne 14, 3) := by decide +kernel
theorem dX0_fillByOneKind_25 : decode cX0_fillByOneKind 25 = .ok (.aload_n 0, 1) := by decide +kernel
theorem dX0_fillByOneKind_26 : decode cX0_fillByOneKind 26 = .ok (.iload 4, 2) := by decide +kernel
theorem dX0_fillByOneKind_28 : decode cX0_fillByOneKind 28 = .ok (.iload_n 2, 1) := by decide +kernel
theorem dX0_fillByOneKind_29 : decode cX0_fillByOneKind 29 = .ok (.iload_n 3, 1) := by decide +kernel
theorem dX0_fillByOneKind_30 : decode cX0_fillByOneKind 30 = .ok (.invokestatic 19, 3) := by decide +kernel
theorem dX0_fillByOneKind_33 : decode cX0_fillByOneKind 33 = .ok (.invokevirtual 25, 3) := by decide +kernel
theorem dX0_fillByOneKind_36 : decode cX0_fillByOneKind 36 = .ok (.iinc 4 1, 3) := by decide +kernel
theorem dX0_fillByOneKind_39 : decode cX0_fillByOneKind 39 = .ok (.goto (-31), 3) := by decide +kernel
theorem dX0_fillByOneKind_42 : decode cX0_fillByOneKind 42 = .ok (.return_, 1) := by decide +kernel
theorem dX0_put_0 : decode cX0_put 0 = .ok (.aload_n 0, 1) := by decide +kernel
theorem dX0_put_1 : decode cX0_put 1 = .ok (.getfield 15, 3) := by decide +kernel
theorem dX0_put_4 : decode cX0_put 4 = .ok (.bipush 9, 2) := by decide +kernel
theorem dX0_put_6 : decode cX0_put 6 = .ok (.if_icmp .ge 23, 3) := by decide +kernel
theorem dX0_put_9 : decode cX0_put 9 = .ok (.aload_n 0, 1) := by decide +kernel
theorem dX0_put_10 : decode cX0_put 10 = .ok (.getfield 9, 3) := by decide +kernel
theorem dX0_put_13 : decode cX0_put 13 = .ok (.aload_n 0, 1) := by decide +kernel
theorem dX0_put_14 : decode cX0_put 14 = .ok (.getfield 15, 3) := by decide +kernel
theorem dX0_put_17 : decode cX0_put 17 = .ok (.iload_n 1, 1) := by decide +kernel
theorem dX0_put_18 : decode cX0_put 18 = .ok (.iastore, 1) := by decide +kernel
theorem dX0_put_19 : decode cX0_put 19 = .ok (.aload_n 0, 1) := by decide +kernel
theorem dX0_put_20 : decode cX0_put 20 = .ok (.dup, 1) := by decide +kernel
theorem dX0_put_21 : decode cX0_put 21 = .ok (.getfield 15, 3) := by decide +kernel
theorem dX0_put_24 : decode cX0_put 24 = .ok (.iconst 1, 1) := by decide +kernel
theorem dX0_put_25 : decode cX0_put 25 = .ok (.iadd, 1) := by decide +kernel
theorem dX0_put_26 : decode cX0_put 26 = .ok (.putfield 15, 3) := by decide +kernel
theorem dX0_put_29 : decode cX0_put 29 = .ok (.return_, 1) := by decide +kernel
theorem dX0_greaterPart_0 : decode cX0_greaterPart 0 = .ok (.iconst 0, 1) := by decide +kernel
theorem dX0_greaterPart_1 : decode cX0_greaterPart 1 = .ok (.istore_n 2, 1) := by decide +kernel
theorem dX0_greaterPart_2 : decode cX0_greaterPart 2 = .ok (.iconst 0, 1) := by decide +kernel
theorem dX0_greaterPart_3 : decode cX0_greaterPart 3 = .ok (.istore_n 3, 1) := by decide +kernel
theorem dX0_greaterPart_4 : decode cX0_greaterPart 4 = .ok (.iload_n 3, 1) := by decide +kernel
theorem dX0_greaterPart_5 : decode cX0_greaterPart 5 = .ok (.aload_n 0, 1) := by decide +kernel
theorem dX0_greaterPart_6 : decode cX0_greaterPart 6 = .ok (.getfield 15, 3) := by decide +kernel
theorem dX0_greaterPart_9 : decode cX0_greaterPart 9 = .ok (.if_icmp .ge 22, 3) := by decide +kernel
theorem dX0_greaterPart_12 : decode cX0_greaterPart 12 = .ok (.aload_n 0, 1) := by decide +kernel
theorem dX0_greaterPart_13 : decode cX0_greaterPart 13 = .ok (.getfield 9, 3) := by decide +kernel
theorem dX0_greaterPart_16 : decode cX0_greaterPart 16 = .ok (.iload_n 3, 1) := by decide +kernel
theorem dX0_greaterPart_17 : decode cX0_greaterPart 17 = .ok (.iaload, 1) := by decide +kernel
theorem dX0_greaterPart_18 : decode cX0_greaterPart 18 = .ok (.iload_n 1, 1) := by decide +kernel
theorem dX0_greaterPart_19 : decode cX0_greaterPart 19 = .ok (.if_icmp .lt 6, 3) := by decide +kernel
theorem dX0_greaterPart_22 : decode cX0_greaterPart 22 = .ok (.iinc 2 1, 3) := by decide +kernel
theorem dX0_greaterPart_25 : decode cX0_greaterPart 25 = .ok (.iinc 3 1, 3) := by decide +kernel
theorem dX0_greaterPart_28 : decode cX0_greaterPart 28 = .ok (.goto (-24), 3) := by decide +kernel
theorem dX0_greaterPart_31 : decode cX0_greaterPart 31 = .ok (.iload_n 2, 1) := by decide +kernel
theorem dX0_greaterPart_32 : decode cX0_greaterPart 32 = .ok (.aload_n 0, 1) := by decide +kernel
theorem dX0_greaterPart_33 : decode cX0_greaterPart 33 = .ok (.getfield 15, 3) := by decide +kernel
theorem dX0_greaterPart_36 : decode cX0_greaterPart 36 = .ok (.iload_n 2, 1) := by decide +kernel
theorem dX0_greaterPart_37 : decode cX0_greaterPart 37 = .ok (.isub, 1) := by decide +kernel
theorem dX0_greaterPart_38 : decode cX0_greaterPart 38 = .ok (.invokestatic 32, 3) := by decide +kernel
theorem dX0_greaterPart_41 : decode cX0_greaterPart 41 = .ok (.ireturn, 1) := by decide +kernel
theorem dX0_mostAlike_0 : decode cX0_mostAlike 0 = .ok (.iconst 0, 1) := by decide +kernel
theorem dX0_mostAlike_1 : decode cX0_mostAlike 1 = .ok (.istore_n 1, 1) := by decide +kernel
theorem dX0_mostAlike_2 : decode cX0_mostAlike 2 = .ok (.iconst 0, 1) := by decide +kernel
theorem dX0_mostAlike_3 : decode cX0_mostAlike 3 = .ok (.istore_n 2, 1) := by decide +kernel
theorem dX0_mostAlike_4 : decode cX0_mostAlike 4 = .ok (.iload_n 2, 1) := by decide +kernel
theorem dX0_mostAlike_5 : decode cX0_mostAlike 5 = .ok (.aload_n 0, 1) := by decide +kernel
theorem dX0_mostAlike_6 : decode cX0_mostAlike 6 = .ok (.getfield 15, 3) := by decide +kernel
theorem dX0_mostAlike_9 : decode cX0_mostAlike 9 = .ok (.if_icmp .ge 54, 3) := by decide +kernel
theorem dX0_mostAlike_12 : decode cX0_mostAlike 12 = .ok (.iconst 0, 1) := by decide +kernel
theorem dX0_mostAlike_13 : decode cX0_mostAlike 13 = .ok (.istore_n 3, 1) := by decide +kernel
theorem dX0_mostAlike_14 : decode cX0_mostAlike 14 = .ok (.iconst 0, 1) := by decide +kernel
theorem dX0_mostAlike_15 : decode cX0_mostAlike 15 = .ok (.istore 4, 2) := by decide +kernel
theorem dX0_mostAlike_17 : decode cX0_mostAlike 17 = .ok (.iload 4, 2) := by decide +kernel
theorem dX0_mostAlike_19 : decode cX0_mostAlike 19 = .ok (.aload_n 0, 1) := by decide +kernel
theorem dX0_mostAlike_20 : decode cX0_mostAlike 20 = .ok (.getfield 15, 3) := by decide +kernel
theorem dX0_mostAlike_23 : decode cX0_mostAlike 23 = .ok (.if_icmp .ge 28, 3) := by decide +kernel
theorem dX0_mostAlike_26 : decode cX0_mostAlike 26 = .ok (.aload_n 0, 1) := by decide +kernel
theorem dX0_mostAlike_27 : decode cX0_mostAlike 27 = .ok (.getfield 9, 3) := by decide +kernel
theorem dX0_mostAlike_30 : decode cX0_mostAlike 30 = .ok (.iload 4, 2) := by decide +kernel
theorem dX0_mostAlike_32 : decode cX0_mostAlike 32 = .ok (.iaload, 1) := by decide +kernel
theorem dX0_mostAlike_33 : decode cX0_mostAlike 33 = .ok (.aload_n 0, 1) := by decide +kernel
theorem dX0_mostAlike_34 : decode cX0_mostAlike 34 = .ok (.getfield 9, 3) := by decide +kernel
theorem dX0_mostAlike_37 : decode cX0_mostAlike 37 = .ok (.iload_n 2, 1) := by decide +kernel
theorem dX0_mostAlike_38 : decode cX0_mostAlike 38 = .ok (.iaload, 1) := by decide +kernel
theorem dX0_mostAlike_39 : decode cX0_mostAlike 39 = .ok (.if_icmp .ne 6, 3) := by decide +kernel
theorem dX0_mostAlike_42 : decode cX0_mostAlike 42 = .ok (.iinc 3 1, 3) := by decide +kernel
theorem dX0_mostAlike_45 : decode cX0_mostAlike 45 = .ok (.iinc 4 1, 3) := by decide +kernel
theorem dX0_mostAlike_48 : decode cX0_mostAlike 48 = .ok (.goto (-31), 3) := by decide +kernel
theorem dX0_mostAlike_51 : decode cX0_mostAlike 51 = .ok (.iload_n 1, 1) := by decide +kernel
theorem dX0_mostAlike_52 : decode cX0_mostAlike 52 = .ok (.iload_n 3, 1) := by decide +kernel
theorem dX0_mostAlike_53 : decode cX0_mostAlike 53 = .ok (.invokestatic 32, 3) := by decide +kernel
theorem dX0_mostAlike_56 : decode cX0_mostAlike 56 = .ok (.istore_n 1, 1) := by decide +kernel
theorem dX0_mostAlike_57 : decode cX0_mostAlike 57 = .ok (.iinc 2 1, 3) := by decide +kernel
theorem dX0_mostAlike_60 : decode cX0_mostAlike 60 = .ok (.goto (-56), 3) := by decide +kernel
theorem dX0_mostAlike_63 : decode cX0_mostAlike 63 = .ok (.iload_n 1, 1) := by decide +kernel
theorem dX0_mostAlike_64 : decode cX0_mostAlike 64 = .ok (.ireturn, 1) := by decide +kernel
theorem dX1_init_0 : decode cX1_init 0 = .ok (.aload_n 0, 1) := by decide +kernel
theorem dX1_init_1 : decode cX1_init 1 = .ok (.invokespecial 3, 3) := by decide +kernel
theorem dX1_init_4 : decode cX1_init 4 = .ok (.aload_n 0, 1) := by decide +kernel
theorem dX1_init_5 : decode cX1_init 5 = .ok (.bipush 7, 2) := by decide +kernel
theorem dX1_init_7 : decode cX1_init 7 = .ok (.newarray .int, 2) := by decide +kernel
theorem dX1_init_9 : decode cX1_init 9 = .ok (.putfield 9, 3) := by decide +kernel
theorem dX1_init_12 : decode cX1_init 12 = .ok (.aload_n 0, 1) := by decide +kernel
theorem dX1_init_13 : decode cX1_init 13 = .ok (.sipush 896, 3) := by decide +kernel
theorem dX1_init_16 : decode cX1_init 16 = .ok (.newarray .int, 2) := by decide +kernel
theorem dX1_init_18 : decode cX1_init 18 = .ok (.putfield 15, 3) := by decide +kernel
theorem dX1_init_21 : decode cX1_init 21 = .ok (.return_, 1) := by decide +kernel
theorem dX1_fill_0 : decode cX1_fill 0 = .ok (.aload_n 0, 1) := by decide +kernel
theorem dX1_fill_1 : decode cX1_fill 1 = .ok (.aload_n 1, 1) := by decide +kernel
theorem dX1_fill_2 : decode cX1_fill 2 = .ok (.getfield 18, 3) := by decide +kernel
theorem dX1_fill_5 : decode cX1_fill 5 = .ok (.putfield 24, 3) := by decide +kernel
theorem dX1_fill_8 : decode cX1_fill 8 = .ok (.aload_n 0, 1) := by decide +kernel
theorem dX1_fill_9 : decode cX1_fill 9 = .ok (.getfield 24, 3) := by decide +kernel
theorem dX1_fill_12 : decode cX1_fill 12 = .ok (.iconst 1, 1) := by decide +kernel
theorem dX1_fill_13 : decode cX1_fill 13 = .ok (.isub, 1) := by decide +kernel
theorem dX1_fill_14 : decode cX1_fill 14 = .ok (.istore_n 3, 1) := by decide +kernel
theorem dX1_fill_15 : decode cX1_fill 15 = .ok (.iload_n 3, 1) := by decide +kernel
theorem dX1_fill_16 : decode cX1_fill 16 = .ok (.ifCond .lt 61, 3) := by decide +kernel
theorem dX1_fill_19 : decode cX1_fill 19 = .ok (.aload_n 0, 1) := by decide +kernel
theorem dX1_fill_20 : decode cX1_fill 20 = .ok (.getfield 9, 3) := by decide +kernel
theorem dX1_fill_23 : decode cX1_fill 23 = .ok (.iload_n 3, 1) := by decide +kernel
theorem dX1_fill_24 : decode cX1_fill 24 = .ok (.aload_n 1, 1) := by decide +kernel
theorem dX1_fill_25 : decode cX1_fill 25 = .ok (.iload_n 3, 1) := by decide +kernel
theorem dX1_fill_26 : decode cX1_fill 26 = .ok (.iload_n 2, 1) := by decide +kernel
theorem dX1_fill_27 : decode cX1_fill 27 = .ok (.invokevirtual 25, 3) := by decide +kernel
theorem dX1_fill_30 : decode cX1_fill 30 = .ok (.iastore, 1) := by decide +kernel
theorem dX1_fill_31 : decode cX1_fill 31 = .ok (.iconst 0, 1) := by decide +kernel
theorem dX1_fill_32 : decode cX1_fill 32 = .ok (.istore 4, 2) := by decide +kernel
theorem dX1_fill_34 : decode cX1_fill 34 = .ok (.iload 4, 2) := by decide +kernel
theorem dX1_fill_36 : decode cX1_fill 36 = .ok (.iconst 1, 1) := by decide +kernel
theorem dX1_fill_37 : decode cX1_fill 37 = .ok (.aload_n 1, 1) := by decide +kernel
theorem dX1_fill_38 : decode cX1_fill 38 = .ok (.getfield 29, 3) := by decide +kernel
theorem dX1_fill_41 : decode cX1_fill 41 = .ok (.ishl, 1) := by decide +kernel
theorem dX1_fill_42 : decode cX1_fill 42 = .ok (.if_icmp .ge 29, 3) := by decide +kernel
theorem dX1_fill_45 : decode cX1_fill 45 = .ok (.aload_n 0, 1) := by decide +kernel
theorem dX1_fill_46 : decode cX1_fill 46 = .ok (.getfield 15, 3) := by decide +kernel
theorem dX1_fill_49 : decode cX1_fill 49 = .ok (.iload_n 3, 1) := by decide +kernel
theorem dX1_fill_50 : decode cX1_fill 50 = .ok (.sipush 128, 3) := by decide +kernel
theorem dX1_fill_53 : decode cX1_fill 53 = .ok (.imul, 1) := by decide +kernel
theorem dX1_fill_54 : decode cX1_fill 54 = .ok (.iload 4, 2) := by decide +kernel
theorem dX1_fill_56 : decode cX1_fill 56 = .ok (.iadd, 1) := by decide +kernel
theorem dX1_fill_57 : decode cX1_fill 57 = .ok (.aload_n 0, 1) := by decide +kernel
theorem dX1_fill_58 : decode cX1_fill 58 = .ok (.iload_n 3, 1) := by decide +kernel
theorem dX1_fill_59 : decode cX1_fill 59 = .ok (.iload 4, 2) := by decide +kernel
theorem dX1_fill_61 : decode cX1_fill 61 = .ok (.invokevirtual 32, 3) := by decide +kernel
theorem dX1_fill_64 : decode cX1_fill 64 = .ok (.iastore, 1) := by decide +kernel
theorem dX1_fill_65 : decode cX1_fill 65 = .ok (.iinc 4 1, 3) := by decide +kernel
theorem dX1_fill_68 : decode cX1_fill 68 = .ok (.goto (-34), 3) := by decide +kernel
theorem dX1_fill_71 : decode cX1_fill 71 = .ok (.iinc 3 (-1), 3) := by decide +kernel
theorem dX1_fill_74 : decode cX1_fill 74 = .ok (.goto (-59), 3) := by decide +kernel
theorem dX1_fill_77 : decode cX1_fill 77 = .ok (.return_, 1) := by decide +kernel
theorem dX1_best_0 : decode cX1_best 0 = .ok (.aload_n 0, 1) := by decide +kernel
theorem dX1_best_1 : decode cX1_best 1 = .ok (.iload_n 1, 1) := by decide +kernel
theorem dX1_best_2 : decode cX1_best 2 = .ok (.iconst 1, 1) := by decide +kernel
theorem dX1_best_3 : decode cX1_best 3 = .ok (.iadd, 1) := by decide +kernel
theorem dX1_best_4 : decode cX1_best 4 = .ok (.iload_n 2, 1) := by decide +kernel
theorem dX1_best_5 : decode cX1_best 5 = .ok (.invokevirtual 35, 3) := by decide +kernel
theorem dX1_best_8 : decode cX1_best 8 = .ok (.istore_n 3, 1) := by decide +kernel
theorem dX1_best_9 : decode cX1_best 9 = .ok (.aload_n 0, 1) := by decide +kernel
theorem dX1_best_10 : decode cX1_best 10 = .ok (.getfield 9, 3) := by decide +kernel
theorem dX1_best_13 : decode cX1_best 13 = .ok (.iload_n 1, 1) := by decide +kernel
theorem dX1_best_14 : decode cX1_best 14 = .ok (.iaload, 1) := by decide +kernel
theorem dX1_best_15 : decode cX1_best 15 = .ok (.iload_n 2, 1) := by decide +kernel
theorem dX1_best_16 : decode cX1_best 16 = .ok (.iand, 1) := by decide +kernel
theorem dX1_best_17 : decode cX1_best 17 = .ok (.istore 4, 2) := by decide +kernel
theorem dX1_best_19 : decode cX1_best 19 = .ok (.iconst 0, 1) := by decide +kernel
theorem dX1_best_20 : decode cX1_best 20 = .ok (.istore 5, 2) := by decide +kernel
theorem dX1_best_22 : decode cX1_best 22 = .ok (.iload 5, 2) := by decide +kernel
theorem dX1_best_24 : decode cX1_best 24 = .ok (.bipush 7, 2) := by decide +kernel
theorem dX1_best_26 : decode cX1_best 26 = .ok (.if_icmp .ge 43, 3) := by decide +kernel
theorem dX1_best_29 : decode cX1_best 29 = .ok (.iload 4, 2) := by decide +kernel
theorem dX1_best_31 : decode cX1_best 31 = .ok (.iload 5, 2) := by decide +kernel
theorem dX1_best_33 : decode cX1_best 33 = .ok (.ishr, 1) := by decide +kernel
theorem dX1_best_34 : decode cX1_best 34 = .ok (.iconst 1, 1) := by decide +kernel
theorem dX1_best_35 : decode cX1_best 35 = .ok (.iand, 1) := by decide +kernel
theorem dX1_best_36 : decode cX1_best 36 = .ok (.iconst 1, 1) := by decide +kernel
theorem dX1_best_37 : decode cX1_best 37 = .ok (.if_icmp .ne 26, 3) := by decide +kernel
theorem dX1_best_40 : decode cX1_best 40 = .ok (.aload_n 0, 1) := by decide +kernel
theorem dX1_best_41 : decode cX1_best 41 = .ok (.iload_n 1, 1) := by decide +kernel
theorem dX1_best_42 : decode cX1_best 42 = .ok (.iconst 1, 1) := by decide +kernel
theorem dX1_best_43 : decode cX1_best 43 = .ok (.iadd, 1) := by decide +kernel
theorem dX1_best_44 : decode cX1_best 44 = .ok (.iload_n 2, 1) := by decide +kernel
theorem dX1_best_45 : decode cX1_best 45 = .ok (.iconst 1, 1) := by decide +kernel
theorem dX1_best_46 : decode cX1_best 46 = .ok (.iload 5, 2) := by decide +kernel
theorem dX1_best_48 : decode cX1_best 48 = .ok (.ishl, 1) := by decide +kernel
theorem dX1_best_49 : decode cX1_best 49 = .ok (.iconst (-1), 1) := by decide +kernel
theorem dX1_best_50 : decode cX1_best 50 = .ok (.ixor, 1) := by decide +kernel
theorem dX1_best_51 : decode cX1_best 51 = .ok (.iand, 1) := by decide +kernel
theorem dX1_best_52 : decode cX1_best 52 = .ok (.invokevirtual 35, 3) := by decide +kernel
theorem dX1_best_55 : decode cX1_best 55 = .ok (.iload_n 3, 1) := by decide +kernel
theorem dX1_best_56 : decode cX1_best 56 = .ok (.if_icmp .ne 7, 3) := by decide +kernel
theorem dX1_best_59 : decode cX1_best 59 = .ok (.iload_n 3, 1) := by decide +kernel
theorem dX1_best_60 : decode cX1_best 60 = .ok (.iconst 1, 1) := by decide +kernel
theorem dX1_best_61 : decode cX1_best 61 = .ok (.iadd, 1) := by decide +kernel
theorem dX1_best_62 : decode cX1_best 62 = .ok (.ireturn, 1) := by decide +kernel
theorem dX1_best_63 : decode cX1_best 63 = .ok (.iinc 5 1, 3) := by decide +kernel
theorem dX1_best_66 : decode cX1_best 66 = .ok (.goto (-44), 3) := by decide +kernel
theorem dX1_best_69 : decode cX1_best 69 = .ok (.iload_n 3, 1) := by decide +kernel
theorem dX1_best_70 : decode cX1_best 70 = .ok (.ireturn, 1) := by decide +kernel
theorem dX1_most_0 : decode cX1_most 0 = .ok (.iload_n 1, 1) := by decide +kernel
theorem dX1_most_1 : decode cX1_most 1 = .ok (.aload_n 0, 1) := by decide +kernel
theorem dX1_most_2 : decode cX1_most 2 = .ok (.getfield 24, 3) := by decide +kernel
theorem dX1_most_5 : decode cX1_most 5 = .ok (.if_icmp .ge 18, 3) := by decide +kernel
theorem dX1_most_8 : decode cX1_most 8 = .ok (.aload_n 0, 1) := by decide +kernel
theorem dX1_most_9 : decode cX1_most 9 = .ok (.getfield 15, 3) := by decide +kernel
theorem dX1_most_12 : decode cX1_most 12 = .ok (.iload_n 1, 1) := by decide +kernel
theorem dX1_most_13 : decode cX1_most 13 = .ok (.sipush 128, 3) := by decide +kernel
theorem dX1_most_16 : decode cX1_most 16 = .ok (.imul, 1) := by decide +kernel
theorem dX1_most_17 : decode cX1_most 17 = .ok (.iload_n 2, 1) := by decide +kernel
theorem dX1_most_18 : decode cX1_most 18 = .ok (.iadd, 1) := by decide +kernel
theorem dX1_most_19 : decode cX1_most 19 = .ok (.iaload, 1) := by decide +kernel
theorem dX1_most_20 : decode cX1_most 20 = .ok (.goto 4, 3) := by decide +kernel
theorem dX1_most_23 : decode cX1_most 23 = .ok (.iconst 0, 1) := by decide +kernel
theorem dX1_most_24 : decode cX1_most 24 = .ok (.ireturn, 1) := by decide +kernel
theorem dX1_firstThingOf_0 : decode cX1_firstThingOf 0 = .ok (.iload_n 2, 1) := by decide +kernel
theorem dX1_firstThingOf_1 : decode cX1_firstThingOf 1 = .ok (.istore_n 3, 1) := by decide +kernel
theorem dX1_firstThingOf_2 : decode cX1_firstThingOf 2 = .ok (.iconst (-1), 1) := by decide +kernel
theorem dX1_firstThingOf_3 : decode cX1_firstThingOf 3 = .ok (.istore 4, 2) := by decide +kernel
theorem dX1_firstThingOf_5 : decode cX1_firstThingOf 5 = .ok (.iconst 0, 1) := by decide +kernel
theorem dX1_firstThingOf_6 : decode cX1_firstThingOf 6 = .ok (.istore 5, 2) := by decide +kernel
theorem dX1_firstThingOf_8 : decode cX1_firstThingOf 8 = .ok (.iload 5, 2) := by decide +kernel
theorem dX1_firstThingOf_10 : decode cX1_firstThingOf 10 = .ok (.iload_n 1, 1) := by decide +kernel
theorem dX1_firstThingOf_11 : decode cX1_firstThingOf 11 = .ok (.if_icmp .gt 33, 3) := by decide +kernel
theorem dX1_firstThingOf_14 : decode cX1_firstThingOf 14 = .ok (.aload_n 0, 1) := by decide +kernel
theorem dX1_firstThingOf_15 : decode cX1_firstThingOf 15 = .ok (.iload 5, 2) := by decide +kernel
theorem dX1_firstThingOf_17 : decode cX1_firstThingOf 17 = .ok (.iload_n 3, 1) := by decide +kernel
theorem dX1_firstThingOf_18 : decode cX1_firstThingOf 18 = .ok (.invokevirtual 38, 3) := by decide +kernel
theorem dX1_firstThingOf_21 : decode cX1_firstThingOf 21 = .ok (.istore 4, 2) := by decide +kernel
theorem dX1_firstThingOf_23 : decode cX1_firstThingOf 23 = .ok (.iload 4, 2) := by decide +kernel
theorem dX1_firstThingOf_25 : decode cX1_firstThingOf 25 = .ok (.iconst (-1), 1) := by decide +kernel
theorem dX1_firstThingOf_26 : decode cX1_firstThingOf 26 = .ok (.if_icmp .eq 12, 3) := by decide +kernel
theorem dX1_firstThingOf_29 : decode cX1_firstThingOf 29 = .ok (.iload_n 3, 1) := by decide +kernel
theorem dX1_firstThingOf_30 : decode cX1_firstThingOf 30 = .ok (.iconst 1, 1) := by decide +kernel
theorem dX1_firstThingOf_31 : decode cX1_firstThingOf 31 = .ok (.iload 4, 2) := by decide +kernel
theorem dX1_firstThingOf_33 : decode cX1_firstThingOf 33 = .ok (.ishl, 1) := by decide +kernel
theorem dX1_firstThingOf_34 : decode cX1_firstThingOf 34 = .ok (.iconst (-1), 1) := by decide +kernel
theorem dX1_firstThingOf_35 : decode cX1_firstThingOf 35 = .ok (.ixor, 1) := by decide +kernel
theorem dX1_firstThingOf_36 : decode cX1_firstThingOf 36 = .ok (.iand, 1) := by decide +kernel
theorem dX1_firstThingOf_37 : decode cX1_firstThingOf 37 = .ok (.istore_n 3, 1) := by decide +kernel
theorem dX1_firstThingOf_38 : decode cX1_firstThingOf 38 = .ok (.iinc 5 1, 3) := by decide +kernel
theorem dX1_firstThingOf_41 : decode cX1_firstThingOf 41 = .ok (.goto (-33), 3) := by decide +kernel
theorem dX1_firstThingOf_44 : decode cX1_firstThingOf 44 = .ok (.iload 4, 2) := by decide +kernel
theorem dX1_firstThingOf_46 : decode cX1_firstThingOf 46 = .ok (.ireturn, 1) := by decide +kernel
theorem dX1_firstThing_0 : decode cX1_firstThing 0 = .ok (.aload_n 0, 1) := by decide +kernel
theorem dX1_firstThing_1 : decode cX1_firstThing 1 = .ok (.iload_n 1, 1) := by decide +kernel
theorem dX1_firstThing_2 : decode cX1_firstThing 2 = .ok (.iload_n 2, 1) := by decide +kernel
theorem dX1_firstThing_3 : decode cX1_firstThing 3 = .ok (.invokevirtual 35, 3) := by decide +kernel
theorem dX1_firstThing_6 : decode cX1_firstThing 6 = .ok (.istore_n 3, 1) := by decide +kernel
theorem dX1_firstThing_7 : decode cX1_firstThing 7 = .ok (.aload_n 0, 1) := by decide +kernel
theorem dX1_firstThing_8 : decode cX1_firstThing 8 = .ok (.iload_n 1, 1) := by decide +kernel
theorem dX1_firstThing_9 : decode cX1_firstThing 9 = .ok (.iconst 1, 1) := by decide +kernel
theorem dX1_firstThing_10 : decode cX1_firstThing 10 = .ok (.iadd, 1) := by decide +kernel
theorem dX1_firstThing_11 : decode cX1_firstThing 11 = .ok (.iload_n 2, 1) := by decide +kernel
theorem dX1_firstThing_12 : decode cX1_firstThing 12 = .ok (.invokevirtual 35, 3) := by decide +kernel
theorem dX1_firstThing_15 : decode cX1_firstThing 15 = .ok (.iload_n 3, 1) := by decide +kernel
theorem dX1_firstThing_16 : decode cX1_firstThing 16 = .ok (.if_icmp .ne 5, 3) := by decide +kernel
theorem dX1_firstThing_19 : decode cX1_firstThing 19 = .ok (.iconst (-1), 1) := by decide +kernel
theorem dX1_firstThing_20 : decode cX1_firstThing 20 = .ok (.ireturn, 1) := by decide +kernel
theorem dX1_firstThing_21 : decode cX1_firstThing 21 = .ok (.aload_n 0, 1) := by decide +kernel
theorem dX1_firstThing_22 : decode cX1_firstThing 22 = .ok (.getfield 9, 3) := by decide +kernel
theorem dX1_firstThing_25 : decode cX1_firstThing 25 = .ok (.iload_n 1, 1) := by decide +kernel
theorem dX1_firstThing_26 : decode cX1_firstThing 26 = .ok (.iaload, 1) := by decide +kernel
theorem dX1_firstThing_27 : decode cX1_firstThing 27 = .ok (.iload_n 2, 1) := by decide +kernel
theorem dX1_firstThing_28 : decode cX1_firstThing 28 = .ok (.iand, 1) := by decide +kernel
theorem dX1_firstThing_29 : decode cX1_firstThing 29 = .ok (.istore 4, 2) := by decide +kernel
theorem dX1_firstThing_31 : decode cX1_firstThing 31 = .ok (.iconst 0, 1) := by decide +kernel
theorem dX1_firstThing_32 : decode cX1_firstThing 32 = .ok (.istore 5, 2) := by decide +kernel
theorem dX1_firstThing_34 : decode cX1_firstThing 34 = .ok (.iload 5, 2) := by decide +kernel
theorem dX1_firstThing_36 : decode cX1_firstThing 36 = .ok (.bipush 7, 2) := by decide +kernel
theorem dX1_firstThing_38 : decode cX1_firstThing 38 = .ok (.if_icmp .ge 44, 3) := by decide +kernel
theorem dX1_firstThing_41 : decode cX1_firstThing 41 = .ok (.iload 4, 2) := by decide +kernel
theorem dX1_firstThing_43 : decode cX1_firstThing 43 = .ok (.iload 5, 2) := by decide +kernel
theorem dX1_firstThing_45 : decode cX1_firstThing 45 = .ok (.ishr, 1) := by decide +kernel
theorem dX1_firstThing_46 : decode cX1_firstThing 46 = .ok (.iconst 1, 1) := by decide +kernel
theorem dX1_firstThing_47 : decode cX1_firstThing 47 = .ok (.iand, 1) := by decide +kernel
theorem dX1_firstThing_48 : decode cX1_firstThing 48 = .ok (.iconst 1, 1) := by decide +kernel
theorem dX1_firstThing_49 : decode cX1_firstThing 49 = .ok (.if_icmp .ne 27, 3) := by decide +kernel
theorem dX1_firstThing_52 : decode cX1_firstThing 52 = .ok (.aload_n 0, 1) := by decide +kernel
theorem dX1_firstThing_53 : decode cX1_firstThing 53 = .ok (.iload_n 1, 1) := by decide +kernel
theorem dX1_firstThing_54 : decode cX1_firstThing 54 = .ok (.iconst 1, 1) := by decide +kernel
theorem dX1_firstThing_55 : decode cX1_firstThing 55 = .ok (.iadd, 1) := by decide +kernel
theorem dX1_firstThing_56 : decode cX1_firstThing 56 = .ok (.iload_n 2, 1) := by decide +kernel
theorem dX1_firstThing_57 : decode cX1_firstThing 57 = .ok (.iconst 1, 1) := by decide +kernel
theorem dX1_firstThing_58 : decode cX1_firstThing 58 = .ok (.iload 5, 2) := by decide +kernel
theorem dX1_firstThing_60 : decode cX1_firstThing 60 = .ok (.ishl, 1) := by decide +kernel
theorem dX1_firstThing_61 : decode cX1_firstThing 61 = .ok (.iconst (-1), 1) := by decide +kernel
theorem dX1_firstThing_62 : decode cX1_firstThing 62 = .ok (.ixor, 1) := by decide +kernel
theorem dX1_firstThing_63 : decode cX1_firstThing 63 = .ok (.iand, 1) := by decide +kernel
theorem dX1_firstThing_64 : decode cX1_firstThing 64 = .ok (.invokevirtual 35, 3) := by decide +kernel
theorem dX1_firstThing_67 : decode cX1_firstThing 67 = .ok (.iconst 1, 1) := by decide +kernel
theorem dX1_firstThing_68 : decode cX1_firstThing 68 = .ok (.iadd, 1) := by decide +kernel
theorem dX1_firstThing_69 : decode cX1_firstThing 69 = .ok (.iload_n 3, 1) := by decide +kernel
theorem dX1_firstThing_70 : decode cX1_firstThing 70 = .ok (.if_icmp .ne 6, 3) := by decide +kernel
theorem dX1_firstThing_73 : decode cX1_firstThing 73 = .ok (.iload 5, 2) := by decide +kernel
theorem dX1_firstThing_75 : decode cX1_firstThing 75 = .ok (.ireturn, 1) := by decide +kernel
theorem dX1_firstThing_76 : decode cX1_firstThing 76 = .ok (.iinc 5 1, 3) := by decide +kernel
theorem dX1_firstThing_79 : decode cX1_firstThing 79 = .ok (.goto (-45), 3) := by decide +kernel
theorem dX1_firstThing_82 : decode cX1_firstThing 82 = .ok (.iconst (-1), 1) := by decide +kernel
theorem dX1_firstThing_83 : decode cX1_firstThing 83 = .ok (.ireturn, 1) := by decide +kernel
theorem dX2_init_0 : decode cX2_init 0 = .ok (.aload_n 0, 1) := by decide +kernel
theorem dX2_init_1 : decode cX2_init 1 = .ok (.invokespecial 3, 3) := by decide +kernel
theorem dX2_init_4 : decode cX2_init 4 = .ok (.aload_n 0, 1) := by decide +kernel
theorem dX2_init_5 : decode cX2_init 5 = .ok (.bipush 7, 2) := by decide +kernel
theorem dX2_init_7 : decode cX2_init 7 = .ok (.newarray .int, 2) := by decide +kernel
theorem dX2_init_9 : decode cX2_init 9 = .ok (.putfield 9, 3) := by decide +kernel
theorem dX2_init_12 : decode cX2_init 12 = .ok (.aload_n 0, 1) := by decide +kernel
theorem dX2_init_13 : decode cX2_init 13 = .ok (.bipush 7, 2) := by decide +kernel
theorem dX2_init_15 : decode cX2_init 15 = .ok (.newarray .int, 2) := by decide +kernel
theorem dX2_init_17 : decode cX2_init 17 = .ok (.putfield 15, 3) := by decide +kernel
theorem dX2_init_20 : decode cX2_init 20 = .ok (.iconst 0, 1) := by decide +kernel
theorem dX2_init_21 : decode cX2_init 21 = .ok (.istore_n 1, 1) := by decide +kernel
theorem dX2_init_22 : decode cX2_init 22 = .ok (.iload_n 1, 1) := by decide +kernel
theorem dX2_init_23 : decode cX2_init 23 = .ok (.bipush 7, 2) := by decide +kernel
theorem dX2_init_25 : decode cX2_init 25 = .ok (.if_icmp .ge 16, 3) := by decide +kernel
theorem dX2_init_28 : decode cX2_init 28 = .ok (.aload_n 0, 1) := by decide +kernel
theorem dX2_init_29 : decode cX2_init 29 = .ok (.getfield 15, 3) := by decide +kernel
theorem dX2_init_32 : decode cX2_init 32 = .ok (.iload_n 1, 1) := by decide +kernel
theorem dX2_init_33 : decode cX2_init 33 = .ok (.iconst (-1), 1) := by decide +kernel
theorem dX2_init_34 : decode cX2_init 34 = .ok (.iastore, 1) := by decide +kernel
theorem dX2_init_35 : decode cX2_init 35 = .ok (.iinc 1 1, 3) := by decide +kernel
theorem dX2_init_38 : decode cX2_init 38 = .ok (.goto (-16), 3) := by decide +kernel
theorem dX2_init_41 : decode cX2_init 41 = .ok (.return_, 1) := by decide +kernel
theorem dX2_copyFrom_0 : decode cX2_copyFrom 0 = .ok (.iconst 0, 1) := by decide +kernel
theorem dX2_copyFrom_1 : decode cX2_copyFrom 1 = .ok (.istore_n 2, 1) := by decide +kernel
theorem dX2_copyFrom_2 : decode cX2_copyFrom 2 = .ok (.iload_n 2, 1) := by decide +kernel
theorem dX2_copyFrom_3 : decode cX2_copyFrom 3 = .ok (.bipush 7, 2) := by decide +kernel
theorem dX2_copyFrom_5 : decode cX2_copyFrom 5 = .ok (.if_icmp .ge 33, 3) := by decide +kernel
theorem dX2_copyFrom_8 : decode cX2_copyFrom 8 = .ok (.aload_n 0, 1) := by decide +kernel
theorem dX2_copyFrom_9 : decode cX2_copyFrom 9 = .ok (.getfield 9, 3) := by decide +kernel
theorem dX2_copyFrom_12 : decode cX2_copyFrom 12 = .ok (.iload_n 2, 1) := by decide +kernel
theorem dX2_copyFrom_13 : decode cX2_copyFrom 13 = .ok (.aload_n 1, 1) := by decide +kernel
theorem dX2_copyFrom_14 : decode cX2_copyFrom 14 = .ok (.getfield 9, 3) := by decide +kernel
theorem dX2_copyFrom_17 : decode cX2_copyFrom 17 = .ok (.iload_n 2, 1) := by decide +kernel
theorem dX2_copyFrom_18 : decode cX2_copyFrom 18 = .ok (.iaload, 1) := by decide +kernel
theorem dX2_copyFrom_19 : decode cX2_copyFrom 19 = .ok (.iastore, 1) := by decide +kernel
theorem dX2_copyFrom_20 : decode cX2_copyFrom 20 = .ok (.aload_n 0, 1) := by decide +kernel
theorem dX2_copyFrom_21 : decode cX2_copyFrom 21 = .ok (.getfield 15, 3) := by decide +kernel
theorem dX2_copyFrom_24 : decode cX2_copyFrom 24 = .ok (.iload_n 2, 1) := by decide +kernel
theorem dX2_copyFrom_25 : decode cX2_copyFrom 25 = .ok (.aload_n 1, 1) := by decide +kernel
theorem dX2_copyFrom_26 : decode cX2_copyFrom 26 = .ok (.getfield 15, 3) := by decide +kernel
theorem dX2_copyFrom_29 : decode cX2_copyFrom 29 = .ok (.iload_n 2, 1) := by decide +kernel
theorem dX2_copyFrom_30 : decode cX2_copyFrom 30 = .ok (.iaload, 1) := by decide +kernel
theorem dX2_copyFrom_31 : decode cX2_copyFrom 31 = .ok (.iastore, 1) := by decide +kernel
theorem dX2_copyFrom_32 : decode cX2_copyFrom 32 = .ok (.iinc 2 1, 3) := by decide +kernel
theorem dX2_copyFrom_35 : decode cX2_copyFrom 35 = .ok (.goto (-33), 3) := by decide +kernel
theorem dX2_copyFrom_38 : decode cX2_copyFrom 38 = .ok (.aload_n 0, 1) := by decide +kernel
theorem dX2_copyFrom_39 : decode cX2_copyFrom 39 = .ok (.aload_n 1, 1) := by decide +kernel
theorem dX2_copyFrom_40 : decode cX2_copyFrom 40 = .ok (.getfield 18, 3) := by decide +kernel
theorem dX2_copyFrom_43 : decode cX2_copyFrom 43 = .ok (.putfield 18, 3) := by decide +kernel
theorem dX2_copyFrom_46 : decode cX2_copyFrom 46 = .ok (.aload_n 0, 1) := by decide +kernel
theorem dX2_copyFrom_47 : decode cX2_copyFrom 47 = .ok (.aload_n 1, 1) := by decide +kernel
theorem dX2_copyFrom_48 : decode cX2_copyFrom 48 = .ok (.getfield 22, 3) := by decide +kernel
theorem dX2_copyFrom_51 : decode cX2_copyFrom 51 = .ok (.putfield 22, 3) := by decide +kernel
theorem dX2_copyFrom_54 : decode cX2_copyFrom 54 = .ok (.return_, 1) := by decide +kernel
theorem dX2_isHere_0 : decode cX2_isHere 0 = .ok (.aload_n 0, 1) := by decide +kernel
theorem dX2_isHere_1 : decode cX2_isHere 1 = .ok (.getfield 18, 3) := by decide +kernel
theorem dX2_isHere_4 : decode cX2_isHere 4 = .ok (.iload_n 1, 1) := by decide +kernel
theorem dX2_isHere_5 : decode cX2_isHere 5 = .ok (.ishr, 1) := by decide +kernel
theorem dX2_isHere_6 : decode cX2_isHere 6 = .ok (.iconst 1, 1) := by decide +kernel
theorem dX2_isHere_7 : decode cX2_isHere 7 = .ok (.iand, 1) := by decide +kernel
theorem dX2_isHere_8 : decode cX2_isHere 8 = .ok (.iconst 1, 1) := by decide +kernel
theorem dX2_isHere_9 : decode cX2_isHere 9 = .ok (.if_icmp .ne 7, 3) := by decide +kernel
theorem dX2_isHere_12 : decode cX2_isHere 12 = .ok (.iconst 1, 1) := by decide +kernel
theorem dX2_isHere_13 : decode cX2_isHere 13 = .ok (.goto 4, 3) := by decide +kernel
theorem dX2_isHere_16 : decode cX2_isHere 16 = .ok (.iconst 0, 1) := by decide +kernel
theorem dX2_isHere_17 : decode cX2_isHere 17 = .ok (.ireturn, 1) := by decide +kernel
theorem dX2_countHere_0 : decode cX2_countHere 0 = .ok (.aload_n 0, 1) := by decide +kernel
theorem dX2_countHere_1 : decode cX2_countHere 1 = .ok (.getfield 18, 3) := by decide +kernel
theorem dX2_countHere_4 : decode cX2_countHere 4 = .ok (.invokestatic 25, 3) := by decide +kernel
theorem dX2_countHere_7 : decode cX2_countHere 7 = .ok (.ireturn, 1) := by decide +kernel
theorem dX2_lose_0 : decode cX2_lose 0 = .ok (.aload_n 0, 1) := by decide +kernel
theorem dX2_lose_1 : decode cX2_lose 1 = .ok (.dup, 1) := by decide +kernel
theorem dX2_lose_2 : decode cX2_lose 2 = .ok (.getfield 18, 3) := by decide +kernel
theorem dX2_lose_5 : decode cX2_lose 5 = .ok (.iconst 1, 1) := by decide +kernel
theorem dX2_lose_6 : decode cX2_lose 6 = .ok (.iload_n 1, 1) := by decide +kernel
theorem dX2_lose_7 : decode cX2_lose 7 = .ok (.ishl, 1) := by decide +kernel
theorem dX2_lose_8 : decode cX2_lose 8 = .ok (.iconst (-1), 1) := by decide +kernel
theorem dX2_lose_9 : decode cX2_lose 9 = .ok (.ixor, 1) := by decide +kernel
theorem dX2_lose_10 : decode cX2_lose 10 = .ok (.iand, 1) := by decide +kernel
theorem dX2_lose_11 : decode cX2_lose 11 = .ok (.putfield 18, 3) := by decide +kernel
theorem dX2_lose_14 : decode cX2_lose 14 = .ok (.aload_n 0, 1) := by decide +kernel
theorem dX2_lose_15 : decode cX2_lose 15 = .ok (.getfield 15, 3) := by decide +kernel
theorem dX2_lose_18 : decode cX2_lose 18 = .ok (.iload_n 1, 1) := by decide +kernel
theorem dX2_lose_19 : decode cX2_lose 19 = .ok (.iconst (-1), 1) := by decide +kernel
theorem dX2_lose_20 : decode cX2_lose 20 = .ok (.iastore, 1) := by decide +kernel
theorem dX2_lose_21 : decode cX2_lose 21 = .ok (.return_, 1) := by decide +kernel
theorem dX2_growOlder_0 : decode cX2_growOlder 0 = .ok (.aload_n 0, 1) := by decide +kernel
theorem dX2_growOlder_1 : decode cX2_growOlder 1 = .ok (.getfield 9, 3) := by decide +kernel
theorem dX2_growOlder_4 : decode cX2_growOlder 4 = .ok (.iload_n 1, 1) := by decide +kernel
theorem dX2_growOlder_5 : decode cX2_growOlder 5 = .ok (.bipush 99, 2) := by decide +kernel
theorem dX2_growOlder_7 : decode cX2_growOlder 7 = .ok (.aload_n 0, 1) := by decide +kernel
theorem dX2_growOlder_8 : decode cX2_growOlder 8 = .ok (.getfield 9, 3) := by decide +kernel
theorem dX2_growOlder_11 : decode cX2_growOlder 11 = .ok (.iload_n 1, 1) := by decide +kernel
theorem dX2_growOlder_12 : decode cX2_growOlder 12 = .ok (.iaload, 1) := by decide +kernel
theorem dX2_growOlder_13 : decode cX2_growOlder 13 = .ok (.iconst 1, 1) := by decide +kernel
theorem dX2_growOlder_14 : decode cX2_growOlder 14 = .ok (.iadd, 1) := by decide +kernel
theorem dX2_growOlder_15 : decode cX2_growOlder 15 = .ok (.invokestatic 31, 3) := by decide +kernel
theorem dX2_growOlder_18 : decode cX2_growOlder 18 = .ok (.iastore, 1) := by decide +kernel
theorem dX2_growOlder_19 : decode cX2_growOlder 19 = .ok (.return_, 1) := by decide +kernel
theorem dX3_init_0 : decode cX3_init 0 = .ok (.aload_n 0, 1) := by decide +kernel
theorem dX3_init_1 : decode cX3_init 1 = .ok (.invokespecial 3, 3) := by decide +kernel
theorem dX3_init_4 : decode cX3_init 4 = .ok (.aload_n 0, 1) := by decide +kernel
theorem dX3_init_5 : decode cX3_init 5 = .ok (.sipush 150, 3) := by decide +kernel
theorem dX3_init_8 : decode cX3_init 8 = .ok (.newarray .int, 2) := by decide +kernel
theorem dX3_init_10 : decode cX3_init 10 = .ok (.putfield 9, 3) := by decide +kernel
theorem dX3_init_13 : decode cX3_init 13 = .ok (.aload_n 0, 1) := by decide +kernel
theorem dX3_init_14 : decode cX3_init 14 = .ok (.new 15, 3) := by decide +kernel
theorem dX3_init_17 : decode cX3_init 17 = .ok (.dup, 1) := by decide +kernel
theorem dX3_init_18 : decode cX3_init 18 = .ok (.invokespecial 17, 3) := by decide +kernel
theorem dX3_init_21 : decode cX3_init 21 = .ok (.putfield 18, 3) := by decide +kernel
theorem dX3_init_24 : decode cX3_init 24 = .ok (.return_, 1) := by decide +kernel
theorem dX3_append_0 : decode cX3_append 0 = .ok (.aload_n 0, 1) := by decide +kernel
theorem dX3_append_1 : decode cX3_append 1 = .ok (.getfield 9, 3) := by decide +kernel
theorem dX3_append_4 : decode cX3_append 4 = .ok (.aload_n 0, 1) := by decide +kernel
theorem dX3_append_5 : decode cX3_append 5 = .ok (.getfield 22, 3) := by decide +kernel
theorem dX3_append_8 : decode cX3_append 8 = .ok (.iload_n 1, 1) := by decide +kernel
theorem dX3_append_9 : decode cX3_append 9 = .ok (.iastore, 1) := by decide +kernel
theorem dX3_append_10 : decode cX3_append 10 = .ok (.aload_n 0, 1) := by decide +kernel
theorem dX3_append_11 : decode cX3_append 11 = .ok (.dup, 1) := by decide +kernel
theorem dX3_append_12 : decode cX3_append 12 = .ok (.getfield 22, 3) := by decide +kernel
theorem dX3_append_15 : decode cX3_append 15 = .ok (.iconst 1, 1) := by decide +kernel
theorem dX3_append_16 : decode cX3_append 16 = .ok (.iadd, 1) := by decide +kernel
theorem dX3_append_17 : decode cX3_append 17 = .ok (.putfield 22, 3) := by decide +kernel
theorem dX3_append_20 : decode cX3_append 20 = .ok (.aload_n 0, 1) := by decide +kernel
theorem dX3_append_21 : decode cX3_append 21 = .ok (.getfield 22, 3) := by decide +kernel
theorem dX3_append_24 : decode cX3_append 24 = .ok (.ireturn, 1) := by decide +kernel
theorem dX3_readItems_0 : decode cX3_readItems 0 = .ok (.aload_n 0, 1) := by decide +kernel
theorem dX3_readItems_1 : decode cX3_readItems 1 = .ok (.iconst 0, 1) := by decide +kernel
theorem dX3_readItems_2 : decode cX3_readItems 2 = .ok (.putfield 26, 3) := by decide +kernel
theorem dX3_readItems_5 : decode cX3_readItems 5 = .ok (.aload_n 0, 1) := by decide +kernel
theorem dX3_readItems_6 : decode cX3_readItems 6 = .ok (.getfield 18, 3) := by decide +kernel
theorem dX3_readItems_9 : decode cX3_readItems 9 = .ok (.invokevirtual 29, 3) := by decide +kernel
theorem dX3_readItems_12 : decode cX3_readItems 12 = .ok (.iconst 0, 1) := by decide +kernel
theorem dX3_readItems_13 : decode cX3_readItems 13 = .ok (.istore_n 1, 1) := by decide +kernel
theorem dX3_readItems_14 : decode cX3_readItems 14 = .ok (.iload_n 1, 1) := by decide +kernel
theorem dX3_readItems_15 : decode cX3_readItems 15 = .ok (.sipush 150, 3) := by decide +kernel
theorem dX3_readItems_18 : decode cX3_readItems 18 = .ok (.if_icmp .gt 52, 3) := by decide +kernel
theorem dX3_readItems_21 : decode cX3_readItems 21 = .ok (.aload_n 0, 1) := by decide +kernel
theorem dX3_readItems_22 : decode cX3_readItems 22 = .ok (.invokevirtual 32, 3) := by decide +kernel
theorem dX3_readItems_25 : decode cX3_readItems 25 = .ok (.aload_n 0, 1) := by decide +kernel
theorem dX3_readItems_26 : decode cX3_readItems 26 = .ok (.getfield 35, 3) := by decide +kernel
theorem dX3_readItems_29 : decode cX3_readItems 29 = .ok (.ifCond .ne 9, 3) := by decide +kernel
theorem dX3_readItems_32 : decode cX3_readItems 32 = .ok (.iload_n 1, 1) := by decide +kernel
theorem dX3_readItems_33 : decode cX3_readItems 33 = .ok (.ifCond .le 5, 3) := by decide +kernel
theorem dX3_readItems_36 : decode cX3_readItems 36 = .ok (.iload_n 1, 1) := by decide +kernel
theorem dX3_readItems_37 : decode cX3_readItems 37 = .ok (.ireturn, 1) := by decide +kernel
theorem dX3_readItems_38 : decode cX3_readItems 38 = .ok (.aload_n 0, 1) := by decide +kernel
theorem dX3_readItems_39 : decode cX3_readItems 39 = .ok (.iload_n 1, 1) := by decide +kernel
theorem dX3_readItems_40 : decode cX3_readItems 40 = .ok (.ifCond .ne 7, 3) := by decide +kernel
theorem dX3_readItems_43 : decode cX3_readItems 43 = .ok (.iconst 1, 1) := by decide +kernel
theorem dX3_readItems_44 : decode cX3_readItems 44 = .ok (.goto 4, 3) := by decide +kernel
theorem dX3_readItems_47 : decode cX3_readItems 47 = .ok (.iconst 0, 1) := by decide +kernel
theorem dX3_readItems_48 : decode cX3_readItems 48 = .ok (.invokevirtual 38, 3) := by decide +kernel
theorem dX3_readItems_51 : decode cX3_readItems 51 = .ok (.ifCond .eq 19, 3) := by decide +kernel
theorem dX3_readItems_54 : decode cX3_readItems 54 = .ok (.aload_n 0, 1) := by decide +kernel
theorem dX3_readItems_55 : decode cX3_readItems 55 = .ok (.invokevirtual 42, 3) := by decide +kernel
theorem dX3_readItems_58 : decode cX3_readItems 58 = .ok (.ifCond .ne 6, 3) := by decide +kernel
theorem dX3_readItems_61 : decode cX3_readItems 61 = .ok (.goto 9, 3) := by decide +kernel
theorem dX3_readItems_64 : decode cX3_readItems 64 = .ok (.iinc 1 1, 3) := by decide +kernel
theorem dX3_readItems_67 : decode cX3_readItems 67 = .ok (.goto (-53), 3) := by decide +kernel
theorem dX3_readItems_70 : decode cX3_readItems 70 = .ok (.bipush (-10), 2) := by decide +kernel
theorem dX3_readItems_72 : decode cX3_readItems 72 = .ok (.aload_n 0, 1) := by decide +kernel
theorem dX3_readItems_73 : decode cX3_readItems 73 = .ok (.getfield 46, 3) := by decide +kernel
theorem dX3_readItems_76 : decode cX3_readItems 76 = .ok (.isub, 1) := by decide +kernel
theorem dX3_readItems_77 : decode cX3_readItems 77 = .ok (.ireturn, 1) := by decide +kernel
theorem dX3_takeItem_0 : decode cX3_takeItem 0 = .ok (.iload_n 1, 1) := by decide +kernel
theorem dX3_takeItem_1 : decode cX3_takeItem 1 = .ok (.ifCond .eq 10, 3) := by decide +kernel
theorem dX3_takeItem_4 : decode cX3_takeItem 4 = .ok (.aload_n 0, 1) := by decide +kernel
theorem dX3_takeItem_5 : decode cX3_takeItem 5 = .ok (.ldc 49, 2) := by decide +kernel
theorem dX3_takeItem_7 : decode cX3_takeItem 7 = .ok (.invokevirtual 51, 3) := by decide +kernel
theorem dX3_takeItem_10 : decode cX3_takeItem 10 = .ok (.ireturn, 1) := by decide +kernel
theorem dX3_takeItem_11 : decode cX3_takeItem 11 = .ok (.aload_n 0, 1) := by decide +kernel
theorem dX3_takeItem_12 : decode cX3_takeItem 12 = .ok (.ldc 55, 2) := by decide +kernel
theorem dX3_takeItem_14 : decode cX3_takeItem 14 = .ok (.invokevirtual 51, 3) := by decide +kernel
theorem dX3_takeItem_17 : decode cX3_takeItem 17 = .ok (.ifCond .eq 8, 3) := by decide +kernel
theorem dX3_takeItem_20 : decode cX3_takeItem 20 = .ok (.aload_n 0, 1) := by decide +kernel
theorem dX3_takeItem_21 : decode cX3_takeItem 21 = .ok (.invokevirtual 57, 3) := by decide +kernel
theorem dX3_takeItem_24 : decode cX3_takeItem 24 = .ok (.ireturn, 1) := by decide +kernel
theorem dX3_takeItem_25 : decode cX3_takeItem 25 = .ok (.aload_n 0, 1) := by decide +kernel
theorem dX3_takeItem_26 : decode cX3_takeItem 26 = .ok (.ldc 60, 2) := by decide +kernel
theorem dX3_takeItem_28 : decode cX3_takeItem 28 = .ok (.invokevirtual 51, 3) := by decide +kernel
theorem dX3_takeItem_31 : decode cX3_takeItem 31 = .ok (.ifCond .eq 8, 3) := by decide +kernel
theorem dX3_takeItem_34 : decode cX3_takeItem 34 = .ok (.aload_n 0, 1) := by decide +kernel
theorem dX3_takeItem_35 : decode cX3_takeItem 35 = .ok (.invokevirtual 62, 3) := by decide +kernel
theorem dX3_takeItem_38 : decode cX3_takeItem 38 = .ok (.ireturn, 1) := by decide +kernel
theorem dX3_takeItem_39 : decode cX3_takeItem 39 = .ok (.aload_n 0, 1) := by decide +kernel
theorem dX3_takeItem_40 : decode cX3_takeItem 40 = .ok (.ldc 65, 2) := by decide +kernel
theorem dX3_takeItem_42 : decode cX3_takeItem 42 = .ok (.invokevirtual 51, 3) := by decide +kernel
theorem dX3_takeItem_45 : decode cX3_takeItem 45 = .ok (.ifCond .eq 8, 3) := by decide +kernel
theorem dX3_takeItem_48 : decode cX3_takeItem 48 = .ok (.aload_n 0, 1) := by decide +kernel
theorem dX3_takeItem_49 : decode cX3_takeItem 49 = .ok (.invokevirtual 67, 3) := by decide +kernel
theorem dX3_takeItem_52 : decode cX3_takeItem 52 = .ok (.ireturn, 1) := by decide +kernel
theorem dX3_takeItem_53 : decode cX3_takeItem 53 = .ok (.aload_n 0, 1) := by decide +kernel
theorem dX3_takeItem_54 : decode cX3_takeItem 54 = .ok (.ldc 70, 2) := by decide +kernel
theorem dX3_takeItem_56 : decode cX3_takeItem 56 = .ok (.invokevirtual 51, 3) := by decide +kernel
theorem dX3_takeItem_59 : decode cX3_takeItem 59 = .ok (.ifCond .eq 8, 3) := by decide +kernel
theorem dX3_takeItem_62 : decode cX3_takeItem 62 = .ok (.aload_n 0, 1) := by decide +kernel
theorem dX3_takeItem_63 : decode cX3_takeItem 63 = .ok (.invokevirtual 72, 3) := by decide +kernel
theorem dX3_takeItem_66 : decode cX3_takeItem 66 = .ok (.ireturn, 1) := by decide +kernel
theorem dX3_takeItem_67 : decode cX3_takeItem 67 = .ok (.aload_n 0, 1) := by decide +kernel
theorem dX3_takeItem_68 : decode cX3_takeItem 68 = .ok (.ldc 75, 2) := by decide +kernel
theorem dX3_takeItem_70 : decode cX3_takeItem 70 = .ok (.invokevirtual 51, 3) := by decide +kernel
theorem dX3_takeItem_73 : decode cX3_takeItem 73 = .ok (.ifCond .eq 14, 3) := by decide +kernel
theorem dX3_takeItem_76 : decode cX3_takeItem 76 = .ok (.aload_n 0, 1) := by decide +kernel
theorem dX3_takeItem_77 : decode cX3_takeItem 77 = .ok (.invokevirtual 77, 3) := by decide +kernel
theorem dX3_takeItem_80 : decode cX3_takeItem 80 = .ok (.ifCond .eq 7, 3) := by decide +kernel
theorem dX3_takeItem_83 : decode cX3_takeItem 83 = .ok (.iconst 1, 1) := by decide +kernel
theorem dX3_takeItem_84 : decode cX3_takeItem 84 = .ok (.goto 4, 3) := by decide +kernel
theorem dX3_takeItem_87 : decode cX3_takeItem 87 = .ok (.iconst 0, 1) := by decide +kernel
theorem dX3_takeItem_88 : decode cX3_takeItem 88 = .ok (.ireturn, 1) := by decide +kernel
theorem dX3_takeThing_0 : decode cX3_takeThing 0 = .ok (.aload_n 0, 1) := by decide +kernel
theorem dX3_takeThing_1 : decode cX3_takeThing 1 = .ok (.getfield 18, 3) := by decide +kernel
theorem dX3_takeThing_4 : decode cX3_takeThing 4 = .ok (.getfield 80, 3) := by decide +kernel
theorem dX3_takeThing_7 : decode cX3_takeThing 7 = .ok (.bipush 7, 2) := by decide +kernel
theorem dX3_takeThing_9 : decode cX3_takeThing 9 = .ok (.if_icmp .ge 12, 3) := by decide +kernel
theorem dX3_takeThing_12 : decode cX3_takeThing 12 = .ok (.aload_n 0, 1) := by decide +kernel
theorem dX3_takeThing_13 : decode cX3_takeThing 13 = .ok (.iconst 0, 1) := by decide +kernel
theorem dX3_takeThing_14 : decode cX3_takeThing 14 = .ok (.iconst 5, 1) := by decide +kernel
theorem dX3_takeThing_15 : decode cX3_takeThing 15 = .ok (.invokevirtual 83, 3) := by decide +kernel
theorem dX3_takeThing_18 : decode cX3_takeThing 18 = .ok (.ifCond .ne 5, 3) := by decide +kernel
theorem dX3_takeThing_21 : decode cX3_takeThing 21 = .ok (.iconst 0, 1) := by decide +kernel
theorem dX3_takeThing_22 : decode cX3_takeThing 22 = .ok (.ireturn, 1) := by decide +kernel
theorem dX3_takeThing_23 : decode cX3_takeThing 23 = .ok (.aload_n 0, 1) := by decide +kernel
theorem dX3_takeThing_24 : decode cX3_takeThing 24 = .ok (.getfield 87, 3) := by decide +kernel
theorem dX3_takeThing_27 : decode cX3_takeThing 27 = .ok (.istore_n 1, 1) := by decide +kernel
theorem dX3_takeThing_28 : decode cX3_takeThing 28 = .ok (.aload_n 0, 1) := by decide +kernel
theorem dX3_takeThing_29 : decode cX3_takeThing 29 = .ok (.iconst 1, 1) := by decide +kernel
theorem dX3_takeThing_30 : decode cX3_takeThing 30 = .ok (.bipush 30, 2) := by decide +kernel
theorem dX3_takeThing_32 : decode cX3_takeThing 32 = .ok (.invokevirtual 83, 3) := by decide +kernel
theorem dX3_takeThing_35 : decode cX3_takeThing 35 = .ok (.ifCond .ne 5, 3) := by decide +kernel
theorem dX3_takeThing_38 : decode cX3_takeThing 38 = .ok (.iconst 0, 1) := by decide +kernel
theorem dX3_takeThing_39 : decode cX3_takeThing 39 = .ok (.ireturn, 1) := by decide +kernel
theorem dX3_takeThing_40 : decode cX3_takeThing 40 = .ok (.aload_n 0, 1) := by decide +kernel
theorem dX3_takeThing_41 : decode cX3_takeThing 41 = .ok (.getfield 18, 3) := by decide +kernel
theorem dX3_takeThing_44 : decode cX3_takeThing 44 = .ok (.iload_n 1, 1) := by decide +kernel
theorem dX3_takeThing_45 : decode cX3_takeThing 45 = .ok (.aload_n 0, 1) := by decide +kernel
theorem dX3_takeThing_46 : decode cX3_takeThing 46 = .ok (.getfield 87, 3) := by decide +kernel
theorem dX3_takeThing_49 : decode cX3_takeThing 49 = .ok (.invokevirtual 90, 3) := by decide +kernel
theorem dX3_takeThing_52 : decode cX3_takeThing 52 = .ok (.pop, 1) := by decide +kernel
theorem dX3_takeThing_53 : decode cX3_takeThing 53 = .ok (.iconst 1, 1) := by decide +kernel
theorem dX3_takeThing_54 : decode cX3_takeThing 54 = .ok (.ireturn, 1) := by decide +kernel
theorem dX3_takeOne_0 : decode cX3_takeOne 0 = .ok (.aload_n 0, 1) := by decide +kernel
theorem dX3_takeOne_1 : decode cX3_takeOne 1 = .ok (.getfield 18, 3) := by decide +kernel
theorem dX3_takeOne_4 : decode cX3_takeOne 4 = .ok (.getfield 94, 3) := by decide +kernel
theorem dX3_takeOne_7 : decode cX3_takeOne 7 = .ok (.bipush 7, 2) := by decide +kernel
theorem dX3_takeOne_9 : decode cX3_takeOne 9 = .ok (.if_icmp .ge 12, 3) := by decide +kernel
theorem dX3_takeOne_12 : decode cX3_takeOne 12 = .ok (.aload_n 0, 1) := by decide +kernel
theorem dX3_takeOne_13 : decode cX3_takeOne 13 = .ok (.iconst 0, 1) := by decide +kernel
theorem dX3_takeOne_14 : decode cX3_takeOne 14 = .ok (.iconst 5, 1) := by decide +kernel
theorem dX3_takeOne_15 : decode cX3_takeOne 15 = .ok (.invokevirtual 83, 3) := by decide +kernel
theorem dX3_takeOne_18 : decode cX3_takeOne 18 = .ok (.ifCond .ne 5, 3) := by decide +kernel
theorem dX3_takeOne_21 : decode cX3_takeOne 21 = .ok (.iconst 0, 1) := by decide +kernel
theorem dX3_takeOne_22 : decode cX3_takeOne 22 = .ok (.ireturn, 1) := by decide +kernel
theorem dX3_takeOne_23 : decode cX3_takeOne 23 = .ok (.aload_n 0, 1) := by decide +kernel
theorem dX3_takeOne_24 : decode cX3_takeOne 24 = .ok (.getfield 87, 3) := by decide +kernel
theorem dX3_takeOne_27 : decode cX3_takeOne 27 = .ok (.istore_n 1, 1) := by decide +kernel
theorem dX3_takeOne_28 : decode cX3_takeOne 28 = .ok (.aload_n 0, 1) := by decide +kernel
theorem dX3_takeOne_29 : decode cX3_takeOne 29 = .ok (.iconst 1, 1) := by decide +kernel
theorem dX3_takeOne_30 : decode cX3_takeOne 30 = .ok (.bipush 9, 2) := by decide +kernel
theorem dX3_takeOne_32 : decode cX3_takeOne 32 = .ok (.invokevirtual 83, 3) := by decide +kernel
theorem dX3_takeOne_35 : decode cX3_takeOne 35 = .ok (.ifCond .ne 5, 3) := by decide +kernel
theorem dX3_takeOne_38 : decode cX3_takeOne 38 = .ok (.iconst 0, 1) := by decide +kernel
theorem dX3_takeOne_39 : decode cX3_takeOne 39 = .ok (.ireturn, 1) := by decide +kernel
theorem dX3_takeOne_40 : decode cX3_takeOne 40 = .ok (.aload_n 0, 1) := by decide +kernel
theorem dX3_takeOne_41 : decode cX3_takeOne 41 = .ok (.getfield 87, 3) := by decide +kernel
theorem dX3_takeOne_44 : decode cX3_takeOne 44 = .ok (.istore_n 2, 1) := by decide +kernel
theorem dX3_takeOne_45 : decode cX3_takeOne 45 = .ok (.aload_n 0, 1) := by decide +kernel
theorem dX3_takeOne_46 : decode cX3_takeOne 46 = .ok (.iconst 0, 1) := by decide +kernel
theorem dX3_takeOne_47 : decode cX3_takeOne 47 = .ok (.bipush 99, 2) := by decide +kernel
theorem dX3_takeOne_49 : decode cX3_takeOne 49 = .ok (.invokevirtual 83, 3) := by decide +kernel
theorem dX3_takeOne_52 : decode cX3_takeOne 52 = .ok (.ifCond .ne 5, 3) := by decide +kernel
theorem dX3_takeOne_55 : decode cX3_takeOne 55 = .ok (.iconst 0, 1) := by decide +kernel
theorem dX3_takeOne_56 : decode cX3_takeOne 56 = .ok (.ireturn, 1) := by decide +kernel
theorem dX3_takeOne_57 : decode cX3_takeOne 57 = .ok (.aload_n 0, 1) := by decide +kernel
theorem dX3_takeOne_58 : decode cX3_takeOne 58 = .ok (.getfield 18, 3) := by decide +kernel
theorem dX3_takeOne_61 : decode cX3_takeOne 61 = .ok (.iload_n 1, 1) := by decide +kernel
theorem dX3_takeOne_62 : decode cX3_takeOne 62 = .ok (.iload_n 2, 1) := by decide +kernel
theorem dX3_takeOne_63 : decode cX3_takeOne 63 = .ok (.aload_n 0, 1) := by decide +kernel
theorem dX3_takeOne_64 : decode cX3_takeOne 64 = .ok (.getfield 87, 3) := by decide +kernel
theorem dX3_takeOne_67 : decode cX3_takeOne 67 = .ok (.invokevirtual 97, 3) := by decide +kernel
theorem dX3_takeOne_70 : decode cX3_takeOne 70 = .ok (.pop, 1) := by decide +kernel
theorem dX3_takeOne_71 : decode cX3_takeOne 71 = .ok (.iconst 1, 1) := by decide +kernel
theorem dX3_takeOne_72 : decode cX3_takeOne 72 = .ok (.ireturn, 1) := by decide +kernel
theorem dX3_takeOwn_0 : decode cX3_takeOwn 0 = .ok (.aload_n 0, 1) := by decide +kernel
theorem dX3_takeOwn_1 : decode cX3_takeOwn 1 = .ok (.iconst 0, 1) := by decide +kernel
theorem dX3_takeOwn_2 : decode cX3_takeOwn 2 = .ok (.aload_n 0, 1) := by decide +kernel
theorem dX3_takeOwn_3 : decode cX3_takeOwn 3 = .ok (.getfield 18, 3) := by decide +kernel
theorem dX3_takeOwn_6 : decode cX3_takeOwn 6 = .ok (.getfield 94, 3) := by decide +kernel
theorem dX3_takeOwn_9 : decode cX3_takeOwn 9 = .ok (.iconst 1, 1) := by decide +kernel
theorem dX3_takeOwn_10 : decode cX3_takeOwn 10 = .ok (.isub, 1) := by decide +kernel
theorem dX3_takeOwn_11 : decode cX3_takeOwn 11 = .ok (.invokevirtual 83, 3) := by decide +kernel
theorem dX3_takeOwn_14 : decode cX3_takeOwn 14 = .ok (.ifCond .eq 17, 3) := by decide +kernel
theorem dX3_takeOwn_17 : decode cX3_takeOwn 17 = .ok (.aload_n 0, 1) := by decide +kernel
theorem dX3_takeOwn_18 : decode cX3_takeOwn 18 = .ok (.getfield 18, 3) := by decide +kernel
theorem dX3_takeOwn_21 : decode cX3_takeOwn 21 = .ok (.aload_n 0, 1) := by decide +kernel
theorem dX3_takeOwn_22 : decode cX3_takeOwn 22 = .ok (.getfield 87, 3) := by decide +kernel
theorem dX3_takeOwn_25 : decode cX3_takeOwn 25 = .ok (.invokevirtual 101, 3) := by decide +kernel
theorem dX3_takeOwn_28 : decode cX3_takeOwn 28 = .ok (.ifCond .ne 5, 3) := by decide +kernel
theorem dX3_takeOwn_31 : decode cX3_takeOwn 31 = .ok (.iconst 0, 1) := by decide +kernel
theorem dX3_takeOwn_32 : decode cX3_takeOwn 32 = .ok (.ireturn, 1) := by decide +kernel
theorem dX3_takeOwn_33 : decode cX3_takeOwn 33 = .ok (.aload_n 0, 1) := by decide +kernel
theorem dX3_takeOwn_34 : decode cX3_takeOwn 34 = .ok (.getfield 87, 3) := by decide +kernel
theorem dX3_takeOwn_37 : decode cX3_takeOwn 37 = .ok (.istore_n 1, 1) := by decide +kernel
theorem dX3_takeOwn_38 : decode cX3_takeOwn 38 = .ok (.aload_n 0, 1) := by decide +kernel
theorem dX3_takeOwn_39 : decode cX3_takeOwn 39 = .ok (.iconst 0, 1) := by decide +kernel
theorem dX3_takeOwn_40 : decode cX3_takeOwn 40 = .ok (.aload_n 0, 1) := by decide +kernel
theorem dX3_takeOwn_41 : decode cX3_takeOwn 41 = .ok (.getfield 18, 3) := by decide +kernel
theorem dX3_takeOwn_44 : decode cX3_takeOwn 44 = .ok (.getfield 80, 3) := by decide +kernel
theorem dX3_takeOwn_47 : decode cX3_takeOwn 47 = .ok (.iconst 1, 1) := by decide +kernel
theorem dX3_takeOwn_48 : decode cX3_takeOwn 48 = .ok (.isub, 1) := by decide +kernel
theorem dX3_takeOwn_49 : decode cX3_takeOwn 49 = .ok (.invokevirtual 83, 3) := by decide +kernel
theorem dX3_takeOwn_52 : decode cX3_takeOwn 52 = .ok (.ifCond .eq 18, 3) := by decide +kernel
theorem dX3_takeOwn_55 : decode cX3_takeOwn 55 = .ok (.aload_n 0, 1) := by decide +kernel
theorem dX3_takeOwn_56 : decode cX3_takeOwn 56 = .ok (.getfield 18, 3) := by decide +kernel
theorem dX3_takeOwn_59 : decode cX3_takeOwn 59 = .ok (.aload_n 0, 1) := by decide +kernel
theorem dX3_takeOwn_60 : decode cX3_takeOwn 60 = .ok (.getfield 87, 3) := by decide +kernel
theorem dX3_takeOwn_63 : decode cX3_takeOwn 63 = .ok (.invokevirtual 105, 3) := by decide +kernel
theorem dX3_takeOwn_66 : decode cX3_takeOwn 66 = .ok (.iconst (-1), 1) := by decide +kernel
theorem dX3_takeOwn_67 : decode cX3_takeOwn 67 = .ok (.if_icmp .eq 5, 3) := by decide +kernel
theorem dX3_takeOwn_70 : decode cX3_takeOwn 70 = .ok (.iconst 0, 1) := by decide +kernel
theorem dX3_takeOwn_71 : decode cX3_takeOwn 71 = .ok (.ireturn, 1) := by decide +kernel
theorem dX3_takeOwn_72 : decode cX3_takeOwn 72 = .ok (.aload_n 0, 1) := by decide +kernel
theorem dX3_takeOwn_73 : decode cX3_takeOwn 73 = .ok (.getfield 18, 3) := by decide +kernel
theorem dX3_takeOwn_76 : decode cX3_takeOwn 76 = .ok (.getfield 109, 3) := by decide +kernel
theorem dX3_takeOwn_79 : decode cX3_takeOwn 79 = .ok (.getfield 113, 3) := by decide +kernel
theorem dX3_takeOwn_82 : decode cX3_takeOwn 82 = .ok (.iload_n 1, 1) := by decide +kernel
theorem dX3_takeOwn_83 : decode cX3_takeOwn 83 = .ok (.aload_n 0, 1) := by decide +kernel
theorem dX3_takeOwn_84 : decode cX3_takeOwn 84 = .ok (.getfield 87, 3) := by decide +kernel
theorem dX3_takeOwn_87 : decode cX3_takeOwn 87 = .ok (.iastore, 1) := by decide +kernel
theorem dX3_takeOwn_88 : decode cX3_takeOwn 88 = .ok (.iconst 1, 1) := by decide +kernel
theorem dX3_takeOwn_89 : decode cX3_takeOwn 89 = .ok (.ireturn, 1) := by decide +kernel
theorem dX3_takeLeave_0 : decode cX3_takeLeave 0 = .ok (.aload_n 0, 1) := by decide +kernel
theorem dX3_takeLeave_1 : decode cX3_takeLeave 1 = .ok (.iconst 0, 1) := by decide +kernel
theorem dX3_takeLeave_2 : decode cX3_takeLeave 2 = .ok (.aload_n 0, 1) := by decide +kernel
theorem dX3_takeLeave_3 : decode cX3_takeLeave 3 = .ok (.getfield 18, 3) := by decide +kernel
theorem dX3_takeLeave_6 : decode cX3_takeLeave 6 = .ok (.getfield 94, 3) := by decide +kernel
theorem dX3_takeLeave_9 : decode cX3_takeLeave 9 = .ok (.iconst 1, 1) := by decide +kernel
theorem dX3_takeLeave_10 : decode cX3_takeLeave 10 = .ok (.isub, 1) := by decide +kernel
theorem dX3_takeLeave_11 : decode cX3_takeLeave 11 = .ok (.invokevirtual 83, 3) := by decide +kernel
theorem dX3_takeLeave_14 : decode cX3_takeLeave 14 = .ok (.ifCond .eq 22, 3) := by decide +kernel
theorem dX3_takeLeave_17 : decode cX3_takeLeave 17 = .ok (.aload_n 0, 1) := by decide +kernel
theorem dX3_takeLeave_18 : decode cX3_takeLeave 18 = .ok (.getfield 18, 3) := by decide +kernel
theorem dX3_takeLeave_21 : decode cX3_takeLeave 21 = .ok (.getfield 109, 3) := by decide +kernel
theorem dX3_takeLeave_24 : decode cX3_takeLeave 24 = .ok (.getfield 113, 3) := by decide +kernel
theorem dX3_takeLeave_27 : decode cX3_takeLeave 27 = .ok (.aload_n 0, 1) := by decide +kernel
theorem dX3_takeLeave_28 : decode cX3_takeLeave 28 = .ok (.getfield 87, 3) := by decide +kernel
theorem dX3_takeLeave_31 : decode cX3_takeLeave 31 = .ok (.iaload, 1) := by decide +kernel
theorem dX3_takeLeave_32 : decode cX3_takeLeave 32 = .ok (.iconst (-1), 1) := by decide +kernel
theorem dX3_takeLeave_33 : decode cX3_takeLeave 33 = .ok (.if_icmp .ne 5, 3) := by decide +kernel
theorem dX3_takeLeave_36 : decode cX3_takeLeave 36 = .ok (.iconst 0, 1) := by decide +kernel
theorem dX3_takeLeave_37 : decode cX3_takeLeave 37 = .ok (.ireturn, 1) := by decide +kernel
theorem dX3_takeLeave_38 : decode cX3_takeLeave 38 = .ok (.aload_n 0, 1) := by decide +kernel
theorem dX3_takeLeave_39 : decode cX3_takeLeave 39 = .ok (.getfield 18, 3) := by decide +kernel
theorem dX3_takeLeave_42 : decode cX3_takeLeave 42 = .ok (.getfield 109, 3) := by decide +kernel
theorem dX3_takeLeave_45 : decode cX3_takeLeave 45 = .ok (.getfield 113, 3) := by decide +kernel
theorem dX3_takeLeave_48 : decode cX3_takeLeave 48 = .ok (.aload_n 0, 1) := by decide +kernel
theorem dX3_takeLeave_49 : decode cX3_takeLeave 49 = .ok (.getfield 87, 3) := by decide +kernel
theorem dX3_takeLeave_52 : decode cX3_takeLeave 52 = .ok (.iconst (-1), 1) := by decide +kernel
theorem dX3_takeLeave_53 : decode cX3_takeLeave 53 = .ok (.iastore, 1) := by decide +kernel
theorem dX3_takeLeave_54 : decode cX3_takeLeave 54 = .ok (.iconst 1, 1) := by decide +kernel
theorem dX3_takeLeave_55 : decode cX3_takeLeave 55 = .ok (.ireturn, 1) := by decide +kernel
theorem dX3_takeYears_0 : decode cX3_takeYears 0 = .ok (.aload_n 0, 1) := by decide +kernel
theorem dX3_takeYears_1 : decode cX3_takeYears 1 = .ok (.iconst 1, 1) := by decide +kernel
theorem dX3_takeYears_2 : decode cX3_takeYears 2 = .ok (.bipush 99, 2) := by decide +kernel
theorem dX3_takeYears_4 : decode cX3_takeYears 4 = .ok (.invokevirtual 83, 3) := by decide +kernel
theorem dX3_takeYears_7 : decode cX3_takeYears 7 = .ok (.ifCond .ne 5, 3) := by decide +kernel
theorem dX3_takeYears_10 : decode cX3_takeYears 10 = .ok (.iconst 0, 1) := by decide +kernel
theorem dX3_takeYears_11 : decode cX3_takeYears 11 = .ok (.ireturn, 1) := by decide +kernel
theorem dX3_takeYears_12 : decode cX3_takeYears 12 = .ok (.aload_n 0, 1) := by decide +kernel
theorem dX3_takeYears_13 : decode cX3_takeYears 13 = .ok (.getfield 18, 3) := by decide +kernel
theorem dX3_takeYears_16 : decode cX3_takeYears 16 = .ok (.aload_n 0, 1) := by decide +kernel
theorem dX3_takeYears_17 : decode cX3_takeYears 17 = .ok (.getfield 18, 3) := by decide +kernel
theorem dX3_takeYears_20 : decode cX3_takeYears 20 = .ok (.getfield 109, 3) := by decide +kernel
theorem dX3_takeYears_23 : decode cX3_takeYears 23 = .ok (.aload_n 0, 1) := by decide +kernel
theorem dX3_takeYears_24 : decode cX3_takeYears 24 = .ok (.getfield 87, 3) := by decide +kernel
theorem dX3_takeYears_27 : decode cX3_takeYears 27 = .ok (.sipush 999, 3) := by decide +kernel
theorem dX3_takeYears_30 : decode cX3_takeYears 30 = .ok (.invokevirtual 118, 3) := by decide +kernel
theorem dX3_takeYears_33 : decode cX3_takeYears 33 = .ok (.iconst 1, 1) := by decide +kernel
theorem dX3_takeYears_34 : decode cX3_takeYears 34 = .ok (.ireturn, 1) := by decide +kernel
theorem dX3_takeNumber_0 : decode cX3_takeNumber 0 = .ok (.aload_n 0, 1) := by decide +kernel
theorem dX3_takeNumber_1 : decode cX3_takeNumber 1 = .ok (.invokevirtual 32, 3) := by decide +kernel
theorem dX3_takeNumber_4 : decode cX3_takeNumber 4 = .ok (.aload_n 0, 1) := by decide +kernel
theorem dX3_takeNumber_5 : decode cX3_takeNumber 5 = .ok (.getfield 35, 3) := by decide +kernel
theorem dX3_takeNumber_8 : decode cX3_takeNumber 8 = .ok (.iconst 2, 1) := by decide +kernel
theorem dX3_takeNumber_9 : decode cX3_takeNumber 9 = .ok (.if_icmp .ne 19, 3) := by decide +kernel
theorem dX3_takeNumber_12 : decode cX3_takeNumber 12 = .ok (.aload_n 0, 1) := by decide +kernel
theorem dX3_takeNumber_13 : decode cX3_takeNumber 13 = .ok (.getfield 87, 3) := by decide +kernel
theorem dX3_takeNumber_16 : decode cX3_takeNumber 16 = .ok (.iload_n 1, 1) := by decide +kernel
theorem dX3_takeNumber_17 : decode cX3_takeNumber 17 = .ok (.iload_n 2, 1) := by decide +kernel
theorem dX3_takeNumber_18 : decode cX3_takeNumber 18 = .ok (.invokestatic 122, 3) := by decide +kernel
theorem dX3_takeNumber_21 : decode cX3_takeNumber 21 = .ok (.ifCond .eq 7, 3) := by decide +kernel
theorem dX3_takeNumber_24 : decode cX3_takeNumber 24 = .ok (.iconst 1, 1) := by decide +kernel
theorem dX3_takeNumber_25 : decode cX3_takeNumber 25 = .ok (.goto 4, 3) := by decide +kernel
theorem dX3_takeNumber_28 : decode cX3_takeNumber 28 = .ok (.iconst 0, 1) := by decide +kernel
theorem dX3_takeNumber_29 : decode cX3_takeNumber 29 = .ok (.ireturn, 1) := by decide +kernel
theorem dX3_takeStop_0 : decode cX3_takeStop 0 = .ok (.aload_n 0, 1) := by decide +kernel
theorem dX3_takeStop_1 : decode cX3_takeStop 1 = .ok (.invokevirtual 32, 3) := by decide +kernel
theorem dX3_takeStop_4 : decode cX3_takeStop 4 = .ok (.aload_n 0, 1) := by decide +kernel
theorem dX3_takeStop_5 : decode cX3_takeStop 5 = .ok (.getfield 35, 3) := by decide +kernel
theorem dX3_takeStop_8 : decode cX3_takeStop 8 = .ok (.iconst 3, 1) := by decide +kernel
theorem dX3_takeStop_9 : decode cX3_takeStop 9 = .ok (.if_icmp .ne 7, 3) := by decide +kernel
theorem dX3_takeStop_12 : decode cX3_takeStop 12 = .ok (.iconst 1, 1) := by decide +kernel
theorem dX3_takeStop_13 : decode cX3_takeStop 13 = .ok (.goto 4, 3) := by decide +kernel
theorem dX3_takeStop_16 : decode cX3_takeStop 16 = .ok (.iconst 0, 1) := by decide +kernel
theorem dX3_takeStop_17 : decode cX3_takeStop 17 = .ok (.ireturn, 1) := by decide +kernel
theorem dX3_isWord_0 : decode cX3_isWord 0 = .ok (.aload_n 0, 1) := by decide +kernel
theorem dX3_isWord_1 : decode cX3_isWord 1 = .ok (.getfield 35, 3) := by decide +kernel
theorem dX3_isWord_4 : decode cX3_isWord 4 = .ok (.iconst 1, 1) := by decide +kernel
theorem dX3_isWord_5 : decode cX3_isWord 5 = .ok (.if_icmp .ne 19, 3) := by decide +kernel
theorem dX3_isWord_8 : decode cX3_isWord 8 = .ok (.aload_n 0, 1) := by decide +kernel
theorem dX3_isWord_9 : decode cX3_isWord 9 = .ok (.getfield 26, 3) := by decide +kernel
theorem dX3_isWord_12 : decode cX3_isWord 12 = .ok (.aload_n 0, 1) := by decide +kernel
theorem dX3_isWord_13 : decode cX3_isWord 13 = .ok (.getfield 46, 3) := by decide +kernel
theorem dX3_isWord_16 : decode cX3_isWord 16 = .ok (.isub, 1) := by decide +kernel
theorem dX3_isWord_17 : decode cX3_isWord 17 = .ok (.aload_n 1, 1) := by decide +kernel
theorem dX3_isWord_18 : decode cX3_isWord 18 = .ok (.invokevirtual 126, 3) := by decide +kernel
theorem dX3_isWord_21 : decode cX3_isWord 21 = .ok (.if_icmp .eq 5, 3) := by decide +kernel
theorem dX3_isWord_24 : decode cX3_isWord 24 = .ok (.iconst 0, 1) := by decide +kernel
theorem dX3_isWord_25 : decode cX3_isWord 25 = .ok (.ireturn, 1) := by decide +kernel
theorem dX3_isWord_26 : decode cX3_isWord 26 = .ok (.iconst 0, 1) := by decide +kernel
theorem dX3_isWord_27 : decode cX3_isWord 27 = .ok (.istore_n 2, 1) := by decide +kernel
theorem dX3_isWord_28 : decode cX3_isWord 28 = .ok (.iload_n 2, 1) := by decide +kernel
theorem dX3_isWord_29 : decode cX3_isWord 29 = .ok (.aload_n 1, 1) := by decide +kernel
theorem dX3_isWord_30 : decode cX3_isWord 30 = .ok (.invokevirtual 126, 3) := by decide +kernel
theorem dX3_isWord_33 : decode cX3_isWord 33 = .ok (.if_icmp .ge 30, 3) := by decide +kernel
theorem dX3_isWord_36 : decode cX3_isWord 36 = .ok (.aload_n 0, 1) := by decide +kernel
theorem dX3_isWord_37 : decode cX3_isWord 37 = .ok (.getfield 9, 3) := by decide +kernel
theorem dX3_isWord_40 : decode cX3_isWord 40 = .ok (.aload_n 0, 1) := by decide +kernel
theorem dX3_isWord_41 : decode cX3_isWord 41 = .ok (.getfield 46, 3) := by decide +kernel
theorem dX3_isWord_44 : decode cX3_isWord 44 = .ok (.iload_n 2, 1) := by decide +kernel
theorem dX3_isWord_45 : decode cX3_isWord 45 = .ok (.iadd, 1) := by decide +kernel
theorem dX3_isWord_46 : decode cX3_isWord 46 = .ok (.iaload, 1) := by decide +kernel
theorem dX3_isWord_47 : decode cX3_isWord 47 = .ok (.aload_n 1, 1) := by decide +kernel
theorem dX3_isWord_48 : decode cX3_isWord 48 = .ok (.iload_n 2, 1) := by decide +kernel
theorem dX3_isWord_49 : decode cX3_isWord 49 = .ok (.invokevirtual 131, 3) := by decide +kernel
theorem dX3_isWord_52 : decode cX3_isWord 52 = .ok (.if_icmp .eq 5, 3) := by decide +kernel
theorem dX3_isWord_55 : decode cX3_isWord 55 = .ok (.iconst 0, 1) := by decide +kernel
theorem dX3_isWord_56 : decode cX3_isWord 56 = .ok (.ireturn, 1) := by decide +kernel
theorem dX3_isWord_57 : decode cX3_isWord 57 = .ok (.iinc 2 1, 3) := by decide +kernel
theorem dX3_isWord_60 : decode cX3_isWord 60 = .ok (.goto (-32), 3) := by decide +kernel
theorem dX3_isWord_63 : decode cX3_isWord 63 = .ok (.iconst 1, 1) := by decide +kernel
theorem dX3_isWord_64 : decode cX3_isWord 64 = .ok (.ireturn, 1) := by decide +kernel
theorem dX3_nextToken_0 : decode cX3_nextToken 0 = .ok (.aload_n 0, 1) := by decide +kernel
theorem dX3_nextToken_1 : decode cX3_nextToken 1 = .ok (.getfield 26, 3) := by decide +kernel
theorem dX3_nextToken_4 : decode cX3_nextToken 4 = .ok (.aload_n 0, 1) := by decide +kernel
theorem dX3_nextToken_5 : decode cX3_nextToken 5 = .ok (.getfield 22, 3) := by decide +kernel
theorem dX3_nextToken_8 : decode cX3_nextToken 8 = .ok (.if_icmp .ge 30, 3) := by decide +kernel
theorem dX3_nextToken_11 : decode cX3_nextToken 11 = .ok (.aload_n 0, 1) := by decide +kernel
theorem dX3_nextToken_12 : decode cX3_nextToken 12 = .ok (.getfield 9, 3) := by decide +kernel
theorem dX3_nextToken_15 : decode cX3_nextToken 15 = .ok (.aload_n 0, 1) := by decide +kernel
theorem dX3_nextToken_16 : decode cX3_nextToken 16 = .ok (.getfield 26, 3) := by decide +kernel
theorem dX3_nextToken_19 : decode cX3_nextToken 19 = .ok (.iaload, 1) := by decide +kernel
theorem dX3_nextToken_20 : decode cX3_nextToken 20 = .ok (.bipush 32, 2) := by decide +kernel
theorem dX3_nextToken_22 : decode cX3_nextToken 22 = .ok (.if_icmp .ne 16, 3) := by decide +kernel
theorem dX3_nextToken_25 : decode cX3_nextToken 25 = .ok (.aload_n 0, 1) := by decide +kernel
theorem dX3_nextToken_26 : decode cX3_nextToken 26 = .ok (.dup, 1) := by decide +kernel
theorem dX3_nextToken_27 : decode cX3_nextToken 27 = .ok (.getfield 26, 3) := by decide +kernel
theorem dX3_nextToken_30 : decode cX3_nextToken 30 = .ok (.iconst 1, 1) := by decide +kernel
theorem dX3_nextToken_31 : decode cX3_nextToken 31 = .ok (.iadd, 1) := by decide +kernel
theorem dX3_nextToken_32 : decode cX3_nextToken 32 = .ok (.putfield 26, 3) := by decide +kernel
theorem dX3_nextToken_35 : decode cX3_nextToken 35 = .ok (.goto (-35), 3) := by decide +kernel
theorem dX3_nextToken_38 : decode cX3_nextToken 38 = .ok (.aload_n 0, 1) := by decide +kernel
theorem dX3_nextToken_39 : decode cX3_nextToken 39 = .ok (.aload_n 0, 1) := by decide +kernel
theorem dX3_nextToken_40 : decode cX3_nextToken 40 = .ok (.getfield 26, 3) := by decide +kernel
theorem dX3_nextToken_43 : decode cX3_nextToken 43 = .ok (.putfield 46, 3) := by decide +kernel
theorem dX3_nextToken_46 : decode cX3_nextToken 46 = .ok (.aload_n 0, 1) := by decide +kernel
theorem dX3_nextToken_47 : decode cX3_nextToken 47 = .ok (.getfield 26, 3) := by decide +kernel
theorem dX3_nextToken_50 : decode cX3_nextToken 50 = .ok (.aload_n 0, 1) := by decide +kernel
theorem dX3_nextToken_51 : decode cX3_nextToken 51 = .ok (.getfield 22, 3) := by decide +kernel
theorem dX3_nextToken_54 : decode cX3_nextToken 54 = .ok (.if_icmp .lt 11, 3) := by decide +kernel
theorem dX3_nextToken_57 : decode cX3_nextToken 57 = .ok (.aload_n 0, 1) := by decide +kernel
theorem dX3_nextToken_58 : decode cX3_nextToken 58 = .ok (.iconst 0, 1) := by decide +kernel
theorem dX3_nextToken_59 : decode cX3_nextToken 59 = .ok (.putfield 35, 3) := by decide +kernel
theorem dX3_nextToken_62 : decode cX3_nextToken 62 = .ok (.goto 174, 3) := by decide +kernel
theorem dX3_nextToken_65 : decode cX3_nextToken 65 = .ok (.aload_n 0, 1) := by decide +kernel
theorem dX3_nextToken_66 : decode cX3_nextToken 66 = .ok (.getfield 9, 3) := by decide +kernel
theorem dX3_nextToken_69 : decode cX3_nextToken 69 = .ok (.aload_n 0, 1) := by decide +kernel
theorem dX3_nextToken_70 : decode cX3_nextToken 70 = .ok (.getfield 26, 3) := by decide +kernel
theorem dX3_nextToken_73 : decode cX3_nextToken 73 = .ok (.iaload, 1) := by decide +kernel
theorem dX3_nextToken_74 : decode cX3_nextToken 74 = .ok (.bipush 97, 2) := by decide +kernel
theorem dX3_nextToken_76 : decode cX3_nextToken 76 = .ok (.bipush 122, 2) := by decide +kernel
theorem dX3_nextToken_78 : decode cX3_nextToken 78 = .ok (.invokestatic 122, 3) := by decide +kernel
theorem dX3_nextToken_81 : decode cX3_nextToken 81 = .ok (.ifCond .eq 19, 3) := by decide +kernel
theorem dX3_nextToken_84 : decode cX3_nextToken 84 = .ok (.aload_n 0, 1) := by decide +kernel
theorem dX3_nextToken_85 : decode cX3_nextToken 85 = .ok (.bipush 97, 2) := by decide +kernel
theorem dX3_nextToken_87 : decode cX3_nextToken 87 = .ok (.bipush 122, 2) := by decide +kernel
theorem dX3_nextToken_89 : decode cX3_nextToken 89 = .ok (.invokevirtual 135, 3) := by decide +kernel
theorem dX3_nextToken_92 : decode cX3_nextToken 92 = .ok (.aload_n 0, 1) := by decide +kernel
theorem dX3_nextToken_93 : decode cX3_nextToken 93 = .ok (.iconst 1, 1) := by decide +kernel
theorem dX3_nextToken_94 : decode cX3_nextToken 94 = .ok (.putfield 35, 3) := by decide +kernel
theorem dX3_nextToken_97 : decode cX3_nextToken 97 = .ok (.goto 139, 3) := by decide +kernel
theorem dX3_nextToken_100 : decode cX3_nextToken 100 = .ok (.aload_n 0, 1) := by decide +kernel
theorem dX3_nextToken_101 : decode cX3_nextToken 101 = .ok (.getfield 9, 3) := by decide +kernel
theorem dX3_nextToken_104 : decode cX3_nextToken 104 = .ok (.aload_n 0, 1) := by decide +kernel
theorem dX3_nextToken_105 : decode cX3_nextToken 105 = .ok (.getfield 26, 3) := by decide +kernel
theorem dX3_nextToken_108 : decode cX3_nextToken 108 = .ok (.iaload, 1) := by decide +kernel
theorem dX3_nextToken_109 : decode cX3_nextToken 109 = .ok (.bipush 48, 2) := by decide +kernel
theorem dX3_nextToken_111 : decode cX3_nextToken 111 = .ok (.bipush 57, 2) := by decide +kernel
theorem dX3_nextToken_113 : decode cX3_nextToken 113 = .ok (.invokestatic 122, 3) := by decide +kernel
theorem dX3_nextToken_116 : decode cX3_nextToken 116 = .ok (.ifCond .eq 87, 3) := by decide +kernel
theorem dX3_nextToken_119 : decode cX3_nextToken 119 = .ok (.aload_n 0, 1) := by decide +kernel
theorem dX3_nextToken_120 : decode cX3_nextToken 120 = .ok (.bipush 48, 2) := by decide +kernel
theorem dX3_nextToken_122 : decode cX3_nextToken 122 = .ok (.bipush 57, 2) := by decide +kernel
theorem dX3_nextToken_124 : decode cX3_nextToken 124 = .ok (.invokevirtual 135, 3) := by decide +kernel
theorem dX3_nextToken_127 : decode cX3_nextToken 127 = .ok (.aload_n 0, 1) := by decide +kernel
theorem dX3_nextToken_128 : decode cX3_nextToken 128 = .ok (.aload_n 0, 1) := by decide +kernel
theorem dX3_nextToken_129 : decode cX3_nextToken 129 = .ok (.getfield 26, 3) := by decide +kernel
theorem dX3_nextToken_132 : decode cX3_nextToken 132 = .ok (.aload_n 0, 1) := by decide +kernel
theorem dX3_nextToken_133 : decode cX3_nextToken 133 = .ok (.getfield 46, 3) := by decide +kernel
theorem dX3_nextToken_136 : decode cX3_nextToken 136 = .ok (.isub, 1) := by decide +kernel
theorem dX3_nextToken_137 : decode cX3_nextToken 137 = .ok (.iconst 2, 1) := by decide +kernel
theorem dX3_nextToken_138 : decode cX3_nextToken 138 = .ok (.if_icmp .gt 7, 3) := by decide +kernel
theorem dX3_nextToken_141 : decode cX3_nextToken 141 = .ok (.iconst 2, 1) := by decide +kernel
theorem dX3_nextToken_142 : decode cX3_nextToken 142 = .ok (.goto 4, 3) := by decide +kernel
theorem dX3_nextToken_145 : decode cX3_nextToken 145 = .ok (.iconst 4, 1) := by decide +kernel
theorem dX3_nextToken_146 : decode cX3_nextToken 146 = .ok (.putfield 35, 3) := by decide +kernel
theorem dX3_nextToken_149 : decode cX3_nextToken 149 = .ok (.aload_n 0, 1) := by decide +kernel
theorem dX3_nextToken_150 : decode cX3_nextToken 150 = .ok (.aload_n 0, 1) := by decide +kernel
theorem dX3_nextToken_151 : decode cX3_nextToken 151 = .ok (.getfield 9, 3) := by decide +kernel
theorem dX3_nextToken_154 : decode cX3_nextToken 154 = .ok (.aload_n 0, 1) := by decide +kernel
theorem dX3_nextToken_155 : decode cX3_nextToken 155 = .ok (.getfield 26, 3) := by decide +kernel
theorem dX3_nextToken_158 : decode cX3_nextToken 158 = .ok (.iconst 1, 1) := by decide +kernel
theorem dX3_nextToken_159 : decode cX3_nextToken 159 = .ok (.isub, 1) := by decide +kernel
theorem dX3_nextToken_160 : decode cX3_nextToken 160 = .ok (.iaload, 1) := by decide +kernel
theorem dX3_nextToken_161 : decode cX3_nextToken 161 = .ok (.bipush 48, 2) := by decide +kernel
theorem dX3_nextToken_163 : decode cX3_nextToken 163 = .ok (.isub, 1) := by decide +kernel
theorem dX3_nextToken_164 : decode cX3_nextToken 164 = .ok (.aload_n 0, 1) := by decide +kernel
theorem dX3_nextToken_165 : decode cX3_nextToken 165 = .ok (.getfield 26, 3) := by decide +kernel
theorem dX3_nextToken_168 : decode cX3_nextToken 168 = .ok (.aload_n 0, 1) := by decide +kernel
theorem dX3_nextToken_169 : decode cX3_nextToken 169 = .ok (.getfield 46, 3) := by decide +kernel
theorem dX3_nextToken_172 : decode cX3_nextToken 172 = .ok (.isub, 1) := by decide +kernel
theorem dX3_nextToken_173 : decode cX3_nextToken 173 = .ok (.iconst 2, 1) := by decide +kernel
theorem dX3_nextToken_174 : decode cX3_nextToken 174 = .ok (.if_icmp .ne 21, 3) := by decide +kernel
theorem dX3_nextToken_177 : decode cX3_nextToken 177 = .ok (.bipush 10, 2) := by decide +kernel
theorem dX3_nextToken_179 : decode cX3_nextToken 179 = .ok (.aload_n 0, 1) := by decide +kernel
theorem dX3_nextToken_180 : decode cX3_nextToken 180 = .ok (.getfield 9, 3) := by decide +kernel
theorem dX3_nextToken_183 : decode cX3_nextToken 183 = .ok (.aload_n 0, 1) := by decide +kernel
theorem dX3_nextToken_184 : decode cX3_nextToken 184 = .ok (.getfield 46, 3) := by decide +kernel
theorem dX3_nextToken_187 : decode cX3_nextToken 187 = .ok (.iaload, 1) := by decide +kernel
theorem dX3_nextToken_188 : decode cX3_nextToken 188 = .ok (.bipush 48, 2) := by decide +kernel
theorem dX3_nextToken_190 : decode cX3_nextToken 190 = .ok (.isub, 1) := by decide +kernel
theorem dX3_nextToken_191 : decode cX3_nextToken 191 = .ok (.imul, 1) := by decide +kernel
theorem dX3_nextToken_192 : decode cX3_nextToken 192 = .ok (.goto 4, 3) := by decide +kernel
theorem dX3_nextToken_195 : decode cX3_nextToken 195 = .ok (.iconst 0, 1) := by decide +kernel
theorem dX3_nextToken_196 : decode cX3_nextToken 196 = .ok (.iadd, 1) := by decide +kernel
theorem dX3_nextToken_197 : decode cX3_nextToken 197 = .ok (.putfield 87, 3) := by decide +kernel
theorem dX3_nextToken_200 : decode cX3_nextToken 200 = .ok (.goto 36, 3) := by decide +kernel
theorem dX3_nextToken_203 : decode cX3_nextToken 203 = .ok (.aload_n 0, 1) := by decide +kernel
theorem dX3_nextToken_204 : decode cX3_nextToken 204 = .ok (.aload_n 0, 1) := by decide +kernel
theorem dX3_nextToken_205 : decode cX3_nextToken 205 = .ok (.getfield 9, 3) := by decide +kernel
theorem dX3_nextToken_208 : decode cX3_nextToken 208 = .ok (.aload_n 0, 1) := by decide +kernel
theorem dX3_nextToken_209 : decode cX3_nextToken 209 = .ok (.getfield 26, 3) := by decide +kernel
theorem dX3_nextToken_212 : decode cX3_nextToken 212 = .ok (.iaload, 1) := by decide +kernel
theorem dX3_nextToken_213 : decode cX3_nextToken 213 = .ok (.bipush 59, 2) := by decide +kernel
theorem dX3_nextToken_215 : decode cX3_nextToken 215 = .ok (.if_icmp .ne 7, 3) := by decide +kernel
theorem dX3_nextToken_218 : decode cX3_nextToken 218 = .ok (.iconst 3, 1) := by decide +kernel
theorem dX3_nextToken_219 : decode cX3_nextToken 219 = .ok (.goto 4, 3) := by decide +kernel
theorem dX3_nextToken_222 : decode cX3_nextToken 222 = .ok (.iconst 4, 1) := by decide +kernel
theorem dX3_nextToken_223 : decode cX3_nextToken 223 = .ok (.putfield 35, 3) := by decide +kernel
theorem dX3_nextToken_226 : decode cX3_nextToken 226 = .ok (.aload_n 0, 1) := by decide +kernel
theorem dX3_nextToken_227 : decode cX3_nextToken 227 = .ok (.dup, 1) := by decide +kernel
theorem dX3_nextToken_228 : decode cX3_nextToken 228 = .ok (.getfield 26, 3) := by decide +kernel
theorem dX3_nextToken_231 : decode cX3_nextToken 231 = .ok (.iconst 1, 1) := by decide +kernel
theorem dX3_nextToken_232 : decode cX3_nextToken 232 = .ok (.iadd, 1) := by decide +kernel
theorem dX3_nextToken_233 : decode cX3_nextToken 233 = .ok (.putfield 26, 3) := by decide +kernel
theorem dX3_nextToken_236 : decode cX3_nextToken 236 = .ok (.return_, 1) := by decide +kernel
theorem dX3_passRun_0 : decode cX3_passRun 0 = .ok (.aload_n 0, 1) := by decide +kernel
theorem dX3_passRun_1 : decode cX3_passRun 1 = .ok (.getfield 26, 3) := by decide +kernel
theorem dX3_passRun_4 : decode cX3_passRun 4 = .ok (.aload_n 0, 1) := by decide +kernel
theorem dX3_passRun_5 : decode cX3_passRun 5 = .ok (.getfield 22, 3) := by decide +kernel
theorem dX3_passRun_8 : decode cX3_passRun 8 = .ok (.if_icmp .ge 33, 3) := by decide +kernel
theorem dX3_passRun_11 : decode cX3_passRun 11 = .ok (.aload_n 0, 1) := by decide +kernel
theorem dX3_passRun_12 : decode cX3_passRun 12 = .ok (.getfield 9, 3) := by decide +kernel
theorem dX3_passRun_15 : decode cX3_passRun 15 = .ok (.aload_n 0, 1) := by decide +kernel
theorem dX3_passRun_16 : decode cX3_passRun 16 = .ok (.getfield 26, 3) := by decide +kernel
theorem dX3_passRun_19 : decode cX3_passRun 19 = .ok (.iaload, 1) := by decide +kernel
theorem dX3_passRun_20 : decode cX3_passRun 20 = .ok (.iload_n 1, 1) := by decide +kernel
theorem dX3_passRun_21 : decode cX3_passRun 21 = .ok (.iload_n 2, 1) := by decide +kernel
theorem dX3_passRun_22 : decode cX3_passRun 22 = .ok (.invokestatic 122, 3) := by decide +kernel
theorem dX3_passRun_25 : decode cX3_passRun 25 = .ok (.ifCond .eq 16, 3) := by decide +kernel
theorem dX3_passRun_28 : decode cX3_passRun 28 = .ok (.aload_n 0, 1) := by decide +kernel
theorem dX3_passRun_29 : decode cX3_passRun 29 = .ok (.dup, 1) := by decide +kernel
theorem dX3_passRun_30 : decode cX3_passRun 30 = .ok (.getfield 26, 3) := by decide +kernel
theorem dX3_passRun_33 : decode cX3_passRun 33 = .ok (.iconst 1, 1) := by decide +kernel
theorem dX3_passRun_34 : decode cX3_passRun 34 = .ok (.iadd, 1) := by decide +kernel
theorem dX3_passRun_35 : decode cX3_passRun 35 = .ok (.putfield 26, 3) := by decide +kernel
theorem dX3_passRun_38 : decode cX3_passRun 38 = .ok (.goto (-38), 3) := by decide +kernel
theorem dX3_passRun_41 : decode cX3_passRun 41 = .ok (.return_, 1) := by decide +kernel
theorem dX4_init_0 : decode cX4_init 0 = .ok (.aload_n 0, 1) := by decide +kernel
theorem dX4_init_1 : decode cX4_init 1 = .ok (.invokespecial 1, 3) := by decide +kernel
theorem dX4_init_4 : decode cX4_init 4 = .ok (.aload_n 0, 1) := by decide +kernel
theorem dX4_init_5 : decode cX4_init 5 = .ok (.iload_n 1, 1) := by decide +kernel
theorem dX4_init_6 : decode cX4_init 6 = .ok (.putfield 7, 3) := by decide +kernel
theorem dX4_init_9 : decode cX4_init 9 = .ok (.aload_n 0, 1) := by decide +kernel
theorem dX4_init_10 : decode cX4_init 10 = .ok (.iconst 4, 1) := by decide +kernel
theorem dX4_init_11 : decode cX4_init 11 = .ok (.iload_n 1, 1) := by decide +kernel
theorem dX4_init_12 : decode cX4_init 12 = .ok (.imul, 1) := by decide +kernel
theorem dX4_init_13 : decode cX4_init 13 = .ok (.newarray .int, 2) := by decide +kernel
theorem dX4_init_15 : decode cX4_init 15 = .ok (.putfield 13, 3) := by decide +kernel
theorem dX4_init_18 : decode cX4_init 18 = .ok (.return_, 1) := by decide +kernel
theorem dX4_isFull_0 : decode cX4_isFull 0 = .ok (.aload_n 0, 1) := by decide +kernel
theorem dX4_isFull_1 : decode cX4_isFull 1 = .ok (.getfield 17, 3) := by decide +kernel
theorem dX4_isFull_4 : decode cX4_isFull 4 = .ok (.aload_n 0, 1) := by decide +kernel
theorem dX4_isFull_5 : decode cX4_isFull 5 = .ok (.getfield 7, 3) := by decide +kernel
theorem dX4_isFull_8 : decode cX4_isFull 8 = .ok (.if_icmp .lt 7, 3) := by decide +kernel
theorem dX4_isFull_11 : decode cX4_isFull 11 = .ok (.iconst 1, 1) := by decide +kernel
theorem dX4_isFull_12 : decode cX4_isFull 12 = .ok (.goto 4, 3) := by decide +kernel
theorem dX4_isFull_15 : decode cX4_isFull 15 = .ok (.iconst 0, 1) := by decide +kernel
theorem dX4_isFull_16 : decode cX4_isFull 16 = .ok (.ireturn, 1) := by decide +kernel
theorem dX4_add_0 : decode cX4_add 0 = .ok (.iconst 4, 1) := by decide +kernel
theorem dX4_add_1 : decode cX4_add 1 = .ok (.aload_n 0, 1) := by decide +kernel
theorem dX4_add_2 : decode cX4_add 2 = .ok (.getfield 17, 3) := by decide +kernel
theorem dX4_add_5 : decode cX4_add 5 = .ok (.imul, 1) := by decide +kernel
theorem dX4_add_6 : decode cX4_add 6 = .ok (.istore 5, 2) := by decide +kernel
theorem dX4_add_8 : decode cX4_add 8 = .ok (.aload_n 0, 1) := by decide +kernel
theorem dX4_add_9 : decode cX4_add 9 = .ok (.getfield 13, 3) := by decide +kernel
theorem dX4_add_12 : decode cX4_add 12 = .ok (.iload 5, 2) := by decide +kernel
theorem dX4_add_14 : decode cX4_add 14 = .ok (.iload_n 1, 1) := by decide +kernel
theorem dX4_add_15 : decode cX4_add 15 = .ok (.iastore, 1) := by decide +kernel
theorem dX4_add_16 : decode cX4_add 16 = .ok (.aload_n 0, 1) := by decide +kernel
theorem dX4_add_17 : decode cX4_add 17 = .ok (.getfield 13, 3) := by decide +kernel
theorem dX4_add_20 : decode cX4_add 20 = .ok (.iload 5, 2) := by decide +kernel
theorem dX4_add_22 : decode cX4_add 22 = .ok (.iconst 1, 1) := by decide +kernel
theorem dX4_add_23 : decode cX4_add 23 = .ok (.iadd, 1) := by decide +kernel
theorem dX4_add_24 : decode cX4_add 24 = .ok (.iload_n 2, 1) := by decide +kernel
theorem dX4_add_25 : decode cX4_add 25 = .ok (.iastore, 1) := by decide +kernel
theorem dX4_add_26 : decode cX4_add 26 = .ok (.aload_n 0, 1) := by decide +kernel
theorem dX4_add_27 : decode cX4_add 27 = .ok (.getfield 13, 3) := by decide +kernel
theorem dX4_add_30 : decode cX4_add 30 = .ok (.iload 5, 2) := by decide +kernel
theorem dX4_add_32 : decode cX4_add 32 = .ok (.iconst 2, 1) := by decide +kernel
theorem dX4_add_33 : decode cX4_add 33 = .ok (.iadd, 1) := by decide +kernel
theorem dX4_add_34 : decode cX4_add 34 = .ok (.iload_n 3, 1) := by decide +kernel
theorem dX4_add_35 : decode cX4_add 35 = .ok (.iastore, 1) := by decide +kernel
theorem dX4_add_36 : decode cX4_add 36 = .ok (.aload_n 0, 1) := by decide +kernel
theorem dX4_add_37 : decode cX4_add 37 = .ok (.getfield 13, 3) := by decide +kernel
theorem dX4_add_40 : decode cX4_add 40 = .ok (.iload 5, 2) := by decide +kernel
theorem dX4_add_42 : decode cX4_add 42 = .ok (.iconst 3, 1) := by decide +kernel
theorem dX4_add_43 : decode cX4_add 43 = .ok (.iadd, 1) := by decide +kernel
theorem dX4_add_44 : decode cX4_add 44 = .ok (.iload 4, 2) := by decide +kernel
theorem dX4_add_46 : decode cX4_add 46 = .ok (.iastore, 1) := by decide +kernel
theorem dX4_add_47 : decode cX4_add 47 = .ok (.aload_n 0, 1) := by decide +kernel
theorem dX4_add_48 : decode cX4_add 48 = .ok (.dup, 1) := by decide +kernel
theorem dX4_add_49 : decode cX4_add 49 = .ok (.getfield 17, 3) := by decide +kernel
theorem dX4_add_52 : decode cX4_add 52 = .ok (.iconst 1, 1) := by decide +kernel
theorem dX4_add_53 : decode cX4_add 53 = .ok (.iadd, 1) := by decide +kernel
theorem dX4_add_54 : decode cX4_add 54 = .ok (.putfield 17, 3) := by decide +kernel
theorem dX4_add_57 : decode cX4_add 57 = .ok (.aload_n 0, 1) := by decide +kernel
theorem dX4_add_58 : decode cX4_add 58 = .ok (.getfield 17, 3) := by decide +kernel
theorem dX4_add_61 : decode cX4_add 61 = .ok (.ireturn, 1) := by decide +kernel
theorem dX4_cell_0 : decode cX4_cell 0 = .ok (.aload_n 0, 1) := by decide +kernel
theorem dX4_cell_1 : decode cX4_cell 1 = .ok (.getfield 13, 3) := by decide +kernel
theorem dX4_cell_4 : decode cX4_cell 4 = .ok (.iconst 4, 1) := by decide +kernel
theorem dX4_cell_5 : decode cX4_cell 5 = .ok (.iload_n 1, 1) := by decide +kernel
theorem dX4_cell_6 : decode cX4_cell 6 = .ok (.imul, 1) := by decide +kernel
theorem dX4_cell_7 : decode cX4_cell 7 = .ok (.iload_n 2, 1) := by decide +kernel
theorem dX4_cell_8 : decode cX4_cell 8 = .ok (.iadd, 1) := by decide +kernel
theorem dX4_cell_9 : decode cX4_cell 9 = .ok (.iaload, 1) := by decide +kernel
theorem dX4_cell_10 : decode cX4_cell 10 = .ok (.ireturn, 1) := by decide +kernel
theorem dX4_drop_0 : decode cX4_drop 0 = .ok (.aload_n 0, 1) := by decide +kernel
theorem dX4_drop_1 : decode cX4_drop 1 = .ok (.getfield 17, 3) := by decide +kernel
theorem dX4_drop_4 : decode cX4_drop 4 = .ok (.istore_n 1, 1) := by decide +kernel
theorem dX4_drop_5 : decode cX4_drop 5 = .ok (.aload_n 0, 1) := by decide +kernel
theorem dX4_drop_6 : decode cX4_drop 6 = .ok (.iconst 0, 1) := by decide +kernel
theorem dX4_drop_7 : decode cX4_drop 7 = .ok (.putfield 17, 3) := by decide +kernel
theorem dX4_drop_10 : decode cX4_drop 10 = .ok (.iload_n 1, 1) := by decide +kernel
theorem dX4_drop_11 : decode cX4_drop 11 = .ok (.ireturn, 1) := by decide +kernel
theorem dX4_copyFrom_0 : decode cX4_copyFrom 0 = .ok (.aload_n 0, 1) := by decide +kernel
theorem dX4_copyFrom_1 : decode cX4_copyFrom 1 = .ok (.aload_n 1, 1) := by decide +kernel
theorem dX4_copyFrom_2 : decode cX4_copyFrom 2 = .ok (.getfield 17, 3) := by decide +kernel
theorem dX4_copyFrom_5 : decode cX4_copyFrom 5 = .ok (.putfield 17, 3) := by decide +kernel
theorem dX4_copyFrom_8 : decode cX4_copyFrom 8 = .ok (.iconst 0, 1) := by decide +kernel
theorem dX4_copyFrom_9 : decode cX4_copyFrom 9 = .ok (.istore_n 2, 1) := by decide +kernel
theorem dX4_copyFrom_10 : decode cX4_copyFrom 10 = .ok (.iload_n 2, 1) := by decide +kernel
theorem dX4_copyFrom_11 : decode cX4_copyFrom 11 = .ok (.iconst 4, 1) := by decide +kernel
theorem dX4_copyFrom_12 : decode cX4_copyFrom 12 = .ok (.aload_n 0, 1) := by decide +kernel
theorem dX4_copyFrom_13 : decode cX4_copyFrom 13 = .ok (.getfield 17, 3) := by decide +kernel
theorem dX4_copyFrom_16 : decode cX4_copyFrom 16 = .ok (.imul, 1) := by decide +kernel
theorem dX4_copyFrom_17 : decode cX4_copyFrom 17 = .ok (.if_icmp .ge 21, 3) := by decide +kernel
theorem dX4_copyFrom_20 : decode cX4_copyFrom 20 = .ok (.aload_n 0, 1) := by decide +kernel
theorem dX4_copyFrom_21 : decode cX4_copyFrom 21 = .ok (.getfield 13, 3) := by decide +kernel
theorem dX4_copyFrom_24 : decode cX4_copyFrom 24 = .ok (.iload_n 2, 1) := by decide +kernel
theorem dX4_copyFrom_25 : decode cX4_copyFrom 25 = .ok (.aload_n 1, 1) := by decide +kernel
theorem dX4_copyFrom_26 : decode cX4_copyFrom 26 = .ok (.getfield 13, 3) := by decide +kernel
theorem dX4_copyFrom_29 : decode cX4_copyFrom 29 = .ok (.iload_n 2, 1) := by decide +kernel
theorem dX4_copyFrom_30 : decode cX4_copyFrom 30 = .ok (.iaload, 1) := by decide +kernel
theorem dX4_copyFrom_31 : decode cX4_copyFrom 31 = .ok (.iastore, 1) := by decide +kernel
theorem dX4_copyFrom_32 : decode cX4_copyFrom 32 = .ok (.iinc 2 1, 3) := by decide +kernel
theorem dX4_copyFrom_35 : decode cX4_copyFrom 35 = .ok (.goto (-25), 3) := by decide +kernel
theorem dX4_copyFrom_38 : decode cX4_copyFrom 38 = .ok (.return_, 1) := by decide +kernel
theorem dX4_mixInto_0 : decode cX4_mixInto 0 = .ok (.lload_n 1, 1) := by decide +kernel
theorem dX4_mixInto_1 : decode cX4_mixInto 1 = .ok (.lstore_n 3, 1) := by decide +kernel
theorem dX4_mixInto_2 : decode cX4_mixInto 2 = .ok (.iconst 0, 1) := by decide +kernel
theorem dX4_mixInto_3 : decode cX4_mixInto 3 = .ok (.istore 5, 2) := by decide +kernel
theorem dX4_mixInto_5 : decode cX4_mixInto 5 = .ok (.iload 5, 2) := by decide +kernel
theorem dX4_mixInto_7 : decode cX4_mixInto 7 = .ok (.iconst 4, 1) := by decide +kernel
theorem dX4_mixInto_8 : decode cX4_mixInto 8 = .ok (.aload_n 0, 1) := by decide +kernel
theorem dX4_mixInto_9 : decode cX4_mixInto 9 = .ok (.getfield 17, 3) := by decide +kernel
theorem dX4_mixInto_12 : decode cX4_mixInto 12 = .ok (.imul, 1) := by decide +kernel
theorem dX4_mixInto_13 : decode cX4_mixInto 13 = .ok (.if_icmp .ge 24, 3) := by decide +kernel
theorem dX4_mixInto_16 : decode cX4_mixInto 16 = .ok (.ldc2_w 20, 3) := by decide +kernel
theorem dX4_mixInto_19 : decode cX4_mixInto 19 = .ok (.lload_n 3, 1) := by decide +kernel
theorem dX4_mixInto_20 : decode cX4_mixInto 20 = .ok (.lmul, 1) := by decide +kernel
theorem dX4_mixInto_21 : decode cX4_mixInto 21 = .ok (.aload_n 0, 1) := by decide +kernel
theorem dX4_mixInto_22 : decode cX4_mixInto 22 = .ok (.getfield 13, 3) := by decide +kernel
theorem dX4_mixInto_25 : decode cX4_mixInto 25 = .ok (.iload 5, 2) := by decide +kernel
theorem dX4_mixInto_27 : decode cX4_mixInto 27 = .ok (.iaload, 1) := by decide +kernel
theorem dX4_mixInto_28 : decode cX4_mixInto 28 = .ok (.i2l, 1) := by decide +kernel
theorem dX4_mixInto_29 : decode cX4_mixInto 29 = .ok (.ladd, 1) := by decide +kernel
theorem dX4_mixInto_30 : decode cX4_mixInto 30 = .ok (.lstore_n 3, 1) := by decide +kernel
theorem dX4_mixInto_31 : decode cX4_mixInto 31 = .ok (.iinc 5 1, 3) := by decide +kernel
theorem dX4_mixInto_34 : decode cX4_mixInto 34 = .ok (.goto (-29), 3) := by decide +kernel
theorem dX4_mixInto_37 : decode cX4_mixInto 37 = .ok (.lload_n 3, 1) := by decide +kernel
theorem dX4_mixInto_38 : decode cX4_mixInto 38 = .ok (.lreturn, 1) := by decide +kernel
theorem dX5_thingWeighs_0 : decode cX5_thingWeighs 0 = .ok (.iload_n 0, 1) := by decide +kernel
theorem dX5_thingWeighs_1 : decode cX5_thingWeighs 1 = .ok (.tableswitch 88 1 5 #[35, 40, 45, 60, 79], 35) := by decide +kernel
theorem dX5_thingWeighs_36 : decode cX5_thingWeighs 36 = .ok (.iload_n 1, 1) := by decide +kernel
theorem dX5_thingWeighs_37 : decode cX5_thingWeighs 37 = .ok (.invokestatic 7, 3) := by decide +kernel
theorem dX5_thingWeighs_40 : decode cX5_thingWeighs 40 = .ok (.ireturn, 1) := by decide +kernel
theorem dX5_thingWeighs_41 : decode cX5_thingWeighs 41 = .ok (.iload_n 1, 1) := by decide +kernel
theorem dX5_thingWeighs_42 : decode cX5_thingWeighs 42 = .ok (.invokestatic 13, 3) := by decide +kernel
theorem dX5_thingWeighs_45 : decode cX5_thingWeighs 45 = .ok (.ireturn, 1) := by decide +kernel
theorem dX5_thingWeighs_46 : decode cX5_thingWeighs 46 = .ok (.iload_n 1, 1) := by decide +kernel
theorem dX5_thingWeighs_47 : decode cX5_thingWeighs 47 = .ok (.invokestatic 7, 3) := by decide +kernel
theorem dX5_thingWeighs_50 : decode cX5_thingWeighs 50 = .ok (.bipush 20, 2) := by decide +kernel
theorem dX5_thingWeighs_52 : decode cX5_thingWeighs 52 = .ok (.iload_n 2, 1) := by decide +kernel
theorem dX5_thingWeighs_53 : decode cX5_thingWeighs 53 = .ok (.bipush 10, 2) := by decide +kernel
theorem dX5_thingWeighs_55 : decode cX5_thingWeighs 55 = .ok (.idiv, 1) := by decide +kernel
theorem dX5_thingWeighs_56 : decode cX5_thingWeighs 56 = .ok (.invokestatic 16, 3) := by decide +kernel
theorem dX5_thingWeighs_59 : decode cX5_thingWeighs 59 = .ok (.iadd, 1) := by decide +kernel
theorem dX5_thingWeighs_60 : decode cX5_thingWeighs 60 = .ok (.ireturn, 1) := by decide +kernel
theorem dX5_thingWeighs_61 : decode cX5_thingWeighs 61 = .ok (.iload_n 1, 1) := by decide +kernel
theorem dX5_thingWeighs_62 : decode cX5_thingWeighs 62 = .ok (.invokestatic 13, 3) := by decide +kernel
theorem dX5_thingWeighs_65 : decode cX5_thingWeighs 65 = .ok (.iload_n 2, 1) := by decide +kernel
theorem dX5_thingWeighs_66 : decode cX5_thingWeighs 66 = .ok (.iconst 2, 1) := by decide +kernel
theorem dX5_thingWeighs_67 : decode cX5_thingWeighs 67 = .ok (.irem, 1) := by decide +kernel
theorem dX5_thingWeighs_68 : decode cX5_thingWeighs 68 = .ok (.iconst 1, 1) := by decide +kernel
theorem dX5_thingWeighs_69 : decode cX5_thingWeighs 69 = .ok (.if_icmp .ne 8, 3) := by decide +kernel
theorem dX5_thingWeighs_72 : decode cX5_thingWeighs 72 = .ok (.bipush 9, 2) := by decide +kernel
theorem dX5_thingWeighs_74 : decode cX5_thingWeighs 74 = .ok (.goto 4, 3) := by decide +kernel
theorem dX5_thingWeighs_77 : decode cX5_thingWeighs 77 = .ok (.iconst 0, 1) := by decide +kernel
theorem dX5_thingWeighs_78 : decode cX5_thingWeighs 78 = .ok (.iadd, 1) := by decide +kernel
theorem dX5_thingWeighs_79 : decode cX5_thingWeighs 79 = .ok (.ireturn, 1) := by decide +kernel
theorem dX5_thingWeighs_80 : decode cX5_thingWeighs 80 = .ok (.iconst 2, 1) := by decide +kernel
theorem dX5_thingWeighs_81 : decode cX5_thingWeighs 81 = .ok (.iload_n 1, 1) := by decide +kernel
theorem dX5_thingWeighs_82 : decode cX5_thingWeighs 82 = .ok (.invokestatic 13, 3) := by decide +kernel
theorem dX5_thingWeighs_85 : decode cX5_thingWeighs 85 = .ok (.imul, 1) := by decide +kernel
theorem dX5_thingWeighs_86 : decode cX5_thingWeighs 86 = .ok (.iconst 1, 1) := by decide +kernel
theorem dX5_thingWeighs_87 : decode cX5_thingWeighs 87 = .ok (.isub, 1) := by decide +kernel
theorem dX5_thingWeighs_88 : decode cX5_thingWeighs 88 = .ok (.ireturn, 1) := by decide +kernel
theorem dX5_thingWeighs_89 : decode cX5_thingWeighs 89 = .ok (.iload_n 1, 1) := by decide +kernel
theorem dX5_thingWeighs_90 : decode cX5_thingWeighs 90 = .ok (.ireturn, 1) := by decide +kernel
theorem dX5_bell_0 : decode cX5_bell 0 = .ok (.iload_n 0, 1) := by decide +kernel
theorem dX5_bell_1 : decode cX5_bell 1 = .ok (.bipush 6, 2) := by decide +kernel
theorem dX5_bell_3 : decode cX5_bell 3 = .ok (.iadd, 1) := by decide +kernel
theorem dX5_bell_4 : decode cX5_bell 4 = .ok (.ireturn, 1) := by decide +kernel
theorem dX5_trunk_0 : decode cX5_trunk 0 = .ok (.iload_n 0, 1) := by decide +kernel
theorem dX5_trunk_1 : decode cX5_trunk 1 = .ok (.iconst 1, 1) := by decide +kernel
theorem dX5_trunk_2 : decode cX5_trunk 2 = .ok (.iadd, 1) := by decide +kernel
theorem dX5_trunk_3 : decode cX5_trunk 3 = .ok (.iconst 2, 1) := by decide +kernel
theorem dX5_trunk_4 : decode cX5_trunk 4 = .ok (.idiv, 1) := by decide +kernel
theorem dX5_trunk_5 : decode cX5_trunk 5 = .ok (.ireturn, 1) := by decide +kernel
theorem dX5_oneLifts_0 : decode cX5_oneLifts 0 = .ok (.iconst 2, 1) := by decide +kernel
theorem dX5_oneLifts_1 : decode cX5_oneLifts 1 = .ok (.iload_n 1, 1) := by decide +kernel
theorem dX5_oneLifts_2 : decode cX5_oneLifts 2 = .ok (.imul, 1) := by decide +kernel
theorem dX5_oneLifts_3 : decode cX5_oneLifts 3 = .ok (.iload_n 2, 1) := by decide +kernel
theorem dX5_oneLifts_4 : decode cX5_oneLifts 4 = .ok (.bipush 30, 2) := by decide +kernel
theorem dX5_oneLifts_6 : decode cX5_oneLifts 6 = .ok (.invokestatic 16, 3) := by decide +kernel
theorem dX5_oneLifts_9 : decode cX5_oneLifts 9 = .ok (.iconst 3, 1) := by decide +kernel
theorem dX5_oneLifts_10 : decode cX5_oneLifts 10 = .ok (.idiv, 1) := by decide +kernel
theorem dX5_oneLifts_11 : decode cX5_oneLifts 11 = .ok (.iadd, 1) := by decide +kernel
theorem dX5_oneLifts_12 : decode cX5_oneLifts 12 = .ok (.istore_n 3, 1) := by decide +kernel
theorem dX5_oneLifts_13 : decode cX5_oneLifts 13 = .ok (.iload_n 0, 1) := by decide +kernel
theorem dX5_oneLifts_14 : decode cX5_oneLifts 14 = .ok (.tableswitch 105 1 5 #[34, 39, 44, 63, 85], 34) := by decide +kernel
theorem dX5_oneLifts_48 : decode cX5_oneLifts 48 = .ok (.iload_n 3, 1) := by decide +kernel
theorem dX5_oneLifts_49 : decode cX5_oneLifts 49 = .ok (.invokestatic 22, 3) := by decide +kernel
theorem dX5_oneLifts_52 : decode cX5_oneLifts 52 = .ok (.ireturn, 1) := by decide +kernel
theorem dX5_oneLifts_53 : decode cX5_oneLifts 53 = .ok (.iload_n 3, 1) := by decide +kernel
theorem dX5_oneLifts_54 : decode cX5_oneLifts 54 = .ok (.invokestatic 25, 3) := by decide +kernel
theorem dX5_oneLifts_57 : decode cX5_oneLifts 57 = .ok (.ireturn, 1) := by decide +kernel
theorem dX5_oneLifts_58 : decode cX5_oneLifts 58 = .ok (.iload_n 2, 1) := by decide +kernel
theorem dX5_oneLifts_59 : decode cX5_oneLifts 59 = .ok (.bipush 18, 2) := by decide +kernel
theorem dX5_oneLifts_61 : decode cX5_oneLifts 61 = .ok (.if_icmp .ge 14, 3) := by decide +kernel
theorem dX5_oneLifts_64 : decode cX5_oneLifts 64 = .ok (.iconst 0, 1) := by decide +kernel
theorem dX5_oneLifts_65 : decode cX5_oneLifts 65 = .ok (.iload_n 3, 1) := by decide +kernel
theorem dX5_oneLifts_66 : decode cX5_oneLifts 66 = .ok (.bipush 6, 2) := by decide +kernel
theorem dX5_oneLifts_68 : decode cX5_oneLifts 68 = .ok (.isub, 1) := by decide +kernel
theorem dX5_oneLifts_69 : decode cX5_oneLifts 69 = .ok (.invokestatic 28, 3) := by decide +kernel
theorem dX5_oneLifts_72 : decode cX5_oneLifts 72 = .ok (.goto 4, 3) := by decide +kernel
theorem dX5_oneLifts_75 : decode cX5_oneLifts 75 = .ok (.iload_n 3, 1) := by decide +kernel
theorem dX5_oneLifts_76 : decode cX5_oneLifts 76 = .ok (.ireturn, 1) := by decide +kernel
theorem dX5_oneLifts_77 : decode cX5_oneLifts 77 = .ok (.iload_n 2, 1) := by decide +kernel
theorem dX5_oneLifts_78 : decode cX5_oneLifts 78 = .ok (.bipush 10, 2) := by decide +kernel
theorem dX5_oneLifts_80 : decode cX5_oneLifts 80 = .ok (.irem, 1) := by decide +kernel
theorem dX5_oneLifts_81 : decode cX5_oneLifts 81 = .ok (.iconst 5, 1) := by decide +kernel
theorem dX5_oneLifts_82 : decode cX5_oneLifts 82 = .ok (.if_icmp .ne 12, 3) := by decide +kernel
theorem dX5_oneLifts_85 : decode cX5_oneLifts 85 = .ok (.iconst 2, 1) := by decide +kernel
theorem dX5_oneLifts_86 : decode cX5_oneLifts 86 = .ok (.iload_n 3, 1) := by decide +kernel
theorem dX5_oneLifts_87 : decode cX5_oneLifts 87 = .ok (.invokestatic 22, 3) := by decide +kernel
theorem dX5_oneLifts_90 : decode cX5_oneLifts 90 = .ok (.imul, 1) := by decide +kernel
theorem dX5_oneLifts_91 : decode cX5_oneLifts 91 = .ok (.goto 7, 3) := by decide +kernel
theorem dX5_oneLifts_94 : decode cX5_oneLifts 94 = .ok (.iload_n 3, 1) := by decide +kernel
theorem dX5_oneLifts_95 : decode cX5_oneLifts 95 = .ok (.invokestatic 22, 3) := by decide +kernel
theorem dX5_oneLifts_98 : decode cX5_oneLifts 98 = .ok (.ireturn, 1) := by decide +kernel
theorem dX5_oneLifts_99 : decode cX5_oneLifts 99 = .ok (.iconst 0, 1) := by decide +kernel
theorem dX5_oneLifts_100 : decode cX5_oneLifts 100 = .ok (.iload_n 3, 1) := by decide +kernel
theorem dX5_oneLifts_101 : decode cX5_oneLifts 101 = .ok (.invokestatic 25, 3) := by decide +kernel
theorem dX5_oneLifts_104 : decode cX5_oneLifts 104 = .ok (.iconst 0, 1) := by decide +kernel
theorem dX5_oneLifts_105 : decode cX5_oneLifts 105 = .ok (.iload_n 2, 1) := by decide +kernel
theorem dX5_oneLifts_106 : decode cX5_oneLifts 106 = .ok (.bipush 60, 2) := by decide +kernel
theorem dX5_oneLifts_108 : decode cX5_oneLifts 108 = .ok (.isub, 1) := by decide +kernel
theorem dX5_oneLifts_109 : decode cX5_oneLifts 109 = .ok (.invokestatic 28, 3) := by decide +kernel
theorem dX5_oneLifts_112 : decode cX5_oneLifts 112 = .ok (.iconst 5, 1) := by decide +kernel
theorem dX5_oneLifts_113 : decode cX5_oneLifts 113 = .ok (.idiv, 1) := by decide +kernel
theorem dX5_oneLifts_114 : decode cX5_oneLifts 114 = .ok (.isub, 1) := by decide +kernel
theorem dX5_oneLifts_115 : decode cX5_oneLifts 115 = .ok (.invokestatic 28, 3) := by decide +kernel
theorem dX5_oneLifts_118 : decode cX5_oneLifts 118 = .ok (.ireturn, 1) := by decide +kernel
theorem dX5_oneLifts_119 : decode cX5_oneLifts 119 = .ok (.iload_n 3, 1) := by decide +kernel
theorem dX5_oneLifts_120 : decode cX5_oneLifts 120 = .ok (.ireturn, 1) := by decide +kernel
theorem dX5_smith_0 : decode cX5_smith 0 = .ok (.iload_n 0, 1) := by decide +kernel
theorem dX5_smith_1 : decode cX5_smith 1 = .ok (.bipush 8, 2) := by decide +kernel
theorem dX5_smith_3 : decode cX5_smith 3 = .ok (.iadd, 1) := by decide +kernel
theorem dX5_smith_4 : decode cX5_smith 4 = .ok (.ireturn, 1) := by decide +kernel
theorem dX5_weak_0 : decode cX5_weak 0 = .ok (.iload_n 0, 1) := by decide +kernel
theorem dX5_weak_1 : decode cX5_weak 1 = .ok (.iconst 2, 1) := by decide +kernel
theorem dX5_weak_2 : decode cX5_weak 2 = .ok (.idiv, 1) := by decide +kernel
theorem dX5_weak_3 : decode cX5_weak 3 = .ok (.ireturn, 1) := by decide +kernel
theorem dX6_init_0 : decode cX6_init 0 = .ok (.aload_n 0, 1) := by decide +kernel
theorem dX6_init_1 : decode cX6_init 1 = .ok (.invokespecial 3, 3) := by decide +kernel
theorem dX6_init_4 : decode cX6_init 4 = .ok (.aload_n 0, 1) := by decide +kernel
theorem dX6_init_5 : decode cX6_init 5 = .ok (.bipush 7, 2) := by decide +kernel
theorem dX6_init_7 : decode cX6_init 7 = .ok (.newarray .int, 2) := by decide +kernel
theorem dX6_init_9 : decode cX6_init 9 = .ok (.putfield 9, 3) := by decide +kernel
theorem dX6_init_12 : decode cX6_init 12 = .ok (.aload_n 0, 1) := by decide +kernel
theorem dX6_init_13 : decode cX6_init 13 = .ok (.bipush 7, 2) := by decide +kernel
theorem dX6_init_15 : decode cX6_init 15 = .ok (.newarray .int, 2) := by decide +kernel
theorem dX6_init_17 : decode cX6_init 17 = .ok (.putfield 15, 3) := by decide +kernel
theorem dX6_init_20 : decode cX6_init 20 = .ok (.aload_n 0, 1) := by decide +kernel
theorem dX6_init_21 : decode cX6_init 21 = .ok (.bipush 7, 2) := by decide +kernel
theorem dX6_init_23 : decode cX6_init 23 = .ok (.newarray .int, 2) := by decide +kernel
theorem dX6_init_25 : decode cX6_init 25 = .ok (.putfield 18, 3) := by decide +kernel
theorem dX6_init_28 : decode cX6_init 28 = .ok (.aload_n 0, 1) := by decide +kernel
theorem dX6_init_29 : decode cX6_init 29 = .ok (.bipush 7, 2) := by decide +kernel
theorem dX6_init_31 : decode cX6_init 31 = .ok (.newarray .int, 2) := by decide +kernel
theorem dX6_init_33 : decode cX6_init 33 = .ok (.putfield 21, 3) := by decide +kernel
theorem dX6_init_36 : decode cX6_init 36 = .ok (.aload_n 0, 1) := by decide +kernel
theorem dX6_init_37 : decode cX6_init 37 = .ok (.new 24, 3) := by decide +kernel
theorem dX6_init_40 : decode cX6_init 40 = .ok (.dup, 1) := by decide +kernel
theorem dX6_init_41 : decode cX6_init 41 = .ok (.invokespecial 26, 3) := by decide +kernel
theorem dX6_init_44 : decode cX6_init 44 = .ok (.putfield 27, 3) := by decide +kernel
theorem dX6_init_47 : decode cX6_init 47 = .ok (.aload_n 0, 1) := by decide +kernel
theorem dX6_init_48 : decode cX6_init 48 = .ok (.bipush 8, 2) := by decide +kernel
theorem dX6_init_50 : decode cX6_init 50 = .ok (.anewarray 24, 3) := by decide +kernel
theorem dX6_init_53 : decode cX6_init 53 = .ok (.putfield 31, 3) := by decide +kernel
theorem dX6_init_56 : decode cX6_init 56 = .ok (.aload_n 0, 1) := by decide +kernel
theorem dX6_init_57 : decode cX6_init 57 = .ok (.new 35, 3) := by decide +kernel
theorem dX6_init_60 : decode cX6_init 60 = .ok (.dup, 1) := by decide +kernel
theorem dX6_init_61 : decode cX6_init 61 = .ok (.iconst 5, 1) := by decide +kernel
theorem dX6_init_62 : decode cX6_init 62 = .ok (.invokespecial 37, 3) := by decide +kernel
theorem dX6_init_65 : decode cX6_init 65 = .ok (.putfield 40, 3) := by decide +kernel
theorem dX6_init_68 : decode cX6_init 68 = .ok (.aload_n 0, 1) := by decide +kernel
theorem dX6_init_69 : decode cX6_init 69 = .ok (.new 35, 3) := by decide +kernel
theorem dX6_init_72 : decode cX6_init 72 = .ok (.dup, 1) := by decide +kernel
theorem dX6_init_73 : decode cX6_init 73 = .ok (.bipush 6, 2) := by decide +kernel
theorem dX6_init_75 : decode cX6_init 75 = .ok (.invokespecial 37, 3) := by decide +kernel
theorem dX6_init_78 : decode cX6_init 78 = .ok (.putfield 44, 3) := by decide +kernel
theorem dX6_init_81 : decode cX6_init 81 = .ok (.aload_n 0, 1) := by decide +kernel
theorem dX6_init_82 : decode cX6_init 82 = .ok (.new 35, 3) := by decide +kernel
theorem dX6_init_85 : decode cX6_init 85 = .ok (.dup, 1) := by decide +kernel
theorem dX6_init_86 : decode cX6_init 86 = .ok (.bipush 6, 2) := by decide +kernel
theorem dX6_init_88 : decode cX6_init 88 = .ok (.invokespecial 37, 3) := by decide +kernel
theorem dX6_init_91 : decode cX6_init 91 = .ok (.putfield 47, 3) := by decide +kernel
theorem dX6_init_94 : decode cX6_init 94 = .ok (.iconst 0, 1) := by decide +kernel
theorem dX6_init_95 : decode cX6_init 95 = .ok (.istore_n 1, 1) := by decide +kernel
theorem dX6_init_96 : decode cX6_init 96 = .ok (.iload_n 1, 1) := by decide +kernel
theorem dX6_init_97 : decode cX6_init 97 = .ok (.bipush 8, 2) := by decide +kernel
theorem dX6_init_99 : decode cX6_init 99 = .ok (.if_icmp .ge 22, 3) := by decide +kernel
theorem dX6_init_102 : decode cX6_init 102 = .ok (.aload_n 0, 1) := by decide +kernel
theorem dX6_init_103 : decode cX6_init 103 = .ok (.getfield 31, 3) := by decide +kernel
theorem dX6_init_106 : decode cX6_init 106 = .ok (.iload_n 1, 1) := by decide +kernel
theorem dX6_init_107 : decode cX6_init 107 = .ok (.new 24, 3) := by decide +kernel
theorem dX6_init_110 : decode cX6_init 110 = .ok (.dup, 1) := by decide +kernel
theorem dX6_init_111 : decode cX6_init 111 = .ok (.invokespecial 26, 3) := by decide +kernel
theorem dX6_init_114 : decode cX6_init 114 = .ok (.aastore, 1) := by decide +kernel
theorem dX6_init_115 : decode cX6_init 115 = .ok (.iinc 1 1, 3) := by decide +kernel
theorem dX6_init_118 : decode cX6_init 118 = .ok (.goto (-22), 3) := by decide +kernel
theorem dX6_init_121 : decode cX6_init 121 = .ok (.return_, 1) := by decide +kernel
theorem dX6_startAnew_0 : decode cX6_startAnew 0 = .ok (.aload_n 0, 1) := by decide +kernel
theorem dX6_startAnew_1 : decode cX6_startAnew 1 = .ok (.iconst 0, 1) := by decide +kernel
theorem dX6_startAnew_2 : decode cX6_startAnew 2 = .ok (.putfield 50, 3) := by decide +kernel
theorem dX6_startAnew_5 : decode cX6_startAnew 5 = .ok (.aload_n 0, 1) := by decide +kernel
theorem dX6_startAnew_6 : decode cX6_startAnew 6 = .ok (.iconst 0, 1) := by decide +kernel
theorem dX6_startAnew_7 : decode cX6_startAnew 7 = .ok (.putfield 54, 3) := by decide +kernel
theorem dX6_startAnew_10 : decode cX6_startAnew 10 = .ok (.aload_n 0, 1) := by decide +kernel
theorem dX6_startAnew_11 : decode cX6_startAnew 11 = .ok (.getfield 27, 3) := by decide +kernel
theorem dX6_startAnew_14 : decode cX6_startAnew 14 = .ok (.iconst 0, 1) := by decide +kernel
theorem dX6_startAnew_15 : decode cX6_startAnew 15 = .ok (.putfield 57, 3) := by decide +kernel
theorem dX6_startAnew_18 : decode cX6_startAnew 18 = .ok (.aload_n 0, 1) := by decide +kernel
theorem dX6_startAnew_19 : decode cX6_startAnew 19 = .ok (.getfield 27, 3) := by decide +kernel
theorem dX6_startAnew_22 : decode cX6_startAnew 22 = .ok (.iconst 0, 1) := by decide +kernel
theorem dX6_startAnew_23 : decode cX6_startAnew 23 = .ok (.putfield 60, 3) := by decide +kernel
theorem dX6_startAnew_26 : decode cX6_startAnew 26 = .ok (.aload_n 0, 1) := by decide +kernel
theorem dX6_startAnew_27 : decode cX6_startAnew 27 = .ok (.iconst 0, 1) := by decide +kernel
theorem dX6_startAnew_28 : decode cX6_startAnew 28 = .ok (.putfield 63, 3) := by decide +kernel
theorem dX6_startAnew_31 : decode cX6_startAnew 31 = .ok (.aload_n 0, 1) := by decide +kernel
theorem dX6_startAnew_32 : decode cX6_startAnew 32 = .ok (.getfield 40, 3) := by decide +kernel
theorem dX6_startAnew_35 : decode cX6_startAnew 35 = .ok (.invokevirtual 66, 3) := by decide +kernel
theorem dX6_startAnew_38 : decode cX6_startAnew 38 = .ok (.pop, 1) := by decide +kernel
theorem dX6_startAnew_39 : decode cX6_startAnew 39 = .ok (.aload_n 0, 1) := by decide +kernel
theorem dX6_startAnew_40 : decode cX6_startAnew 40 = .ok (.getfield 44, 3) := by decide +kernel
theorem dX6_startAnew_43 : decode cX6_startAnew 43 = .ok (.invokevirtual 66, 3) := by decide +kernel
theorem dX6_startAnew_46 : decode cX6_startAnew 46 = .ok (.pop, 1) := by decide +kernel
theorem dX6_startAnew_47 : decode cX6_startAnew 47 = .ok (.aload_n 0, 1) := by decide +kernel
theorem dX6_startAnew_48 : decode cX6_startAnew 48 = .ok (.getfield 47, 3) := by decide +kernel
theorem dX6_startAnew_51 : decode cX6_startAnew 51 = .ok (.invokevirtual 66, 3) := by decide +kernel
theorem dX6_startAnew_54 : decode cX6_startAnew 54 = .ok (.pop, 1) := by decide +kernel
theorem dX6_startAnew_55 : decode cX6_startAnew 55 = .ok (.return_, 1) := by decide +kernel
theorem dX6_copyFrom_0 : decode cX6_copyFrom 0 = .ok (.aload_n 0, 1) := by decide +kernel
theorem dX6_copyFrom_1 : decode cX6_copyFrom 1 = .ok (.aload_n 1, 1) := by decide +kernel
theorem dX6_copyFrom_2 : decode cX6_copyFrom 2 = .ok (.getfield 50, 3) := by decide +kernel
theorem dX6_copyFrom_5 : decode cX6_copyFrom 5 = .ok (.putfield 50, 3) := by decide +kernel
theorem dX6_copyFrom_8 : decode cX6_copyFrom 8 = .ok (.aload_n 0, 1) := by decide +kernel
theorem dX6_copyFrom_9 : decode cX6_copyFrom 9 = .ok (.aload_n 1, 1) := by decide +kernel
theorem dX6_copyFrom_10 : decode cX6_copyFrom 10 = .ok (.getfield 54, 3) := by decide +kernel
theorem dX6_copyFrom_13 : decode cX6_copyFrom 13 = .ok (.putfield 54, 3) := by decide +kernel
theorem dX6_copyFrom_16 : decode cX6_copyFrom 16 = .ok (.iconst 0, 1) := by decide +kernel
theorem dX6_copyFrom_17 : decode cX6_copyFrom 17 = .ok (.istore_n 2, 1) := by decide +kernel
theorem dX6_copyFrom_18 : decode cX6_copyFrom 18 = .ok (.iload_n 2, 1) := by decide +kernel
theorem dX6_copyFrom_19 : decode cX6_copyFrom 19 = .ok (.bipush 7, 2) := by decide +kernel
theorem dX6_copyFrom_21 : decode cX6_copyFrom 21 = .ok (.if_icmp .ge 33, 3) := by decide +kernel
theorem dX6_copyFrom_24 : decode cX6_copyFrom 24 = .ok (.aload_n 0, 1) := by decide +kernel
theorem dX6_copyFrom_25 : decode cX6_copyFrom 25 = .ok (.getfield 9, 3) := by decide +kernel
theorem dX6_copyFrom_28 : decode cX6_copyFrom 28 = .ok (.iload_n 2, 1) := by decide +kernel
theorem dX6_copyFrom_29 : decode cX6_copyFrom 29 = .ok (.aload_n 1, 1) := by decide +kernel
theorem dX6_copyFrom_30 : decode cX6_copyFrom 30 = .ok (.getfield 9, 3) := by decide +kernel
theorem dX6_copyFrom_33 : decode cX6_copyFrom 33 = .ok (.iload_n 2, 1) := by decide +kernel
theorem dX6_copyFrom_34 : decode cX6_copyFrom 34 = .ok (.iaload, 1) := by decide +kernel
theorem dX6_copyFrom_35 : decode cX6_copyFrom 35 = .ok (.iastore, 1) := by decide +kernel
theorem dX6_copyFrom_36 : decode cX6_copyFrom 36 = .ok (.aload_n 0, 1) := by decide +kernel
theorem dX6_copyFrom_37 : decode cX6_copyFrom 37 = .ok (.getfield 15, 3) := by decide +kernel
theorem dX6_copyFrom_40 : decode cX6_copyFrom 40 = .ok (.iload_n 2, 1) := by decide +kernel
end
section
theorem dX6_copyFrom_41 : decode cX6_copyFrom 41 = .ok (.aload_n 1, 1) := by decide +kernel
theorem dX6_copyFrom_42 : decode cX6_copyFrom 42 = .ok (.getfield 15, 3) := by decide +kernel
theorem dX6_copyFrom_45 : decode cX6_copyFrom 45 = .ok (.iload_n 2, 1) := by decide +kernel
theorem dX6_copyFrom_46 : decode cX6_copyFrom 46 = .ok (.iaload, 1) := by decide +kernel
theorem dX6_copyFrom_47 : decode cX6_copyFrom 47 = .ok (.iastore, 1) := by decide +kernel
theorem dX6_copyFrom_48 : decode cX6_copyFrom 48 = .ok (.iinc 2 1, 3) := by decide +kernel
theorem dX6_copyFrom_51 : decode cX6_copyFrom 51 = .ok (.goto (-33), 3) := by decide +kernel
theorem dX6_copyFrom_54 : decode cX6_copyFrom 54 = .ok (.iconst 0, 1) := by decide +kernel
theorem dX6_copyFrom_55 : decode cX6_copyFrom 55 = .ok (.istore_n 2, 1) := by decide +kernel
theorem dX6_copyFrom_56 : decode cX6_copyFrom 56 = .ok (.iload_n 2, 1) := by decide +kernel
theorem dX6_copyFrom_57 : decode cX6_copyFrom 57 = .ok (.bipush 7, 2) := by decide +kernel
theorem dX6_copyFrom_59 : decode cX6_copyFrom 59 = .ok (.if_icmp .ge 33, 3) := by decide +kernel
theorem dX6_copyFrom_62 : decode cX6_copyFrom 62 = .ok (.aload_n 0, 1) := by decide +kernel
theorem dX6_copyFrom_63 : decode cX6_copyFrom 63 = .ok (.getfield 18, 3) := by decide +kernel
theorem dX6_copyFrom_66 : decode cX6_copyFrom 66 = .ok (.iload_n 2, 1) := by decide +kernel
theorem dX6_copyFrom_67 : decode cX6_copyFrom 67 = .ok (.aload_n 1, 1) := by decide +kernel
theorem dX6_copyFrom_68 : decode cX6_copyFrom 68 = .ok (.getfield 18, 3) := by decide +kernel
theorem dX6_copyFrom_71 : decode cX6_copyFrom 71 = .ok (.iload_n 2, 1) := by decide +kernel
theorem dX6_copyFrom_72 : decode cX6_copyFrom 72 = .ok (.iaload, 1) := by decide +kernel
theorem dX6_copyFrom_73 : decode cX6_copyFrom 73 = .ok (.iastore, 1) := by decide +kernel
theorem dX6_copyFrom_74 : decode cX6_copyFrom 74 = .ok (.aload_n 0, 1) := by decide +kernel
theorem dX6_copyFrom_75 : decode cX6_copyFrom 75 = .ok (.getfield 21, 3) := by decide +kernel
theorem dX6_copyFrom_78 : decode cX6_copyFrom 78 = .ok (.iload_n 2, 1) := by decide +kernel
theorem dX6_copyFrom_79 : decode cX6_copyFrom 79 = .ok (.aload_n 1, 1) := by decide +kernel
theorem dX6_copyFrom_80 : decode cX6_copyFrom 80 = .ok (.getfield 21, 3) := by decide +kernel
theorem dX6_copyFrom_83 : decode cX6_copyFrom 83 = .ok (.iload_n 2, 1) := by decide +kernel
theorem dX6_copyFrom_84 : decode cX6_copyFrom 84 = .ok (.iaload, 1) := by decide +kernel
theorem dX6_copyFrom_85 : decode cX6_copyFrom 85 = .ok (.iastore, 1) := by decide +kernel
theorem dX6_copyFrom_86 : decode cX6_copyFrom 86 = .ok (.iinc 2 1, 3) := by decide +kernel
theorem dX6_copyFrom_89 : decode cX6_copyFrom 89 = .ok (.goto (-33), 3) := by decide +kernel
theorem dX6_copyFrom_92 : decode cX6_copyFrom 92 = .ok (.aload_n 0, 1) := by decide +kernel
theorem dX6_copyFrom_93 : decode cX6_copyFrom 93 = .ok (.getfield 27, 3) := by decide +kernel
theorem dX6_copyFrom_96 : decode cX6_copyFrom 96 = .ok (.aload_n 1, 1) := by decide +kernel
theorem dX6_copyFrom_97 : decode cX6_copyFrom 97 = .ok (.getfield 27, 3) := by decide +kernel
theorem dX6_copyFrom_100 : decode cX6_copyFrom 100 = .ok (.invokevirtual 70, 3) := by decide +kernel
theorem dX6_copyFrom_103 : decode cX6_copyFrom 103 = .ok (.aload_n 0, 1) := by decide +kernel
theorem dX6_copyFrom_104 : decode cX6_copyFrom 104 = .ok (.aload_n 1, 1) := by decide +kernel
theorem dX6_copyFrom_105 : decode cX6_copyFrom 105 = .ok (.getfield 63, 3) := by decide +kernel
theorem dX6_copyFrom_108 : decode cX6_copyFrom 108 = .ok (.putfield 63, 3) := by decide +kernel
theorem dX6_copyFrom_111 : decode cX6_copyFrom 111 = .ok (.iconst 0, 1) := by decide +kernel
theorem dX6_copyFrom_112 : decode cX6_copyFrom 112 = .ok (.istore_n 2, 1) := by decide +kernel
theorem dX6_copyFrom_113 : decode cX6_copyFrom 113 = .ok (.iload_n 2, 1) := by decide +kernel
theorem dX6_copyFrom_114 : decode cX6_copyFrom 114 = .ok (.aload_n 0, 1) := by decide +kernel
theorem dX6_copyFrom_115 : decode cX6_copyFrom 115 = .ok (.getfield 63, 3) := by decide +kernel
theorem dX6_copyFrom_118 : decode cX6_copyFrom 118 = .ok (.if_icmp .ge 24, 3) := by decide +kernel
theorem dX6_copyFrom_121 : decode cX6_copyFrom 121 = .ok (.aload_n 0, 1) := by decide +kernel
theorem dX6_copyFrom_122 : decode cX6_copyFrom 122 = .ok (.getfield 31, 3) := by decide +kernel
theorem dX6_copyFrom_125 : decode cX6_copyFrom 125 = .ok (.iload_n 2, 1) := by decide +kernel
theorem dX6_copyFrom_126 : decode cX6_copyFrom 126 = .ok (.aaload, 1) := by decide +kernel
theorem dX6_copyFrom_127 : decode cX6_copyFrom 127 = .ok (.aload_n 1, 1) := by decide +kernel
theorem dX6_copyFrom_128 : decode cX6_copyFrom 128 = .ok (.getfield 31, 3) := by decide +kernel
theorem dX6_copyFrom_131 : decode cX6_copyFrom 131 = .ok (.iload_n 2, 1) := by decide +kernel
theorem dX6_copyFrom_132 : decode cX6_copyFrom 132 = .ok (.aaload, 1) := by decide +kernel
theorem dX6_copyFrom_133 : decode cX6_copyFrom 133 = .ok (.invokevirtual 70, 3) := by decide +kernel
theorem dX6_copyFrom_136 : decode cX6_copyFrom 136 = .ok (.iinc 2 1, 3) := by decide +kernel
theorem dX6_copyFrom_139 : decode cX6_copyFrom 139 = .ok (.goto (-26), 3) := by decide +kernel
theorem dX6_copyFrom_142 : decode cX6_copyFrom 142 = .ok (.aload_n 0, 1) := by decide +kernel
theorem dX6_copyFrom_143 : decode cX6_copyFrom 143 = .ok (.getfield 40, 3) := by decide +kernel
theorem dX6_copyFrom_146 : decode cX6_copyFrom 146 = .ok (.aload_n 1, 1) := by decide +kernel
theorem dX6_copyFrom_147 : decode cX6_copyFrom 147 = .ok (.getfield 40, 3) := by decide +kernel
theorem dX6_copyFrom_150 : decode cX6_copyFrom 150 = .ok (.invokevirtual 74, 3) := by decide +kernel
theorem dX6_copyFrom_153 : decode cX6_copyFrom 153 = .ok (.aload_n 0, 1) := by decide +kernel
theorem dX6_copyFrom_154 : decode cX6_copyFrom 154 = .ok (.getfield 44, 3) := by decide +kernel
theorem dX6_copyFrom_157 : decode cX6_copyFrom 157 = .ok (.aload_n 1, 1) := by decide +kernel
theorem dX6_copyFrom_158 : decode cX6_copyFrom 158 = .ok (.getfield 44, 3) := by decide +kernel
theorem dX6_copyFrom_161 : decode cX6_copyFrom 161 = .ok (.invokevirtual 74, 3) := by decide +kernel
theorem dX6_copyFrom_164 : decode cX6_copyFrom 164 = .ok (.aload_n 0, 1) := by decide +kernel
theorem dX6_copyFrom_165 : decode cX6_copyFrom 165 = .ok (.getfield 47, 3) := by decide +kernel
theorem dX6_copyFrom_168 : decode cX6_copyFrom 168 = .ok (.aload_n 1, 1) := by decide +kernel
theorem dX6_copyFrom_169 : decode cX6_copyFrom 169 = .ok (.getfield 47, 3) := by decide +kernel
theorem dX6_copyFrom_172 : decode cX6_copyFrom 172 = .ok (.invokevirtual 74, 3) := by decide +kernel
theorem dX6_copyFrom_175 : decode cX6_copyFrom 175 = .ok (.return_, 1) := by decide +kernel
theorem dX6_hasThing_0 : decode cX6_hasThing 0 = .ok (.iload_n 1, 1) := by decide +kernel
theorem dX6_hasThing_1 : decode cX6_hasThing 1 = .ok (.ifCond .lt 15, 3) := by decide +kernel
theorem dX6_hasThing_4 : decode cX6_hasThing 4 = .ok (.iload_n 1, 1) := by decide +kernel
theorem dX6_hasThing_5 : decode cX6_hasThing 5 = .ok (.aload_n 0, 1) := by decide +kernel
theorem dX6_hasThing_6 : decode cX6_hasThing 6 = .ok (.getfield 50, 3) := by decide +kernel
theorem dX6_hasThing_9 : decode cX6_hasThing 9 = .ok (.if_icmp .ge 7, 3) := by decide +kernel
theorem dX6_hasThing_12 : decode cX6_hasThing 12 = .ok (.iconst 1, 1) := by decide +kernel
theorem dX6_hasThing_13 : decode cX6_hasThing 13 = .ok (.goto 4, 3) := by decide +kernel
theorem dX6_hasThing_16 : decode cX6_hasThing 16 = .ok (.iconst 0, 1) := by decide +kernel
theorem dX6_hasThing_17 : decode cX6_hasThing 17 = .ok (.ireturn, 1) := by decide +kernel
theorem dX6_hasOne_0 : decode cX6_hasOne 0 = .ok (.iload_n 1, 1) := by decide +kernel
theorem dX6_hasOne_1 : decode cX6_hasOne 1 = .ok (.ifCond .lt 15, 3) := by decide +kernel
theorem dX6_hasOne_4 : decode cX6_hasOne 4 = .ok (.iload_n 1, 1) := by decide +kernel
theorem dX6_hasOne_5 : decode cX6_hasOne 5 = .ok (.aload_n 0, 1) := by decide +kernel
theorem dX6_hasOne_6 : decode cX6_hasOne 6 = .ok (.getfield 54, 3) := by decide +kernel
theorem dX6_hasOne_9 : decode cX6_hasOne 9 = .ok (.if_icmp .ge 7, 3) := by decide +kernel
theorem dX6_hasOne_12 : decode cX6_hasOne 12 = .ok (.iconst 1, 1) := by decide +kernel
theorem dX6_hasOne_13 : decode cX6_hasOne 13 = .ok (.goto 4, 3) := by decide +kernel
theorem dX6_hasOne_16 : decode cX6_hasOne 16 = .ok (.iconst 0, 1) := by decide +kernel
theorem dX6_hasOne_17 : decode cX6_hasOne 17 = .ok (.ireturn, 1) := by decide +kernel
theorem dX6_addThing_0 : decode cX6_addThing 0 = .ok (.aload_n 0, 1) := by decide +kernel
theorem dX6_addThing_1 : decode cX6_addThing 1 = .ok (.getfield 50, 3) := by decide +kernel
theorem dX6_addThing_4 : decode cX6_addThing 4 = .ok (.istore_n 3, 1) := by decide +kernel
theorem dX6_addThing_5 : decode cX6_addThing 5 = .ok (.aload_n 0, 1) := by decide +kernel
theorem dX6_addThing_6 : decode cX6_addThing 6 = .ok (.getfield 9, 3) := by decide +kernel
theorem dX6_addThing_9 : decode cX6_addThing 9 = .ok (.iload_n 3, 1) := by decide +kernel
theorem dX6_addThing_10 : decode cX6_addThing 10 = .ok (.iload_n 1, 1) := by decide +kernel
theorem dX6_addThing_11 : decode cX6_addThing 11 = .ok (.iastore, 1) := by decide +kernel
theorem dX6_addThing_12 : decode cX6_addThing 12 = .ok (.aload_n 0, 1) := by decide +kernel
theorem dX6_addThing_13 : decode cX6_addThing 13 = .ok (.getfield 15, 3) := by decide +kernel
theorem dX6_addThing_16 : decode cX6_addThing 16 = .ok (.iload_n 3, 1) := by decide +kernel
theorem dX6_addThing_17 : decode cX6_addThing 17 = .ok (.iload_n 2, 1) := by decide +kernel
theorem dX6_addThing_18 : decode cX6_addThing 18 = .ok (.iastore, 1) := by decide +kernel
theorem dX6_addThing_19 : decode cX6_addThing 19 = .ok (.aload_n 0, 1) := by decide +kernel
theorem dX6_addThing_20 : decode cX6_addThing 20 = .ok (.dup, 1) := by decide +kernel
theorem dX6_addThing_21 : decode cX6_addThing 21 = .ok (.getfield 50, 3) := by decide +kernel
theorem dX6_addThing_24 : decode cX6_addThing 24 = .ok (.iconst 1, 1) := by decide +kernel
theorem dX6_addThing_25 : decode cX6_addThing 25 = .ok (.iadd, 1) := by decide +kernel
theorem dX6_addThing_26 : decode cX6_addThing 26 = .ok (.putfield 50, 3) := by decide +kernel
theorem dX6_addThing_29 : decode cX6_addThing 29 = .ok (.aload_n 0, 1) := by decide +kernel
theorem dX6_addThing_30 : decode cX6_addThing 30 = .ok (.iconst 0, 1) := by decide +kernel
theorem dX6_addThing_31 : decode cX6_addThing 31 = .ok (.putfield 63, 3) := by decide +kernel
theorem dX6_addThing_34 : decode cX6_addThing 34 = .ok (.iload_n 3, 1) := by decide +kernel
theorem dX6_addThing_35 : decode cX6_addThing 35 = .ok (.ireturn, 1) := by decide +kernel
theorem dX6_addOne_0 : decode cX6_addOne 0 = .ok (.aload_n 0, 1) := by decide +kernel
theorem dX6_addOne_1 : decode cX6_addOne 1 = .ok (.getfield 54, 3) := by decide +kernel
theorem dX6_addOne_4 : decode cX6_addOne 4 = .ok (.istore 4, 2) := by decide +kernel
theorem dX6_addOne_6 : decode cX6_addOne 6 = .ok (.aload_n 0, 1) := by decide +kernel
theorem dX6_addOne_7 : decode cX6_addOne 7 = .ok (.getfield 18, 3) := by decide +kernel
theorem dX6_addOne_10 : decode cX6_addOne 10 = .ok (.iload 4, 2) := by decide +kernel
theorem dX6_addOne_12 : decode cX6_addOne 12 = .ok (.iload_n 1, 1) := by decide +kernel
theorem dX6_addOne_13 : decode cX6_addOne 13 = .ok (.iastore, 1) := by decide +kernel
theorem dX6_addOne_14 : decode cX6_addOne 14 = .ok (.aload_n 0, 1) := by decide +kernel
theorem dX6_addOne_15 : decode cX6_addOne 15 = .ok (.getfield 21, 3) := by decide +kernel
theorem dX6_addOne_18 : decode cX6_addOne 18 = .ok (.iload 4, 2) := by decide +kernel
theorem dX6_addOne_20 : decode cX6_addOne 20 = .ok (.iload_n 2, 1) := by decide +kernel
theorem dX6_addOne_21 : decode cX6_addOne 21 = .ok (.iastore, 1) := by decide +kernel
theorem dX6_addOne_22 : decode cX6_addOne 22 = .ok (.aload_n 0, 1) := by decide +kernel
theorem dX6_addOne_23 : decode cX6_addOne 23 = .ok (.getfield 27, 3) := by decide +kernel
theorem dX6_addOne_26 : decode cX6_addOne 26 = .ok (.getfield 77, 3) := by decide +kernel
theorem dX6_addOne_29 : decode cX6_addOne 29 = .ok (.iload 4, 2) := by decide +kernel
theorem dX6_addOne_31 : decode cX6_addOne 31 = .ok (.iload_n 3, 1) := by decide +kernel
theorem dX6_addOne_32 : decode cX6_addOne 32 = .ok (.iastore, 1) := by decide +kernel
theorem dX6_addOne_33 : decode cX6_addOne 33 = .ok (.aload_n 0, 1) := by decide +kernel
theorem dX6_addOne_34 : decode cX6_addOne 34 = .ok (.getfield 27, 3) := by decide +kernel
theorem dX6_addOne_37 : decode cX6_addOne 37 = .ok (.getfield 80, 3) := by decide +kernel
theorem dX6_addOne_40 : decode cX6_addOne 40 = .ok (.iload 4, 2) := by decide +kernel
theorem dX6_addOne_42 : decode cX6_addOne 42 = .ok (.iconst (-1), 1) := by decide +kernel
theorem dX6_addOne_43 : decode cX6_addOne 43 = .ok (.iastore, 1) := by decide +kernel
theorem dX6_addOne_44 : decode cX6_addOne 44 = .ok (.aload_n 0, 1) := by decide +kernel
theorem dX6_addOne_45 : decode cX6_addOne 45 = .ok (.getfield 27, 3) := by decide +kernel
theorem dX6_addOne_48 : decode cX6_addOne 48 = .ok (.dup, 1) := by decide +kernel
theorem dX6_addOne_49 : decode cX6_addOne 49 = .ok (.getfield 57, 3) := by decide +kernel
theorem dX6_addOne_52 : decode cX6_addOne 52 = .ok (.iconst 1, 1) := by decide +kernel
theorem dX6_addOne_53 : decode cX6_addOne 53 = .ok (.iload 4, 2) := by decide +kernel
theorem dX6_addOne_55 : decode cX6_addOne 55 = .ok (.ishl, 1) := by decide +kernel
theorem dX6_addOne_56 : decode cX6_addOne 56 = .ok (.ior, 1) := by decide +kernel
theorem dX6_addOne_57 : decode cX6_addOne 57 = .ok (.putfield 57, 3) := by decide +kernel
theorem dX6_addOne_60 : decode cX6_addOne 60 = .ok (.aload_n 0, 1) := by decide +kernel
theorem dX6_addOne_61 : decode cX6_addOne 61 = .ok (.dup, 1) := by decide +kernel
theorem dX6_addOne_62 : decode cX6_addOne 62 = .ok (.getfield 54, 3) := by decide +kernel
theorem dX6_addOne_65 : decode cX6_addOne 65 = .ok (.iconst 1, 1) := by decide +kernel
theorem dX6_addOne_66 : decode cX6_addOne 66 = .ok (.iadd, 1) := by decide +kernel
theorem dX6_addOne_67 : decode cX6_addOne 67 = .ok (.putfield 54, 3) := by decide +kernel
theorem dX6_addOne_70 : decode cX6_addOne 70 = .ok (.aload_n 0, 1) := by decide +kernel
theorem dX6_addOne_71 : decode cX6_addOne 71 = .ok (.iconst 0, 1) := by decide +kernel
theorem dX6_addOne_72 : decode cX6_addOne 72 = .ok (.putfield 63, 3) := by decide +kernel
theorem dX6_addOne_75 : decode cX6_addOne 75 = .ok (.iload 4, 2) := by decide +kernel
theorem dX6_addOne_77 : decode cX6_addOne 77 = .ok (.ireturn, 1) := by decide +kernel
theorem dX6_remember_0 : decode cX6_remember 0 = .ok (.aload_n 0, 1) := by decide +kernel
theorem dX6_remember_1 : decode cX6_remember 1 = .ok (.getfield 63, 3) := by decide +kernel
theorem dX6_remember_4 : decode cX6_remember 4 = .ok (.bipush 8, 2) := by decide +kernel
theorem dX6_remember_6 : decode cX6_remember 6 = .ok (.if_icmp .lt 52, 3) := by decide +kernel
theorem dX6_remember_9 : decode cX6_remember 9 = .ok (.aload_n 0, 1) := by decide +kernel
theorem dX6_remember_10 : decode cX6_remember 10 = .ok (.getfield 31, 3) := by decide +kernel
theorem dX6_remember_13 : decode cX6_remember 13 = .ok (.iconst 0, 1) := by decide +kernel
theorem dX6_remember_14 : decode cX6_remember 14 = .ok (.aaload, 1) := by decide +kernel
theorem dX6_remember_15 : decode cX6_remember 15 = .ok (.astore_n 1, 1) := by decide +kernel
theorem dX6_remember_16 : decode cX6_remember 16 = .ok (.iconst 1, 1) := by decide +kernel
theorem dX6_remember_17 : decode cX6_remember 17 = .ok (.istore_n 2, 1) := by decide +kernel
theorem dX6_remember_18 : decode cX6_remember 18 = .ok (.iload_n 2, 1) := by decide +kernel
theorem dX6_remember_19 : decode cX6_remember 19 = .ok (.bipush 8, 2) := by decide +kernel
theorem dX6_remember_21 : decode cX6_remember 21 = .ok (.if_icmp .ge 23, 3) := by decide +kernel
theorem dX6_remember_24 : decode cX6_remember 24 = .ok (.aload_n 0, 1) := by decide +kernel
theorem dX6_remember_25 : decode cX6_remember 25 = .ok (.getfield 31, 3) := by decide +kernel
theorem dX6_remember_28 : decode cX6_remember 28 = .ok (.iload_n 2, 1) := by decide +kernel
theorem dX6_remember_29 : decode cX6_remember 29 = .ok (.iconst 1, 1) := by decide +kernel
theorem dX6_remember_30 : decode cX6_remember 30 = .ok (.isub, 1) := by decide +kernel
theorem dX6_remember_31 : decode cX6_remember 31 = .ok (.aload_n 0, 1) := by decide +kernel
theorem dX6_remember_32 : decode cX6_remember 32 = .ok (.getfield 31, 3) := by decide +kernel
theorem dX6_remember_35 : decode cX6_remember 35 = .ok (.iload_n 2, 1) := by decide +kernel
theorem dX6_remember_36 : decode cX6_remember 36 = .ok (.aaload, 1) := by decide +kernel
theorem dX6_remember_37 : decode cX6_remember 37 = .ok (.aastore, 1) := by decide +kernel
theorem dX6_remember_38 : decode cX6_remember 38 = .ok (.iinc 2 1, 3) := by decide +kernel
theorem dX6_remember_41 : decode cX6_remember 41 = .ok (.goto (-23), 3) := by decide +kernel
theorem dX6_remember_44 : decode cX6_remember 44 = .ok (.aload_n 0, 1) := by decide +kernel
theorem dX6_remember_45 : decode cX6_remember 45 = .ok (.getfield 31, 3) := by decide +kernel
theorem dX6_remember_48 : decode cX6_remember 48 = .ok (.bipush 7, 2) := by decide +kernel
theorem dX6_remember_50 : decode cX6_remember 50 = .ok (.aload_n 1, 1) := by decide +kernel
theorem dX6_remember_51 : decode cX6_remember 51 = .ok (.aastore, 1) := by decide +kernel
theorem dX6_remember_52 : decode cX6_remember 52 = .ok (.aload_n 0, 1) := by decide +kernel
theorem dX6_remember_53 : decode cX6_remember 53 = .ok (.bipush 7, 2) := by decide +kernel
theorem dX6_remember_55 : decode cX6_remember 55 = .ok (.putfield 63, 3) := by decide +kernel
theorem dX6_remember_58 : decode cX6_remember 58 = .ok (.aload_n 0, 1) := by decide +kernel
theorem dX6_remember_59 : decode cX6_remember 59 = .ok (.getfield 31, 3) := by decide +kernel
theorem dX6_remember_62 : decode cX6_remember 62 = .ok (.aload_n 0, 1) := by decide +kernel
theorem dX6_remember_63 : decode cX6_remember 63 = .ok (.getfield 63, 3) := by decide +kernel
theorem dX6_remember_66 : decode cX6_remember 66 = .ok (.aaload, 1) := by decide +kernel
theorem dX6_remember_67 : decode cX6_remember 67 = .ok (.aload_n 0, 1) := by decide +kernel
theorem dX6_remember_68 : decode cX6_remember 68 = .ok (.getfield 27, 3) := by decide +kernel
theorem dX6_remember_71 : decode cX6_remember 71 = .ok (.invokevirtual 70, 3) := by decide +kernel
theorem dX6_remember_74 : decode cX6_remember 74 = .ok (.aload_n 0, 1) := by decide +kernel
theorem dX6_remember_75 : decode cX6_remember 75 = .ok (.dup, 1) := by decide +kernel
theorem dX6_remember_76 : decode cX6_remember 76 = .ok (.getfield 63, 3) := by decide +kernel
theorem dX6_remember_79 : decode cX6_remember 79 = .ok (.iconst 1, 1) := by decide +kernel
theorem dX6_remember_80 : decode cX6_remember 80 = .ok (.iadd, 1) := by decide +kernel
theorem dX6_remember_81 : decode cX6_remember 81 = .ok (.putfield 63, 3) := by decide +kernel
theorem dX6_remember_84 : decode cX6_remember 84 = .ok (.return_, 1) := by decide +kernel
theorem dX6_bringBack_0 : decode cX6_bringBack 0 = .ok (.aload_n 0, 1) := by decide +kernel
theorem dX6_bringBack_1 : decode cX6_bringBack 1 = .ok (.dup, 1) := by decide +kernel
theorem dX6_bringBack_2 : decode cX6_bringBack 2 = .ok (.getfield 63, 3) := by decide +kernel
theorem dX6_bringBack_5 : decode cX6_bringBack 5 = .ok (.iconst 1, 1) := by decide +kernel
theorem dX6_bringBack_6 : decode cX6_bringBack 6 = .ok (.isub, 1) := by decide +kernel
theorem dX6_bringBack_7 : decode cX6_bringBack 7 = .ok (.putfield 63, 3) := by decide +kernel
theorem dX6_bringBack_10 : decode cX6_bringBack 10 = .ok (.aload_n 0, 1) := by decide +kernel
theorem dX6_bringBack_11 : decode cX6_bringBack 11 = .ok (.getfield 27, 3) := by decide +kernel
theorem dX6_bringBack_14 : decode cX6_bringBack 14 = .ok (.aload_n 0, 1) := by decide +kernel
theorem dX6_bringBack_15 : decode cX6_bringBack 15 = .ok (.getfield 31, 3) := by decide +kernel
theorem dX6_bringBack_18 : decode cX6_bringBack 18 = .ok (.aload_n 0, 1) := by decide +kernel
theorem dX6_bringBack_19 : decode cX6_bringBack 19 = .ok (.getfield 63, 3) := by decide +kernel
theorem dX6_bringBack_22 : decode cX6_bringBack 22 = .ok (.aaload, 1) := by decide +kernel
theorem dX6_bringBack_23 : decode cX6_bringBack 23 = .ok (.invokevirtual 70, 3) := by decide +kernel
theorem dX6_bringBack_26 : decode cX6_bringBack 26 = .ok (.return_, 1) := by decide +kernel
theorem dX6_mayGet_0 : decode cX6_mayGet 0 = .ok (.aload_n 0, 1) := by decide +kernel
theorem dX6_mayGet_1 : decode cX6_mayGet 1 = .ok (.getfield 27, 3) := by decide +kernel
theorem dX6_mayGet_4 : decode cX6_mayGet 4 = .ok (.iload_n 1, 1) := by decide +kernel
theorem dX6_mayGet_5 : decode cX6_mayGet 5 = .ok (.invokevirtual 83, 3) := by decide +kernel
theorem dX6_mayGet_8 : decode cX6_mayGet 8 = .ok (.ifCond .eq 20, 3) := by decide +kernel
theorem dX6_mayGet_11 : decode cX6_mayGet 11 = .ok (.aload_n 0, 1) := by decide +kernel
theorem dX6_mayGet_12 : decode cX6_mayGet 12 = .ok (.getfield 27, 3) := by decide +kernel
theorem dX6_mayGet_15 : decode cX6_mayGet 15 = .ok (.getfield 80, 3) := by decide +kernel
theorem dX6_mayGet_18 : decode cX6_mayGet 18 = .ok (.iload_n 1, 1) := by decide +kernel
theorem dX6_mayGet_19 : decode cX6_mayGet 19 = .ok (.iaload, 1) := by decide +kernel
theorem dX6_mayGet_20 : decode cX6_mayGet 20 = .ok (.iconst (-1), 1) := by decide +kernel
theorem dX6_mayGet_21 : decode cX6_mayGet 21 = .ok (.if_icmp .ne 7, 3) := by decide +kernel
theorem dX6_mayGet_24 : decode cX6_mayGet 24 = .ok (.iconst 1, 1) := by decide +kernel
theorem dX6_mayGet_25 : decode cX6_mayGet 25 = .ok (.goto 4, 3) := by decide +kernel
theorem dX6_mayGet_28 : decode cX6_mayGet 28 = .ok (.iconst 0, 1) := by decide +kernel
theorem dX6_mayGet_29 : decode cX6_mayGet 29 = .ok (.ireturn, 1) := by decide +kernel
theorem dX6_ownerOf_0 : decode cX6_ownerOf 0 = .ok (.aload_n 0, 1) := by decide +kernel
theorem dX6_ownerOf_1 : decode cX6_ownerOf 1 = .ok (.aload_n 0, 1) := by decide +kernel
theorem dX6_ownerOf_2 : decode cX6_ownerOf 2 = .ok (.getfield 27, 3) := by decide +kernel
theorem dX6_ownerOf_5 : decode cX6_ownerOf 5 = .ok (.iload_n 1, 1) := by decide +kernel
theorem dX6_ownerOf_6 : decode cX6_ownerOf 6 = .ok (.invokevirtual 87, 3) := by decide +kernel
theorem dX6_ownerOf_9 : decode cX6_ownerOf 9 = .ok (.ireturn, 1) := by decide +kernel
theorem dX6_ownerIn_0 : decode cX6_ownerIn 0 = .ok (.iconst 0, 1) := by decide +kernel
theorem dX6_ownerIn_1 : decode cX6_ownerIn 1 = .ok (.istore_n 3, 1) := by decide +kernel
theorem dX6_ownerIn_2 : decode cX6_ownerIn 2 = .ok (.iload_n 3, 1) := by decide +kernel
theorem dX6_ownerIn_3 : decode cX6_ownerIn 3 = .ok (.aload_n 0, 1) := by decide +kernel
theorem dX6_ownerIn_4 : decode cX6_ownerIn 4 = .ok (.getfield 54, 3) := by decide +kernel
theorem dX6_ownerIn_7 : decode cX6_ownerIn 7 = .ok (.if_icmp .ge 21, 3) := by decide +kernel
theorem dX6_ownerIn_10 : decode cX6_ownerIn 10 = .ok (.aload_n 1, 1) := by decide +kernel
theorem dX6_ownerIn_11 : decode cX6_ownerIn 11 = .ok (.getfield 80, 3) := by decide +kernel
theorem dX6_ownerIn_14 : decode cX6_ownerIn 14 = .ok (.iload_n 3, 1) := by decide +kernel
theorem dX6_ownerIn_15 : decode cX6_ownerIn 15 = .ok (.iaload, 1) := by decide +kernel
theorem dX6_ownerIn_16 : decode cX6_ownerIn 16 = .ok (.iload_n 2, 1) := by decide +kernel
theorem dX6_ownerIn_17 : decode cX6_ownerIn 17 = .ok (.if_icmp .ne 5, 3) := by decide +kernel
theorem dX6_ownerIn_20 : decode cX6_ownerIn 20 = .ok (.iload_n 3, 1) := by decide +kernel
theorem dX6_ownerIn_21 : decode cX6_ownerIn 21 = .ok (.ireturn, 1) := by decide +kernel
theorem dX6_ownerIn_22 : decode cX6_ownerIn 22 = .ok (.iinc 3 1, 3) := by decide +kernel
theorem dX6_ownerIn_25 : decode cX6_ownerIn 25 = .ok (.goto (-23), 3) := by decide +kernel
theorem dX6_ownerIn_28 : decode cX6_ownerIn 28 = .ok (.iconst (-1), 1) := by decide +kernel
theorem dX6_ownerIn_29 : decode cX6_ownerIn 29 = .ok (.ireturn, 1) := by decide +kernel
theorem dX6_countOwned_0 : decode cX6_countOwned 0 = .ok (.iconst 0, 1) := by decide +kernel
theorem dX6_countOwned_1 : decode cX6_countOwned 1 = .ok (.istore_n 1, 1) := by decide +kernel
theorem dX6_countOwned_2 : decode cX6_countOwned 2 = .ok (.iconst 0, 1) := by decide +kernel
theorem dX6_countOwned_3 : decode cX6_countOwned 3 = .ok (.istore_n 2, 1) := by decide +kernel
theorem dX6_countOwned_4 : decode cX6_countOwned 4 = .ok (.iload_n 2, 1) := by decide +kernel
theorem dX6_countOwned_5 : decode cX6_countOwned 5 = .ok (.aload_n 0, 1) := by decide +kernel
theorem dX6_countOwned_6 : decode cX6_countOwned 6 = .ok (.getfield 54, 3) := by decide +kernel
theorem dX6_countOwned_9 : decode cX6_countOwned 9 = .ok (.if_icmp .ge 25, 3) := by decide +kernel
theorem dX6_countOwned_12 : decode cX6_countOwned 12 = .ok (.aload_n 0, 1) := by decide +kernel
theorem dX6_countOwned_13 : decode cX6_countOwned 13 = .ok (.getfield 27, 3) := by decide +kernel
theorem dX6_countOwned_16 : decode cX6_countOwned 16 = .ok (.getfield 80, 3) := by decide +kernel
theorem dX6_countOwned_19 : decode cX6_countOwned 19 = .ok (.iload_n 2, 1) := by decide +kernel
theorem dX6_countOwned_20 : decode cX6_countOwned 20 = .ok (.iaload, 1) := by decide +kernel
theorem dX6_countOwned_21 : decode cX6_countOwned 21 = .ok (.iconst (-1), 1) := by decide +kernel
theorem dX6_countOwned_22 : decode cX6_countOwned 22 = .ok (.if_icmp .eq 6, 3) := by decide +kernel
theorem dX6_countOwned_25 : decode cX6_countOwned 25 = .ok (.iinc 1 1, 3) := by decide +kernel
theorem dX6_countOwned_28 : decode cX6_countOwned 28 = .ok (.iinc 2 1, 3) := by decide +kernel
theorem dX6_countOwned_31 : decode cX6_countOwned 31 = .ok (.goto (-27), 3) := by decide +kernel
theorem dX6_countOwned_34 : decode cX6_countOwned 34 = .ok (.iload_n 1, 1) := by decide +kernel
theorem dX6_countOwned_35 : decode cX6_countOwned 35 = .ok (.ireturn, 1) := by decide +kernel
theorem dX6_factOfOne_0 : decode cX6_factOfOne 0 = .ok (.iload_n 2, 1) := by decide +kernel
theorem dX6_factOfOne_1 : decode cX6_factOfOne 1 = .ok (.tableswitch 65 0 3 #[31, 38, 45, 55], 31) := by decide +kernel
theorem dX6_factOfOne_32 : decode cX6_factOfOne 32 = .ok (.aload_n 0, 1) := by decide +kernel
theorem dX6_factOfOne_33 : decode cX6_factOfOne 33 = .ok (.getfield 18, 3) := by decide +kernel
theorem dX6_factOfOne_36 : decode cX6_factOfOne 36 = .ok (.iload_n 1, 1) := by decide +kernel
theorem dX6_factOfOne_37 : decode cX6_factOfOne 37 = .ok (.iaload, 1) := by decide +kernel
theorem dX6_factOfOne_38 : decode cX6_factOfOne 38 = .ok (.ireturn, 1) := by decide +kernel
theorem dX6_factOfOne_39 : decode cX6_factOfOne 39 = .ok (.aload_n 0, 1) := by decide +kernel
theorem dX6_factOfOne_40 : decode cX6_factOfOne 40 = .ok (.getfield 21, 3) := by decide +kernel
theorem dX6_factOfOne_43 : decode cX6_factOfOne 43 = .ok (.iload_n 1, 1) := by decide +kernel
theorem dX6_factOfOne_44 : decode cX6_factOfOne 44 = .ok (.iaload, 1) := by decide +kernel
theorem dX6_factOfOne_45 : decode cX6_factOfOne 45 = .ok (.ireturn, 1) := by decide +kernel
theorem dX6_factOfOne_46 : decode cX6_factOfOne 46 = .ok (.aload_n 0, 1) := by decide +kernel
theorem dX6_factOfOne_47 : decode cX6_factOfOne 47 = .ok (.getfield 27, 3) := by decide +kernel
theorem dX6_factOfOne_50 : decode cX6_factOfOne 50 = .ok (.getfield 77, 3) := by decide +kernel
theorem dX6_factOfOne_53 : decode cX6_factOfOne 53 = .ok (.iload_n 1, 1) := by decide +kernel
theorem dX6_factOfOne_54 : decode cX6_factOfOne 54 = .ok (.iaload, 1) := by decide +kernel
theorem dX6_factOfOne_55 : decode cX6_factOfOne 55 = .ok (.ireturn, 1) := by decide +kernel
theorem dX6_factOfOne_56 : decode cX6_factOfOne 56 = .ok (.aload_n 0, 1) := by decide +kernel
theorem dX6_factOfOne_57 : decode cX6_factOfOne 57 = .ok (.getfield 27, 3) := by decide +kernel
theorem dX6_factOfOne_60 : decode cX6_factOfOne 60 = .ok (.getfield 80, 3) := by decide +kernel
theorem dX6_factOfOne_63 : decode cX6_factOfOne 63 = .ok (.iload_n 1, 1) := by decide +kernel
theorem dX6_factOfOne_64 : decode cX6_factOfOne 64 = .ok (.iaload, 1) := by decide +kernel
theorem dX6_factOfOne_65 : decode cX6_factOfOne 65 = .ok (.ireturn, 1) := by decide +kernel
theorem dX6_factOfOne_66 : decode cX6_factOfOne 66 = .ok (.aload_n 0, 1) := by decide +kernel
theorem dX6_factOfOne_67 : decode cX6_factOfOne 67 = .ok (.getfield 27, 3) := by decide +kernel
theorem dX6_factOfOne_70 : decode cX6_factOfOne 70 = .ok (.iload_n 1, 1) := by decide +kernel
theorem dX6_factOfOne_71 : decode cX6_factOfOne 71 = .ok (.invokevirtual 83, 3) := by decide +kernel
theorem dX6_factOfOne_74 : decode cX6_factOfOne 74 = .ok (.ifCond .eq 7, 3) := by decide +kernel
theorem dX6_factOfOne_77 : decode cX6_factOfOne 77 = .ok (.iconst 1, 1) := by decide +kernel
theorem dX6_factOfOne_78 : decode cX6_factOfOne 78 = .ok (.goto 4, 3) := by decide +kernel
theorem dX6_factOfOne_81 : decode cX6_factOfOne 81 = .ok (.iconst 0, 1) := by decide +kernel
theorem dX6_factOfOne_82 : decode cX6_factOfOne 82 = .ok (.ireturn, 1) := by decide +kernel
theorem dX6_weightOf_0 : decode cX6_weightOf 0 = .ok (.aload_n 0, 1) := by decide +kernel
theorem dX6_weightOf_1 : decode cX6_weightOf 1 = .ok (.getfield 9, 3) := by decide +kernel
theorem dX6_weightOf_4 : decode cX6_weightOf 4 = .ok (.iload_n 1, 1) := by decide +kernel
theorem dX6_weightOf_5 : decode cX6_weightOf 5 = .ok (.iaload, 1) := by decide +kernel
theorem dX6_weightOf_6 : decode cX6_weightOf 6 = .ok (.aload_n 0, 1) := by decide +kernel
theorem dX6_weightOf_7 : decode cX6_weightOf 7 = .ok (.getfield 15, 3) := by decide +kernel
theorem dX6_weightOf_10 : decode cX6_weightOf 10 = .ok (.iload_n 1, 1) := by decide +kernel
theorem dX6_weightOf_11 : decode cX6_weightOf 11 = .ok (.iaload, 1) := by decide +kernel
theorem dX6_weightOf_12 : decode cX6_weightOf 12 = .ok (.aload_n 0, 1) := by decide +kernel
theorem dX6_weightOf_13 : decode cX6_weightOf 13 = .ok (.getfield 27, 3) := by decide +kernel
theorem dX6_weightOf_16 : decode cX6_weightOf 16 = .ok (.getfield 60, 3) := by decide +kernel
theorem dX6_weightOf_19 : decode cX6_weightOf 19 = .ok (.iload_n 2, 1) := by decide +kernel
theorem dX6_weightOf_20 : decode cX6_weightOf 20 = .ok (.iadd, 1) := by decide +kernel
theorem dX6_weightOf_21 : decode cX6_weightOf 21 = .ok (.invokestatic 91, 3) := by decide +kernel
theorem dX6_weightOf_24 : decode cX6_weightOf 24 = .ok (.ireturn, 1) := by decide +kernel
theorem dX6_liftOf_0 : decode cX6_liftOf 0 = .ok (.aload_n 0, 1) := by decide +kernel
theorem dX6_liftOf_1 : decode cX6_liftOf 1 = .ok (.getfield 27, 3) := by decide +kernel
theorem dX6_liftOf_4 : decode cX6_liftOf 4 = .ok (.iload_n 1, 1) := by decide +kernel
theorem dX6_liftOf_5 : decode cX6_liftOf 5 = .ok (.invokevirtual 83, 3) := by decide +kernel
theorem dX6_liftOf_8 : decode cX6_liftOf 8 = .ok (.ifCond .eq 22, 3) := by decide +kernel
theorem dX6_liftOf_11 : decode cX6_liftOf 11 = .ok (.bipush 99, 2) := by decide +kernel
theorem dX6_liftOf_13 : decode cX6_liftOf 13 = .ok (.aload_n 0, 1) := by decide +kernel
theorem dX6_liftOf_14 : decode cX6_liftOf 14 = .ok (.getfield 27, 3) := by decide +kernel
theorem dX6_liftOf_17 : decode cX6_liftOf 17 = .ok (.getfield 77, 3) := by decide +kernel
theorem dX6_liftOf_20 : decode cX6_liftOf 20 = .ok (.iload_n 1, 1) := by decide +kernel
theorem dX6_liftOf_21 : decode cX6_liftOf 21 = .ok (.iaload, 1) := by decide +kernel
theorem dX6_liftOf_22 : decode cX6_liftOf 22 = .ok (.iload_n 2, 1) := by decide +kernel
theorem dX6_liftOf_23 : decode cX6_liftOf 23 = .ok (.iadd, 1) := by decide +kernel
theorem dX6_liftOf_24 : decode cX6_liftOf 24 = .ok (.invokestatic 97, 3) := by decide +kernel
theorem dX6_liftOf_27 : decode cX6_liftOf 27 = .ok (.goto 12, 3) := by decide +kernel
theorem dX6_liftOf_30 : decode cX6_liftOf 30 = .ok (.aload_n 0, 1) := by decide +kernel
theorem dX6_liftOf_31 : decode cX6_liftOf 31 = .ok (.getfield 27, 3) := by decide +kernel
theorem dX6_liftOf_34 : decode cX6_liftOf 34 = .ok (.getfield 77, 3) := by decide +kernel
theorem dX6_liftOf_37 : decode cX6_liftOf 37 = .ok (.iload_n 1, 1) := by decide +kernel
theorem dX6_liftOf_38 : decode cX6_liftOf 38 = .ok (.iaload, 1) := by decide +kernel
theorem dX6_liftOf_39 : decode cX6_liftOf 39 = .ok (.istore_n 3, 1) := by decide +kernel
theorem dX6_liftOf_40 : decode cX6_liftOf 40 = .ok (.aload_n 0, 1) := by decide +kernel
theorem dX6_liftOf_41 : decode cX6_liftOf 41 = .ok (.getfield 18, 3) := by decide +kernel
theorem dX6_liftOf_44 : decode cX6_liftOf 44 = .ok (.iload_n 1, 1) := by decide +kernel
theorem dX6_liftOf_45 : decode cX6_liftOf 45 = .ok (.iaload, 1) := by decide +kernel
theorem dX6_liftOf_46 : decode cX6_liftOf 46 = .ok (.aload_n 0, 1) := by decide +kernel
theorem dX6_liftOf_47 : decode cX6_liftOf 47 = .ok (.getfield 21, 3) := by decide +kernel
theorem dX6_liftOf_50 : decode cX6_liftOf 50 = .ok (.iload_n 1, 1) := by decide +kernel
theorem dX6_liftOf_51 : decode cX6_liftOf 51 = .ok (.iaload, 1) := by decide +kernel
theorem dX6_liftOf_52 : decode cX6_liftOf 52 = .ok (.iload_n 3, 1) := by decide +kernel
theorem dX6_liftOf_53 : decode cX6_liftOf 53 = .ok (.invokestatic 103, 3) := by decide +kernel
theorem dX6_liftOf_56 : decode cX6_liftOf 56 = .ok (.ireturn, 1) := by decide +kernel
theorem dX6_holdsFor_0 : decode cX6_holdsFor 0 = .ok (.iconst 0, 1) := by decide +kernel
theorem dX6_holdsFor_1 : decode cX6_holdsFor 1 = .ok (.istore 4, 2) := by decide +kernel
theorem dX6_holdsFor_3 : decode cX6_holdsFor 3 = .ok (.iload 4, 2) := by decide +kernel
theorem dX6_holdsFor_5 : decode cX6_holdsFor 5 = .ok (.iload_n 3, 1) := by decide +kernel
theorem dX6_holdsFor_6 : decode cX6_holdsFor 6 = .ok (.if_icmp .ge 29, 3) := by decide +kernel
theorem dX6_holdsFor_9 : decode cX6_holdsFor 9 = .ok (.aload_n 0, 1) := by decide +kernel
theorem dX6_holdsFor_10 : decode cX6_holdsFor 10 = .ok (.iload_n 1, 1) := by decide +kernel
theorem dX6_holdsFor_11 : decode cX6_holdsFor 11 = .ok (.iload 4, 2) := by decide +kernel
theorem dX6_holdsFor_13 : decode cX6_holdsFor 13 = .ok (.invokevirtual 106, 3) := by decide +kernel
theorem dX6_holdsFor_16 : decode cX6_holdsFor 16 = .ok (.aload_n 0, 1) := by decide +kernel
theorem dX6_holdsFor_17 : decode cX6_holdsFor 17 = .ok (.iload_n 2, 1) := by decide +kernel
theorem dX6_holdsFor_18 : decode cX6_holdsFor 18 = .ok (.iload 4, 2) := by decide +kernel
theorem dX6_holdsFor_20 : decode cX6_holdsFor 20 = .ok (.invokevirtual 109, 3) := by decide +kernel
theorem dX6_holdsFor_23 : decode cX6_holdsFor 23 = .ok (.if_icmp .gt 6, 3) := by decide +kernel
theorem dX6_holdsFor_26 : decode cX6_holdsFor 26 = .ok (.iload 4, 2) := by decide +kernel
theorem dX6_holdsFor_28 : decode cX6_holdsFor 28 = .ok (.ireturn, 1) := by decide +kernel
theorem dX6_holdsFor_29 : decode cX6_holdsFor 29 = .ok (.iinc 4 1, 3) := by decide +kernel
theorem dX6_holdsFor_32 : decode cX6_holdsFor 32 = .ok (.goto (-29), 3) := by decide +kernel
theorem dX6_holdsFor_35 : decode cX6_holdsFor 35 = .ok (.iload_n 3, 1) := by decide +kernel
theorem dX6_holdsFor_36 : decode cX6_holdsFor 36 = .ok (.ireturn, 1) := by decide +kernel
theorem dX6_thingsHolding_0 : decode cX6_thingsHolding 0 = .ok (.iconst 0, 1) := by decide +kernel
theorem dX6_thingsHolding_1 : decode cX6_thingsHolding 1 = .ok (.istore_n 3, 1) := by decide +kernel
theorem dX6_thingsHolding_2 : decode cX6_thingsHolding 2 = .ok (.aload_n 0, 1) := by decide +kernel
theorem dX6_thingsHolding_3 : decode cX6_thingsHolding 3 = .ok (.getfield 27, 3) := by decide +kernel
theorem dX6_thingsHolding_6 : decode cX6_thingsHolding 6 = .ok (.iload_n 1, 1) := by decide +kernel
theorem dX6_thingsHolding_7 : decode cX6_thingsHolding 7 = .ok (.invokevirtual 83, 3) := by decide +kernel
theorem dX6_thingsHolding_10 : decode cX6_thingsHolding 10 = .ok (.ifCond .eq 40, 3) := by decide +kernel
theorem dX6_thingsHolding_13 : decode cX6_thingsHolding 13 = .ok (.iconst 0, 1) := by decide +kernel
theorem dX6_thingsHolding_14 : decode cX6_thingsHolding 14 = .ok (.istore 4, 2) := by decide +kernel
theorem dX6_thingsHolding_16 : decode cX6_thingsHolding 16 = .ok (.iload 4, 2) := by decide +kernel
theorem dX6_thingsHolding_18 : decode cX6_thingsHolding 18 = .ok (.aload_n 0, 1) := by decide +kernel
theorem dX6_thingsHolding_19 : decode cX6_thingsHolding 19 = .ok (.getfield 50, 3) := by decide +kernel
theorem dX6_thingsHolding_22 : decode cX6_thingsHolding 22 = .ok (.if_icmp .ge 28, 3) := by decide +kernel
theorem dX6_thingsHolding_25 : decode cX6_thingsHolding 25 = .ok (.aload_n 0, 1) := by decide +kernel
theorem dX6_thingsHolding_26 : decode cX6_thingsHolding 26 = .ok (.iload 4, 2) := by decide +kernel
theorem dX6_thingsHolding_28 : decode cX6_thingsHolding 28 = .ok (.iload_n 1, 1) := by decide +kernel
theorem dX6_thingsHolding_29 : decode cX6_thingsHolding 29 = .ok (.iload_n 2, 1) := by decide +kernel
theorem dX6_thingsHolding_30 : decode cX6_thingsHolding 30 = .ok (.invokevirtual 112, 3) := by decide +kernel
theorem dX6_thingsHolding_33 : decode cX6_thingsHolding 33 = .ok (.iload_n 2, 1) := by decide +kernel
theorem dX6_thingsHolding_34 : decode cX6_thingsHolding 34 = .ok (.if_icmp .lt 10, 3) := by decide +kernel
theorem dX6_thingsHolding_37 : decode cX6_thingsHolding 37 = .ok (.iload_n 3, 1) := by decide +kernel
theorem dX6_thingsHolding_38 : decode cX6_thingsHolding 38 = .ok (.iconst 1, 1) := by decide +kernel
theorem dX6_thingsHolding_39 : decode cX6_thingsHolding 39 = .ok (.iload 4, 2) := by decide +kernel
theorem dX6_thingsHolding_41 : decode cX6_thingsHolding 41 = .ok (.ishl, 1) := by decide +kernel
theorem dX6_thingsHolding_42 : decode cX6_thingsHolding 42 = .ok (.ior, 1) := by decide +kernel
theorem dX6_thingsHolding_43 : decode cX6_thingsHolding 43 = .ok (.istore_n 3, 1) := by decide +kernel
theorem dX6_thingsHolding_44 : decode cX6_thingsHolding 44 = .ok (.iinc 4 1, 3) := by decide +kernel
theorem dX6_thingsHolding_47 : decode cX6_thingsHolding 47 = .ok (.goto (-31), 3) := by decide +kernel
theorem dX6_thingsHolding_50 : decode cX6_thingsHolding 50 = .ok (.iload_n 3, 1) := by decide +kernel
theorem dX6_thingsHolding_51 : decode cX6_thingsHolding 51 = .ok (.ireturn, 1) := by decide +kernel
theorem dX6_toldWeight_0 : decode cX6_toldWeight 0 = .ok (.iconst 0, 1) := by decide +kernel
theorem dX6_toldWeight_1 : decode cX6_toldWeight 1 = .ok (.istore_n 2, 1) := by decide +kernel
theorem dX6_toldWeight_2 : decode cX6_toldWeight 2 = .ok (.iconst 0, 1) := by decide +kernel
theorem dX6_toldWeight_3 : decode cX6_toldWeight 3 = .ok (.istore_n 3, 1) := by decide +kernel
theorem dX6_toldWeight_4 : decode cX6_toldWeight 4 = .ok (.iload_n 3, 1) := by decide +kernel
theorem dX6_toldWeight_5 : decode cX6_toldWeight 5 = .ok (.aload_n 0, 1) := by decide +kernel
theorem dX6_toldWeight_6 : decode cX6_toldWeight 6 = .ok (.getfield 50, 3) := by decide +kernel
theorem dX6_toldWeight_9 : decode cX6_toldWeight 9 = .ok (.if_icmp .ge 27, 3) := by decide +kernel
theorem dX6_toldWeight_12 : decode cX6_toldWeight 12 = .ok (.iload_n 1, 1) := by decide +kernel
theorem dX6_toldWeight_13 : decode cX6_toldWeight 13 = .ok (.iload_n 3, 1) := by decide +kernel
theorem dX6_toldWeight_14 : decode cX6_toldWeight 14 = .ok (.ishr, 1) := by decide +kernel
theorem dX6_toldWeight_15 : decode cX6_toldWeight 15 = .ok (.iconst 1, 1) := by decide +kernel
theorem dX6_toldWeight_16 : decode cX6_toldWeight 16 = .ok (.iand, 1) := by decide +kernel
theorem dX6_toldWeight_17 : decode cX6_toldWeight 17 = .ok (.iconst 1, 1) := by decide +kernel
theorem dX6_toldWeight_18 : decode cX6_toldWeight 18 = .ok (.if_icmp .ne 12, 3) := by decide +kernel
theorem dX6_toldWeight_21 : decode cX6_toldWeight 21 = .ok (.iload_n 2, 1) := by decide +kernel
theorem dX6_toldWeight_22 : decode cX6_toldWeight 22 = .ok (.aload_n 0, 1) := by decide +kernel
theorem dX6_toldWeight_23 : decode cX6_toldWeight 23 = .ok (.getfield 15, 3) := by decide +kernel
theorem dX6_toldWeight_26 : decode cX6_toldWeight 26 = .ok (.iload_n 3, 1) := by decide +kernel
theorem dX6_toldWeight_27 : decode cX6_toldWeight 27 = .ok (.iaload, 1) := by decide +kernel
theorem dX6_toldWeight_28 : decode cX6_toldWeight 28 = .ok (.iadd, 1) := by decide +kernel
theorem dX6_toldWeight_29 : decode cX6_toldWeight 29 = .ok (.istore_n 2, 1) := by decide +kernel
theorem dX6_toldWeight_30 : decode cX6_toldWeight 30 = .ok (.iinc 3 1, 3) := by decide +kernel
theorem dX6_toldWeight_33 : decode cX6_toldWeight 33 = .ok (.goto (-29), 3) := by decide +kernel
theorem dX6_toldWeight_36 : decode cX6_toldWeight 36 = .ok (.iload_n 2, 1) := by decide +kernel
theorem dX6_toldWeight_37 : decode cX6_toldWeight 37 = .ok (.ireturn, 1) := by decide +kernel
theorem dX6_liftByTwo_0 : decode cX6_liftByTwo 0 = .ok (.aload_n 0, 1) := by decide +kernel
theorem dX6_liftByTwo_1 : decode cX6_liftByTwo 1 = .ok (.getfield 27, 3) := by decide +kernel
theorem dX6_liftByTwo_4 : decode cX6_liftByTwo 4 = .ok (.iload_n 2, 1) := by decide +kernel
theorem dX6_liftByTwo_5 : decode cX6_liftByTwo 5 = .ok (.invokevirtual 83, 3) := by decide +kernel
theorem dX6_liftByTwo_8 : decode cX6_liftByTwo 8 = .ok (.ifCond .eq 14, 3) := by decide +kernel
theorem dX6_liftByTwo_11 : decode cX6_liftByTwo 11 = .ok (.aload_n 0, 1) := by decide +kernel
theorem dX6_liftByTwo_12 : decode cX6_liftByTwo 12 = .ok (.getfield 27, 3) := by decide +kernel
theorem dX6_liftByTwo_15 : decode cX6_liftByTwo 15 = .ok (.iload_n 3, 1) := by decide +kernel
theorem dX6_liftByTwo_16 : decode cX6_liftByTwo 16 = .ok (.invokevirtual 83, 3) := by decide +kernel
theorem dX6_liftByTwo_19 : decode cX6_liftByTwo 19 = .ok (.ifCond .ne 5, 3) := by decide +kernel
theorem dX6_liftByTwo_22 : decode cX6_liftByTwo 22 = .ok (.iconst 0, 1) := by decide +kernel
theorem dX6_liftByTwo_23 : decode cX6_liftByTwo 23 = .ok (.ireturn, 1) := by decide +kernel
theorem dX6_liftByTwo_24 : decode cX6_liftByTwo 24 = .ok (.aload_n 0, 1) := by decide +kernel
theorem dX6_liftByTwo_25 : decode cX6_liftByTwo 25 = .ok (.iload_n 1, 1) := by decide +kernel
theorem dX6_liftByTwo_26 : decode cX6_liftByTwo 26 = .ok (.iconst 0, 1) := by decide +kernel
theorem dX6_liftByTwo_27 : decode cX6_liftByTwo 27 = .ok (.invokevirtual 106, 3) := by decide +kernel
theorem dX6_liftByTwo_30 : decode cX6_liftByTwo 30 = .ok (.istore 4, 2) := by decide +kernel
theorem dX6_liftByTwo_32 : decode cX6_liftByTwo 32 = .ok (.aload_n 0, 1) := by decide +kernel
theorem dX6_liftByTwo_33 : decode cX6_liftByTwo 33 = .ok (.iload_n 2, 1) := by decide +kernel
theorem dX6_liftByTwo_34 : decode cX6_liftByTwo 34 = .ok (.iconst 0, 1) := by decide +kernel
theorem dX6_liftByTwo_35 : decode cX6_liftByTwo 35 = .ok (.invokevirtual 109, 3) := by decide +kernel
theorem dX6_liftByTwo_38 : decode cX6_liftByTwo 38 = .ok (.istore 5, 2) := by decide +kernel
theorem dX6_liftByTwo_40 : decode cX6_liftByTwo 40 = .ok (.aload_n 0, 1) := by decide +kernel
theorem dX6_liftByTwo_41 : decode cX6_liftByTwo 41 = .ok (.iload_n 3, 1) := by decide +kernel
theorem dX6_liftByTwo_42 : decode cX6_liftByTwo 42 = .ok (.iconst 0, 1) := by decide +kernel
theorem dX6_liftByTwo_43 : decode cX6_liftByTwo 43 = .ok (.invokevirtual 109, 3) := by decide +kernel
theorem dX6_liftByTwo_46 : decode cX6_liftByTwo 46 = .ok (.istore 6, 2) := by decide +kernel
theorem dX6_liftByTwo_48 : decode cX6_liftByTwo 48 = .ok (.iload 5, 2) := by decide +kernel
theorem dX6_liftByTwo_50 : decode cX6_liftByTwo 50 = .ok (.iload 4, 2) := by decide +kernel
theorem dX6_liftByTwo_52 : decode cX6_liftByTwo 52 = .ok (.if_icmp .ge 24, 3) := by decide +kernel
theorem dX6_liftByTwo_55 : decode cX6_liftByTwo 55 = .ok (.iload 6, 2) := by decide +kernel
theorem dX6_liftByTwo_57 : decode cX6_liftByTwo 57 = .ok (.iload 4, 2) := by decide +kernel
theorem dX6_liftByTwo_59 : decode cX6_liftByTwo 59 = .ok (.if_icmp .ge 17, 3) := by decide +kernel
theorem dX6_liftByTwo_62 : decode cX6_liftByTwo 62 = .ok (.iload 5, 2) := by decide +kernel
theorem dX6_liftByTwo_64 : decode cX6_liftByTwo 64 = .ok (.iload 6, 2) := by decide +kernel
theorem dX6_liftByTwo_66 : decode cX6_liftByTwo 66 = .ok (.iadd, 1) := by decide +kernel
theorem dX6_liftByTwo_67 : decode cX6_liftByTwo 67 = .ok (.iload 4, 2) := by decide +kernel
theorem dX6_liftByTwo_69 : decode cX6_liftByTwo 69 = .ok (.if_icmp .lt 7, 3) := by decide +kernel
theorem dX6_liftByTwo_72 : decode cX6_liftByTwo 72 = .ok (.iconst 1, 1) := by decide +kernel
theorem dX6_liftByTwo_73 : decode cX6_liftByTwo 73 = .ok (.goto 4, 3) := by decide +kernel
theorem dX6_liftByTwo_76 : decode cX6_liftByTwo 76 = .ok (.iconst 0, 1) := by decide +kernel
theorem dX6_liftByTwo_77 : decode cX6_liftByTwo 77 = .ok (.ireturn, 1) := by decide +kernel
theorem dX6_isHeldIn_0 : decode cX6_isHeldIn 0 = .ok (.aload_n 1, 1) := by decide +kernel
theorem dX6_isHeldIn_1 : decode cX6_isHeldIn 1 = .ok (.getfield 80, 3) := by decide +kernel
theorem dX6_isHeldIn_4 : decode cX6_isHeldIn 4 = .ok (.iload_n 2, 1) := by decide +kernel
theorem dX6_isHeldIn_5 : decode cX6_isHeldIn 5 = .ok (.iaload, 1) := by decide +kernel
theorem dX6_isHeldIn_6 : decode cX6_isHeldIn 6 = .ok (.istore_n 3, 1) := by decide +kernel
theorem dX6_isHeldIn_7 : decode cX6_isHeldIn 7 = .ok (.aload_n 0, 1) := by decide +kernel
theorem dX6_isHeldIn_8 : decode cX6_isHeldIn 8 = .ok (.iload_n 3, 1) := by decide +kernel
theorem dX6_isHeldIn_9 : decode cX6_isHeldIn 9 = .ok (.invokevirtual 115, 3) := by decide +kernel
theorem dX6_isHeldIn_12 : decode cX6_isHeldIn 12 = .ok (.ifCond .eq 50, 3) := by decide +kernel
theorem dX6_isHeldIn_15 : decode cX6_isHeldIn 15 = .ok (.aload_n 0, 1) := by decide +kernel
theorem dX6_isHeldIn_16 : decode cX6_isHeldIn 16 = .ok (.getfield 9, 3) := by decide +kernel
theorem dX6_isHeldIn_19 : decode cX6_isHeldIn 19 = .ok (.iload_n 3, 1) := by decide +kernel
theorem dX6_isHeldIn_20 : decode cX6_isHeldIn 20 = .ok (.iaload, 1) := by decide +kernel
theorem dX6_isHeldIn_21 : decode cX6_isHeldIn 21 = .ok (.aload_n 0, 1) := by decide +kernel
theorem dX6_isHeldIn_22 : decode cX6_isHeldIn 22 = .ok (.getfield 15, 3) := by decide +kernel
theorem dX6_isHeldIn_25 : decode cX6_isHeldIn 25 = .ok (.iload_n 3, 1) := by decide +kernel
theorem dX6_isHeldIn_26 : decode cX6_isHeldIn 26 = .ok (.iaload, 1) := by decide +kernel
theorem dX6_isHeldIn_27 : decode cX6_isHeldIn 27 = .ok (.aload_n 1, 1) := by decide +kernel
theorem dX6_isHeldIn_28 : decode cX6_isHeldIn 28 = .ok (.getfield 60, 3) := by decide +kernel
theorem dX6_isHeldIn_31 : decode cX6_isHeldIn 31 = .ok (.invokestatic 91, 3) := by decide +kernel
theorem dX6_isHeldIn_34 : decode cX6_isHeldIn 34 = .ok (.aload_n 0, 1) := by decide +kernel
theorem dX6_isHeldIn_35 : decode cX6_isHeldIn 35 = .ok (.getfield 18, 3) := by decide +kernel
theorem dX6_isHeldIn_38 : decode cX6_isHeldIn 38 = .ok (.iload_n 2, 1) := by decide +kernel
theorem dX6_isHeldIn_39 : decode cX6_isHeldIn 39 = .ok (.iaload, 1) := by decide +kernel
theorem dX6_isHeldIn_40 : decode cX6_isHeldIn 40 = .ok (.aload_n 0, 1) := by decide +kernel
theorem dX6_isHeldIn_41 : decode cX6_isHeldIn 41 = .ok (.getfield 21, 3) := by decide +kernel
theorem dX6_isHeldIn_44 : decode cX6_isHeldIn 44 = .ok (.iload_n 2, 1) := by decide +kernel
theorem dX6_isHeldIn_45 : decode cX6_isHeldIn 45 = .ok (.iaload, 1) := by decide +kernel
theorem dX6_isHeldIn_46 : decode cX6_isHeldIn 46 = .ok (.aload_n 1, 1) := by decide +kernel
theorem dX6_isHeldIn_47 : decode cX6_isHeldIn 47 = .ok (.getfield 77, 3) := by decide +kernel
theorem dX6_isHeldIn_50 : decode cX6_isHeldIn 50 = .ok (.iload_n 2, 1) := by decide +kernel
theorem dX6_isHeldIn_51 : decode cX6_isHeldIn 51 = .ok (.iaload, 1) := by decide +kernel
theorem dX6_isHeldIn_52 : decode cX6_isHeldIn 52 = .ok (.invokestatic 103, 3) := by decide +kernel
theorem dX6_isHeldIn_55 : decode cX6_isHeldIn 55 = .ok (.if_icmp .le 7, 3) := by decide +kernel
theorem dX6_isHeldIn_58 : decode cX6_isHeldIn 58 = .ok (.iconst 1, 1) := by decide +kernel
theorem dX6_isHeldIn_59 : decode cX6_isHeldIn 59 = .ok (.goto 4, 3) := by decide +kernel
theorem dX6_isHeldIn_62 : decode cX6_isHeldIn 62 = .ok (.iconst 0, 1) := by decide +kernel
theorem dX6_isHeldIn_63 : decode cX6_isHeldIn 63 = .ok (.ireturn, 1) := by decide +kernel
theorem dX6_passYears_0 : decode cX6_passYears 0 = .ok (.iconst 0, 1) := by decide +kernel
theorem dX6_passYears_1 : decode cX6_passYears 1 = .ok (.istore 4, 2) := by decide +kernel
theorem dX6_passYears_3 : decode cX6_passYears 3 = .ok (.iload 4, 2) := by decide +kernel
theorem dX6_passYears_5 : decode cX6_passYears 5 = .ok (.iload_n 2, 1) := by decide +kernel
theorem dX6_passYears_6 : decode cX6_passYears 6 = .ok (.if_icmp .ge 82, 3) := by decide +kernel
theorem dX6_passYears_9 : decode cX6_passYears 9 = .ok (.aload_n 1, 1) := by decide +kernel
theorem dX6_passYears_10 : decode cX6_passYears 10 = .ok (.getfield 60, 3) := by decide +kernel
theorem dX6_passYears_13 : decode cX6_passYears 13 = .ok (.iload_n 3, 1) := by decide +kernel
theorem dX6_passYears_14 : decode cX6_passYears 14 = .ok (.if_icmp .ge 74, 3) := by decide +kernel
theorem dX6_passYears_17 : decode cX6_passYears 17 = .ok (.iconst 0, 1) := by decide +kernel
theorem dX6_passYears_18 : decode cX6_passYears 18 = .ok (.istore 5, 2) := by decide +kernel
theorem dX6_passYears_20 : decode cX6_passYears 20 = .ok (.iload 5, 2) := by decide +kernel
theorem dX6_passYears_22 : decode cX6_passYears 22 = .ok (.aload_n 0, 1) := by decide +kernel
theorem dX6_passYears_23 : decode cX6_passYears 23 = .ok (.getfield 54, 3) := by decide +kernel
theorem dX6_passYears_26 : decode cX6_passYears 26 = .ok (.if_icmp .ge 46, 3) := by decide +kernel
theorem dX6_passYears_29 : decode cX6_passYears 29 = .ok (.aload_n 1, 1) := by decide +kernel
theorem dX6_passYears_30 : decode cX6_passYears 30 = .ok (.iload 5, 2) := by decide +kernel
theorem dX6_passYears_32 : decode cX6_passYears 32 = .ok (.invokevirtual 83, 3) := by decide +kernel
theorem dX6_passYears_35 : decode cX6_passYears 35 = .ok (.ifCond .ne 6, 3) := by decide +kernel
theorem dX6_passYears_38 : decode cX6_passYears 38 = .ok (.goto 28, 3) := by decide +kernel
theorem dX6_passYears_41 : decode cX6_passYears 41 = .ok (.aload_n 0, 1) := by decide +kernel
theorem dX6_passYears_42 : decode cX6_passYears 42 = .ok (.aload_n 1, 1) := by decide +kernel
theorem dX6_passYears_43 : decode cX6_passYears 43 = .ok (.iload 5, 2) := by decide +kernel
theorem dX6_passYears_45 : decode cX6_passYears 45 = .ok (.invokevirtual 118, 3) := by decide +kernel
theorem dX6_passYears_48 : decode cX6_passYears 48 = .ok (.ifCond .eq 12, 3) := by decide +kernel
theorem dX6_passYears_51 : decode cX6_passYears 51 = .ok (.aload_n 1, 1) := by decide +kernel
theorem dX6_passYears_52 : decode cX6_passYears 52 = .ok (.iload 5, 2) := by decide +kernel
theorem dX6_passYears_54 : decode cX6_passYears 54 = .ok (.invokevirtual 122, 3) := by decide +kernel
theorem dX6_passYears_57 : decode cX6_passYears 57 = .ok (.goto 9, 3) := by decide +kernel
theorem dX6_passYears_60 : decode cX6_passYears 60 = .ok (.aload_n 1, 1) := by decide +kernel
theorem dX6_passYears_61 : decode cX6_passYears 61 = .ok (.iload 5, 2) := by decide +kernel
theorem dX6_passYears_63 : decode cX6_passYears 63 = .ok (.invokevirtual 125, 3) := by decide +kernel
theorem dX6_passYears_66 : decode cX6_passYears 66 = .ok (.iinc 5 1, 3) := by decide +kernel
theorem dX6_passYears_69 : decode cX6_passYears 69 = .ok (.goto (-49), 3) := by decide +kernel
theorem dX6_passYears_72 : decode cX6_passYears 72 = .ok (.aload_n 1, 1) := by decide +kernel
theorem dX6_passYears_73 : decode cX6_passYears 73 = .ok (.dup, 1) := by decide +kernel
theorem dX6_passYears_74 : decode cX6_passYears 74 = .ok (.getfield 60, 3) := by decide +kernel
theorem dX6_passYears_77 : decode cX6_passYears 77 = .ok (.iconst 1, 1) := by decide +kernel
theorem dX6_passYears_78 : decode cX6_passYears 78 = .ok (.iadd, 1) := by decide +kernel
theorem dX6_passYears_79 : decode cX6_passYears 79 = .ok (.putfield 60, 3) := by decide +kernel
theorem dX6_passYears_82 : decode cX6_passYears 82 = .ok (.iinc 4 1, 3) := by decide +kernel
theorem dX6_passYears_85 : decode cX6_passYears 85 = .ok (.goto (-82), 3) := by decide +kernel
theorem dX6_passYears_88 : decode cX6_passYears 88 = .ok (.return_, 1) := by decide +kernel
theorem dX6_giveIfFree_0 : decode cX6_giveIfFree 0 = .ok (.aload_n 0, 1) := by decide +kernel
theorem dX6_giveIfFree_1 : decode cX6_giveIfFree 1 = .ok (.iload_n 2, 1) := by decide +kernel
theorem dX6_giveIfFree_2 : decode cX6_giveIfFree 2 = .ok (.invokevirtual 128, 3) := by decide +kernel
theorem dX6_giveIfFree_5 : decode cX6_giveIfFree 5 = .ok (.ifCond .eq 46, 3) := by decide +kernel
theorem dX6_giveIfFree_8 : decode cX6_giveIfFree 8 = .ok (.aload_n 1, 1) := by decide +kernel
theorem dX6_giveIfFree_9 : decode cX6_giveIfFree 9 = .ok (.iload_n 2, 1) := by decide +kernel
theorem dX6_giveIfFree_10 : decode cX6_giveIfFree 10 = .ok (.invokevirtual 83, 3) := by decide +kernel
theorem dX6_giveIfFree_13 : decode cX6_giveIfFree 13 = .ok (.ifCond .eq 38, 3) := by decide +kernel
theorem dX6_giveIfFree_16 : decode cX6_giveIfFree 16 = .ok (.aload_n 1, 1) := by decide +kernel
theorem dX6_giveIfFree_17 : decode cX6_giveIfFree 17 = .ok (.getfield 80, 3) := by decide +kernel
theorem dX6_giveIfFree_20 : decode cX6_giveIfFree 20 = .ok (.iload_n 2, 1) := by decide +kernel
theorem dX6_giveIfFree_21 : decode cX6_giveIfFree 21 = .ok (.iaload, 1) := by decide +kernel
theorem dX6_giveIfFree_22 : decode cX6_giveIfFree 22 = .ok (.iconst (-1), 1) := by decide +kernel
theorem dX6_giveIfFree_23 : decode cX6_giveIfFree 23 = .ok (.if_icmp .ne 28, 3) := by decide +kernel
theorem dX6_giveIfFree_26 : decode cX6_giveIfFree 26 = .ok (.aload_n 0, 1) := by decide +kernel
theorem dX6_giveIfFree_27 : decode cX6_giveIfFree 27 = .ok (.iload_n 3, 1) := by decide +kernel
theorem dX6_giveIfFree_28 : decode cX6_giveIfFree 28 = .ok (.invokevirtual 115, 3) := by decide +kernel
theorem dX6_giveIfFree_31 : decode cX6_giveIfFree 31 = .ok (.ifCond .eq 20, 3) := by decide +kernel
theorem dX6_giveIfFree_34 : decode cX6_giveIfFree 34 = .ok (.aload_n 0, 1) := by decide +kernel
theorem dX6_giveIfFree_35 : decode cX6_giveIfFree 35 = .ok (.aload_n 1, 1) := by decide +kernel
theorem dX6_giveIfFree_36 : decode cX6_giveIfFree 36 = .ok (.iload_n 3, 1) := by decide +kernel
theorem dX6_giveIfFree_37 : decode cX6_giveIfFree 37 = .ok (.invokevirtual 87, 3) := by decide +kernel
theorem dX6_giveIfFree_40 : decode cX6_giveIfFree 40 = .ok (.iconst (-1), 1) := by decide +kernel
theorem dX6_giveIfFree_41 : decode cX6_giveIfFree 41 = .ok (.if_icmp .ne 10, 3) := by decide +kernel
theorem dX6_giveIfFree_44 : decode cX6_giveIfFree 44 = .ok (.aload_n 1, 1) := by decide +kernel
theorem dX6_giveIfFree_45 : decode cX6_giveIfFree 45 = .ok (.getfield 80, 3) := by decide +kernel
theorem dX6_giveIfFree_48 : decode cX6_giveIfFree 48 = .ok (.iload_n 2, 1) := by decide +kernel
theorem dX6_giveIfFree_49 : decode cX6_giveIfFree 49 = .ok (.iload_n 3, 1) := by decide +kernel
theorem dX6_giveIfFree_50 : decode cX6_giveIfFree 50 = .ok (.iastore, 1) := by decide +kernel
theorem dX6_giveIfFree_51 : decode cX6_giveIfFree 51 = .ok (.return_, 1) := by decide +kernel
theorem dX6_tenthsHeld_0 : decode cX6_tenthsHeld 0 = .ok (.aload_n 0, 1) := by decide +kernel
theorem dX6_tenthsHeld_1 : decode cX6_tenthsHeld 1 = .ok (.getfield 27, 3) := by decide +kernel
theorem dX6_tenthsHeld_4 : decode cX6_tenthsHeld 4 = .ok (.getfield 80, 3) := by decide +kernel
theorem dX6_tenthsHeld_7 : decode cX6_tenthsHeld 7 = .ok (.iload_n 1, 1) := by decide +kernel
theorem dX6_tenthsHeld_8 : decode cX6_tenthsHeld 8 = .ok (.iaload, 1) := by decide +kernel
theorem dX6_tenthsHeld_9 : decode cX6_tenthsHeld 9 = .ok (.istore 4, 2) := by decide +kernel
theorem dX6_tenthsHeld_11 : decode cX6_tenthsHeld 11 = .ok (.aload_n 0, 1) := by decide +kernel
theorem dX6_tenthsHeld_12 : decode cX6_tenthsHeld 12 = .ok (.iload 4, 2) := by decide +kernel
theorem dX6_tenthsHeld_14 : decode cX6_tenthsHeld 14 = .ok (.invokevirtual 115, 3) := by decide +kernel
theorem dX6_tenthsHeld_17 : decode cX6_tenthsHeld 17 = .ok (.ifCond .ne 5, 3) := by decide +kernel
theorem dX6_tenthsHeld_20 : decode cX6_tenthsHeld 20 = .ok (.iconst 0, 1) := by decide +kernel
theorem dX6_tenthsHeld_21 : decode cX6_tenthsHeld 21 = .ok (.ireturn, 1) := by decide +kernel
theorem dX6_tenthsHeld_22 : decode cX6_tenthsHeld 22 = .ok (.aload_n 0, 1) := by decide +kernel
theorem dX6_tenthsHeld_23 : decode cX6_tenthsHeld 23 = .ok (.iload 4, 2) := by decide +kernel
theorem dX6_tenthsHeld_25 : decode cX6_tenthsHeld 25 = .ok (.iload_n 2, 1) := by decide +kernel
theorem dX6_tenthsHeld_26 : decode cX6_tenthsHeld 26 = .ok (.invokevirtual 106, 3) := by decide +kernel
theorem dX6_tenthsHeld_29 : decode cX6_tenthsHeld 29 = .ok (.istore 5, 2) := by decide +kernel
theorem dX6_tenthsHeld_31 : decode cX6_tenthsHeld 31 = .ok (.aload_n 0, 1) := by decide +kernel
theorem dX6_tenthsHeld_32 : decode cX6_tenthsHeld 32 = .ok (.iload_n 1, 1) := by decide +kernel
theorem dX6_tenthsHeld_33 : decode cX6_tenthsHeld 33 = .ok (.iload_n 2, 1) := by decide +kernel
theorem dX6_tenthsHeld_34 : decode cX6_tenthsHeld 34 = .ok (.invokevirtual 109, 3) := by decide +kernel
theorem dX6_tenthsHeld_37 : decode cX6_tenthsHeld 37 = .ok (.istore 6, 2) := by decide +kernel
theorem dX6_tenthsHeld_39 : decode cX6_tenthsHeld 39 = .ok (.iload 5, 2) := by decide +kernel
theorem dX6_tenthsHeld_41 : decode cX6_tenthsHeld 41 = .ok (.iload 6, 2) := by decide +kernel
theorem dX6_tenthsHeld_43 : decode cX6_tenthsHeld 43 = .ok (.if_icmp .le 10, 3) := by decide +kernel
theorem dX6_tenthsHeld_46 : decode cX6_tenthsHeld 46 = .ok (.bipush 10, 2) := by decide +kernel
theorem dX6_tenthsHeld_48 : decode cX6_tenthsHeld 48 = .ok (.iload_n 3, 1) := by decide +kernel
theorem dX6_tenthsHeld_49 : decode cX6_tenthsHeld 49 = .ok (.isub, 1) := by decide +kernel
theorem dX6_tenthsHeld_50 : decode cX6_tenthsHeld 50 = .ok (.goto 4, 3) := by decide +kernel
theorem dX6_tenthsHeld_53 : decode cX6_tenthsHeld 53 = .ok (.iconst 0, 1) := by decide +kernel
theorem dX6_tenthsHeld_54 : decode cX6_tenthsHeld 54 = .ok (.iload 5, 2) := by decide +kernel
theorem dX6_tenthsHeld_56 : decode cX6_tenthsHeld 56 = .ok (.iload 6, 2) := by decide +kernel
theorem dX6_tenthsHeld_58 : decode cX6_tenthsHeld 58 = .ok (.iconst 5, 1) := by decide +kernel
theorem dX6_tenthsHeld_59 : decode cX6_tenthsHeld 59 = .ok (.iadd, 1) := by decide +kernel
theorem dX6_tenthsHeld_60 : decode cX6_tenthsHeld 60 = .ok (.if_icmp .le 7, 3) := by decide +kernel
theorem dX6_tenthsHeld_63 : decode cX6_tenthsHeld 63 = .ok (.iload_n 3, 1) := by decide +kernel
theorem dX6_tenthsHeld_64 : decode cX6_tenthsHeld 64 = .ok (.goto 4, 3) := by decide +kernel
theorem dX6_tenthsHeld_67 : decode cX6_tenthsHeld 67 = .ok (.iconst 0, 1) := by decide +kernel
theorem dX6_tenthsHeld_68 : decode cX6_tenthsHeld 68 = .ok (.iadd, 1) := by decide +kernel
theorem dX6_tenthsHeld_69 : decode cX6_tenthsHeld 69 = .ok (.ireturn, 1) := by decide +kernel
theorem dX6_fittingStrengths_0 : decode cX6_fittingStrengths 0 = .ok (.iconst 0, 1) := by decide +kernel
theorem dX6_fittingStrengths_1 : decode cX6_fittingStrengths 1 = .ok (.istore_n 2, 1) := by decide +kernel
theorem dX6_fittingStrengths_2 : decode cX6_fittingStrengths 2 = .ok (.iconst 1, 1) := by decide +kernel
theorem dX6_fittingStrengths_3 : decode cX6_fittingStrengths 3 = .ok (.istore_n 3, 1) := by decide +kernel
theorem dX6_fittingStrengths_4 : decode cX6_fittingStrengths 4 = .ok (.iload_n 3, 1) := by decide +kernel
theorem dX6_fittingStrengths_5 : decode cX6_fittingStrengths 5 = .ok (.bipush 9, 2) := by decide +kernel
theorem dX6_fittingStrengths_7 : decode cX6_fittingStrengths 7 = .ok (.if_icmp .gt 24, 3) := by decide +kernel
theorem dX6_fittingStrengths_10 : decode cX6_fittingStrengths 10 = .ok (.aload_n 0, 1) := by decide +kernel
theorem dX6_fittingStrengths_11 : decode cX6_fittingStrengths 11 = .ok (.iload_n 1, 1) := by decide +kernel
theorem dX6_fittingStrengths_12 : decode cX6_fittingStrengths 12 = .ok (.iload_n 3, 1) := by decide +kernel
theorem dX6_fittingStrengths_13 : decode cX6_fittingStrengths 13 = .ok (.invokevirtual 131, 3) := by decide +kernel
theorem dX6_fittingStrengths_16 : decode cX6_fittingStrengths 16 = .ok (.ifCond .eq 9, 3) := by decide +kernel
theorem dX6_fittingStrengths_19 : decode cX6_fittingStrengths 19 = .ok (.iload_n 2, 1) := by decide +kernel
theorem dX6_fittingStrengths_20 : decode cX6_fittingStrengths 20 = .ok (.iconst 1, 1) := by decide +kernel
theorem dX6_fittingStrengths_21 : decode cX6_fittingStrengths 21 = .ok (.iload_n 3, 1) := by decide +kernel
theorem dX6_fittingStrengths_22 : decode cX6_fittingStrengths 22 = .ok (.ishl, 1) := by decide +kernel
theorem dX6_fittingStrengths_23 : decode cX6_fittingStrengths 23 = .ok (.ior, 1) := by decide +kernel
theorem dX6_fittingStrengths_24 : decode cX6_fittingStrengths 24 = .ok (.istore_n 2, 1) := by decide +kernel
theorem dX6_fittingStrengths_25 : decode cX6_fittingStrengths 25 = .ok (.iinc 3 1, 3) := by decide +kernel
theorem dX6_fittingStrengths_28 : decode cX6_fittingStrengths 28 = .ok (.goto (-24), 3) := by decide +kernel
theorem dX6_fittingStrengths_31 : decode cX6_fittingStrengths 31 = .ok (.iload_n 2, 1) := by decide +kernel
theorem dX6_fittingStrengths_32 : decode cX6_fittingStrengths 32 = .ok (.ireturn, 1) := by decide +kernel
theorem dX6_fitsSeen_0 : decode cX6_fitsSeen 0 = .ok (.iconst 0, 1) := by decide +kernel
theorem dX6_fitsSeen_1 : decode cX6_fitsSeen 1 = .ok (.istore_n 3, 1) := by decide +kernel
theorem dX6_fitsSeen_2 : decode cX6_fitsSeen 2 = .ok (.iload_n 3, 1) := by decide +kernel
theorem dX6_fitsSeen_3 : decode cX6_fitsSeen 3 = .ok (.aload_n 0, 1) := by decide +kernel
theorem dX6_fitsSeen_4 : decode cX6_fitsSeen 4 = .ok (.getfield 40, 3) := by decide +kernel
theorem dX6_fitsSeen_7 : decode cX6_fitsSeen 7 = .ok (.getfield 135, 3) := by decide +kernel
theorem dX6_fitsSeen_10 : decode cX6_fitsSeen 10 = .ok (.if_icmp .ge 80, 3) := by decide +kernel
theorem dX6_fitsSeen_13 : decode cX6_fitsSeen 13 = .ok (.aload_n 0, 1) := by decide +kernel
theorem dX6_fitsSeen_14 : decode cX6_fitsSeen 14 = .ok (.getfield 40, 3) := by decide +kernel
theorem dX6_fitsSeen_17 : decode cX6_fitsSeen 17 = .ok (.iload_n 3, 1) := by decide +kernel
theorem dX6_fitsSeen_18 : decode cX6_fitsSeen 18 = .ok (.iconst 0, 1) := by decide +kernel
theorem dX6_fitsSeen_19 : decode cX6_fitsSeen 19 = .ok (.invokevirtual 138, 3) := by decide +kernel
theorem dX6_fitsSeen_22 : decode cX6_fitsSeen 22 = .ok (.iload_n 1, 1) := by decide +kernel
theorem dX6_fitsSeen_23 : decode cX6_fitsSeen 23 = .ok (.if_icmp .ne 61, 3) := by decide +kernel
theorem dX6_fitsSeen_26 : decode cX6_fitsSeen 26 = .ok (.aload_n 0, 1) := by decide +kernel
theorem dX6_fitsSeen_27 : decode cX6_fitsSeen 27 = .ok (.getfield 18, 3) := by decide +kernel
theorem dX6_fitsSeen_30 : decode cX6_fitsSeen 30 = .ok (.iload_n 1, 1) := by decide +kernel
theorem dX6_fitsSeen_31 : decode cX6_fitsSeen 31 = .ok (.iaload, 1) := by decide +kernel
theorem dX6_fitsSeen_32 : decode cX6_fitsSeen 32 = .ok (.iload_n 2, 1) := by decide +kernel
theorem dX6_fitsSeen_33 : decode cX6_fitsSeen 33 = .ok (.aload_n 0, 1) := by decide +kernel
theorem dX6_fitsSeen_34 : decode cX6_fitsSeen 34 = .ok (.getfield 40, 3) := by decide +kernel
theorem dX6_fitsSeen_37 : decode cX6_fitsSeen 37 = .ok (.iload_n 3, 1) := by decide +kernel
theorem dX6_fitsSeen_38 : decode cX6_fitsSeen 38 = .ok (.iconst 1, 1) := by decide +kernel
theorem dX6_fitsSeen_39 : decode cX6_fitsSeen 39 = .ok (.invokevirtual 138, 3) := by decide +kernel
theorem dX6_fitsSeen_42 : decode cX6_fitsSeen 42 = .ok (.invokestatic 103, 3) := by decide +kernel
theorem dX6_fitsSeen_45 : decode cX6_fitsSeen 45 = .ok (.istore 4, 2) := by decide +kernel
theorem dX6_fitsSeen_47 : decode cX6_fitsSeen 47 = .ok (.iload 4, 2) := by decide +kernel
theorem dX6_fitsSeen_49 : decode cX6_fitsSeen 49 = .ok (.aload_n 0, 1) := by decide +kernel
theorem dX6_fitsSeen_50 : decode cX6_fitsSeen 50 = .ok (.getfield 40, 3) := by decide +kernel
theorem dX6_fitsSeen_53 : decode cX6_fitsSeen 53 = .ok (.iload_n 3, 1) := by decide +kernel
theorem dX6_fitsSeen_54 : decode cX6_fitsSeen 54 = .ok (.iconst 2, 1) := by decide +kernel
theorem dX6_fitsSeen_55 : decode cX6_fitsSeen 55 = .ok (.invokevirtual 138, 3) := by decide +kernel
theorem dX6_fitsSeen_58 : decode cX6_fitsSeen 58 = .ok (.if_icmp .lt 7, 3) := by decide +kernel
theorem dX6_fitsSeen_61 : decode cX6_fitsSeen 61 = .ok (.iconst 1, 1) := by decide +kernel
theorem dX6_fitsSeen_62 : decode cX6_fitsSeen 62 = .ok (.goto 4, 3) := by decide +kernel
theorem dX6_fitsSeen_65 : decode cX6_fitsSeen 65 = .ok (.iconst 0, 1) := by decide +kernel
theorem dX6_fitsSeen_66 : decode cX6_fitsSeen 66 = .ok (.istore 5, 2) := by decide +kernel
theorem dX6_fitsSeen_68 : decode cX6_fitsSeen 68 = .ok (.iload 5, 2) := by decide +kernel
theorem dX6_fitsSeen_70 : decode cX6_fitsSeen 70 = .ok (.aload_n 0, 1) := by decide +kernel
theorem dX6_fitsSeen_71 : decode cX6_fitsSeen 71 = .ok (.getfield 40, 3) := by decide +kernel
theorem dX6_fitsSeen_74 : decode cX6_fitsSeen 74 = .ok (.iload_n 3, 1) := by decide +kernel
theorem dX6_fitsSeen_75 : decode cX6_fitsSeen 75 = .ok (.iconst 3, 1) := by decide +kernel
theorem dX6_fitsSeen_76 : decode cX6_fitsSeen 76 = .ok (.invokevirtual 138, 3) := by decide +kernel
theorem dX6_fitsSeen_79 : decode cX6_fitsSeen 79 = .ok (.if_icmp .eq 5, 3) := by decide +kernel
theorem dX6_fitsSeen_82 : decode cX6_fitsSeen 82 = .ok (.iconst 0, 1) := by decide +kernel
theorem dX6_fitsSeen_83 : decode cX6_fitsSeen 83 = .ok (.ireturn, 1) := by decide +kernel
theorem dX6_fitsSeen_84 : decode cX6_fitsSeen 84 = .ok (.iinc 3 1, 3) := by decide +kernel
theorem dX6_fitsSeen_87 : decode cX6_fitsSeen 87 = .ok (.goto (-85), 3) := by decide +kernel
theorem dX6_fitsSeen_90 : decode cX6_fitsSeen 90 = .ok (.iconst 1, 1) := by decide +kernel
theorem dX6_fitsSeen_91 : decode cX6_fitsSeen 91 = .ok (.ireturn, 1) := by decide +kernel
theorem dX6_fittingThingKinds_0 : decode cX6_fittingThingKinds 0 = .ok (.iconst 0, 1) := by decide +kernel
theorem dX6_fittingThingKinds_1 : decode cX6_fittingThingKinds 1 = .ok (.istore_n 2, 1) := by decide +kernel
theorem dX6_fittingThingKinds_2 : decode cX6_fittingThingKinds 2 = .ok (.iconst 0, 1) := by decide +kernel
theorem dX6_fittingThingKinds_3 : decode cX6_fittingThingKinds 3 = .ok (.istore_n 3, 1) := by decide +kernel
theorem dX6_fittingThingKinds_4 : decode cX6_fittingThingKinds 4 = .ok (.iload_n 3, 1) := by decide +kernel
theorem dX6_fittingThingKinds_5 : decode cX6_fittingThingKinds 5 = .ok (.bipush 6, 2) := by decide +kernel
theorem dX6_fittingThingKinds_7 : decode cX6_fittingThingKinds 7 = .ok (.if_icmp .ge 24, 3) := by decide +kernel
theorem dX6_fittingThingKinds_10 : decode cX6_fittingThingKinds 10 = .ok (.aload_n 0, 1) := by decide +kernel
theorem dX6_fittingThingKinds_11 : decode cX6_fittingThingKinds 11 = .ok (.iload_n 1, 1) := by decide +kernel
theorem dX6_fittingThingKinds_12 : decode cX6_fittingThingKinds 12 = .ok (.iload_n 3, 1) := by decide +kernel
theorem dX6_fittingThingKinds_13 : decode cX6_fittingThingKinds 13 = .ok (.invokevirtual 141, 3) := by decide +kernel
theorem dX6_fittingThingKinds_16 : decode cX6_fittingThingKinds 16 = .ok (.ifCond .eq 9, 3) := by decide +kernel
theorem dX6_fittingThingKinds_19 : decode cX6_fittingThingKinds 19 = .ok (.iload_n 2, 1) := by decide +kernel
theorem dX6_fittingThingKinds_20 : decode cX6_fittingThingKinds 20 = .ok (.iconst 1, 1) := by decide +kernel
theorem dX6_fittingThingKinds_21 : decode cX6_fittingThingKinds 21 = .ok (.iload_n 3, 1) := by decide +kernel
theorem dX6_fittingThingKinds_22 : decode cX6_fittingThingKinds 22 = .ok (.ishl, 1) := by decide +kernel
theorem dX6_fittingThingKinds_23 : decode cX6_fittingThingKinds 23 = .ok (.ior, 1) := by decide +kernel
theorem dX6_fittingThingKinds_24 : decode cX6_fittingThingKinds 24 = .ok (.istore_n 2, 1) := by decide +kernel
theorem dX6_fittingThingKinds_25 : decode cX6_fittingThingKinds 25 = .ok (.iinc 3 1, 3) := by decide +kernel
theorem dX6_fittingThingKinds_28 : decode cX6_fittingThingKinds 28 = .ok (.goto (-24), 3) := by decide +kernel
theorem dX6_fittingThingKinds_31 : decode cX6_fittingThingKinds 31 = .ok (.iload_n 2, 1) := by decide +kernel
theorem dX6_fittingThingKinds_32 : decode cX6_fittingThingKinds 32 = .ok (.ireturn, 1) := by decide +kernel
theorem dX6_fitsNotes_0 : decode cX6_fitsNotes 0 = .ok (.iconst 0, 1) := by decide +kernel
theorem dX6_fitsNotes_1 : decode cX6_fitsNotes 1 = .ok (.istore_n 3, 1) := by decide +kernel
theorem dX6_fitsNotes_2 : decode cX6_fitsNotes 2 = .ok (.iload_n 3, 1) := by decide +kernel
theorem dX6_fitsNotes_3 : decode cX6_fitsNotes 3 = .ok (.aload_n 0, 1) := by decide +kernel
theorem dX6_fitsNotes_4 : decode cX6_fitsNotes 4 = .ok (.getfield 44, 3) := by decide +kernel
theorem dX6_fitsNotes_7 : decode cX6_fitsNotes 7 = .ok (.getfield 135, 3) := by decide +kernel
theorem dX6_fitsNotes_10 : decode cX6_fitsNotes 10 = .ok (.if_icmp .ge 58, 3) := by decide +kernel
theorem dX6_fitsNotes_13 : decode cX6_fitsNotes 13 = .ok (.aload_n 0, 1) := by decide +kernel
theorem dX6_fitsNotes_14 : decode cX6_fitsNotes 14 = .ok (.getfield 44, 3) := by decide +kernel
theorem dX6_fitsNotes_17 : decode cX6_fitsNotes 17 = .ok (.iload_n 3, 1) := by decide +kernel
theorem dX6_fitsNotes_18 : decode cX6_fitsNotes 18 = .ok (.iconst 0, 1) := by decide +kernel
theorem dX6_fitsNotes_19 : decode cX6_fitsNotes 19 = .ok (.invokevirtual 138, 3) := by decide +kernel
theorem dX6_fitsNotes_22 : decode cX6_fitsNotes 22 = .ok (.iload_n 1, 1) := by decide +kernel
theorem dX6_fitsNotes_23 : decode cX6_fitsNotes 23 = .ok (.if_icmp .ne 39, 3) := by decide +kernel
theorem dX6_fitsNotes_26 : decode cX6_fitsNotes 26 = .ok (.aload_n 0, 1) := by decide +kernel
theorem dX6_fitsNotes_27 : decode cX6_fitsNotes 27 = .ok (.getfield 44, 3) := by decide +kernel
theorem dX6_fitsNotes_30 : decode cX6_fitsNotes 30 = .ok (.iload_n 3, 1) := by decide +kernel
theorem dX6_fitsNotes_31 : decode cX6_fitsNotes 31 = .ok (.iconst 3, 1) := by decide +kernel
theorem dX6_fitsNotes_32 : decode cX6_fitsNotes 32 = .ok (.invokevirtual 138, 3) := by decide +kernel
theorem dX6_fitsNotes_35 : decode cX6_fitsNotes 35 = .ok (.iload_n 2, 1) := by decide +kernel
theorem dX6_fitsNotes_36 : decode cX6_fitsNotes 36 = .ok (.aload_n 0, 1) := by decide +kernel
theorem dX6_fitsNotes_37 : decode cX6_fitsNotes 37 = .ok (.getfield 44, 3) := by decide +kernel
theorem dX6_fitsNotes_40 : decode cX6_fitsNotes 40 = .ok (.iload_n 3, 1) := by decide +kernel
theorem dX6_fitsNotes_41 : decode cX6_fitsNotes 41 = .ok (.iconst 1, 1) := by decide +kernel
theorem dX6_fitsNotes_42 : decode cX6_fitsNotes 42 = .ok (.invokevirtual 138, 3) := by decide +kernel
theorem dX6_fitsNotes_45 : decode cX6_fitsNotes 45 = .ok (.aload_n 0, 1) := by decide +kernel
theorem dX6_fitsNotes_46 : decode cX6_fitsNotes 46 = .ok (.getfield 44, 3) := by decide +kernel
theorem dX6_fitsNotes_49 : decode cX6_fitsNotes 49 = .ok (.iload_n 3, 1) := by decide +kernel
theorem dX6_fitsNotes_50 : decode cX6_fitsNotes 50 = .ok (.iconst 2, 1) := by decide +kernel
theorem dX6_fitsNotes_51 : decode cX6_fitsNotes 51 = .ok (.invokevirtual 138, 3) := by decide +kernel
theorem dX6_fitsNotes_54 : decode cX6_fitsNotes 54 = .ok (.invokestatic 91, 3) := by decide +kernel
theorem dX6_fitsNotes_57 : decode cX6_fitsNotes 57 = .ok (.if_icmp .eq 5, 3) := by decide +kernel
theorem dX6_fitsNotes_60 : decode cX6_fitsNotes 60 = .ok (.iconst 0, 1) := by decide +kernel
theorem dX6_fitsNotes_61 : decode cX6_fitsNotes 61 = .ok (.ireturn, 1) := by decide +kernel
theorem dX6_fitsNotes_62 : decode cX6_fitsNotes 62 = .ok (.iinc 3 1, 3) := by decide +kernel
theorem dX6_fitsNotes_65 : decode cX6_fitsNotes 65 = .ok (.goto (-63), 3) := by decide +kernel
theorem dX6_fitsNotes_68 : decode cX6_fitsNotes 68 = .ok (.iconst 1, 1) := by decide +kernel
theorem dX6_fitsNotes_69 : decode cX6_fitsNotes 69 = .ok (.ireturn, 1) := by decide +kernel
theorem dX6_fittingOneKinds_0 : decode cX6_fittingOneKinds 0 = .ok (.iconst 0, 1) := by decide +kernel
theorem dX6_fittingOneKinds_1 : decode cX6_fittingOneKinds 1 = .ok (.istore_n 2, 1) := by decide +kernel
theorem dX6_fittingOneKinds_2 : decode cX6_fittingOneKinds 2 = .ok (.iconst 0, 1) := by decide +kernel
theorem dX6_fittingOneKinds_3 : decode cX6_fittingOneKinds 3 = .ok (.istore_n 3, 1) := by decide +kernel
theorem dX6_fittingOneKinds_4 : decode cX6_fittingOneKinds 4 = .ok (.iload_n 3, 1) := by decide +kernel
theorem dX6_fittingOneKinds_5 : decode cX6_fittingOneKinds 5 = .ok (.bipush 6, 2) := by decide +kernel
theorem dX6_fittingOneKinds_7 : decode cX6_fittingOneKinds 7 = .ok (.if_icmp .ge 24, 3) := by decide +kernel
theorem dX6_fittingOneKinds_10 : decode cX6_fittingOneKinds 10 = .ok (.aload_n 0, 1) := by decide +kernel
theorem dX6_fittingOneKinds_11 : decode cX6_fittingOneKinds 11 = .ok (.iload_n 1, 1) := by decide +kernel
theorem dX6_fittingOneKinds_12 : decode cX6_fittingOneKinds 12 = .ok (.iload_n 3, 1) := by decide +kernel
theorem dX6_fittingOneKinds_13 : decode cX6_fittingOneKinds 13 = .ok (.invokevirtual 144, 3) := by decide +kernel
theorem dX6_fittingOneKinds_16 : decode cX6_fittingOneKinds 16 = .ok (.ifCond .eq 9, 3) := by decide +kernel
theorem dX6_fittingOneKinds_19 : decode cX6_fittingOneKinds 19 = .ok (.iload_n 2, 1) := by decide +kernel
theorem dX6_fittingOneKinds_20 : decode cX6_fittingOneKinds 20 = .ok (.iconst 1, 1) := by decide +kernel
theorem dX6_fittingOneKinds_21 : decode cX6_fittingOneKinds 21 = .ok (.iload_n 3, 1) := by decide +kernel
theorem dX6_fittingOneKinds_22 : decode cX6_fittingOneKinds 22 = .ok (.ishl, 1) := by decide +kernel
theorem dX6_fittingOneKinds_23 : decode cX6_fittingOneKinds 23 = .ok (.ior, 1) := by decide +kernel
theorem dX6_fittingOneKinds_24 : decode cX6_fittingOneKinds 24 = .ok (.istore_n 2, 1) := by decide +kernel
theorem dX6_fittingOneKinds_25 : decode cX6_fittingOneKinds 25 = .ok (.iinc 3 1, 3) := by decide +kernel
theorem dX6_fittingOneKinds_28 : decode cX6_fittingOneKinds 28 = .ok (.goto (-24), 3) := by decide +kernel
theorem dX6_fittingOneKinds_31 : decode cX6_fittingOneKinds 31 = .ok (.iload_n 2, 1) := by decide +kernel
theorem dX6_fittingOneKinds_32 : decode cX6_fittingOneKinds 32 = .ok (.ireturn, 1) := by decide +kernel
theorem dX6_fitsMarks_0 : decode cX6_fitsMarks 0 = .ok (.iconst 0, 1) := by decide +kernel
theorem dX6_fitsMarks_1 : decode cX6_fitsMarks 1 = .ok (.istore_n 3, 1) := by decide +kernel
theorem dX6_fitsMarks_2 : decode cX6_fitsMarks 2 = .ok (.iload_n 3, 1) := by decide +kernel
theorem dX6_fitsMarks_3 : decode cX6_fitsMarks 3 = .ok (.aload_n 0, 1) := by decide +kernel
theorem dX6_fitsMarks_4 : decode cX6_fitsMarks 4 = .ok (.getfield 47, 3) := by decide +kernel
theorem dX6_fitsMarks_7 : decode cX6_fitsMarks 7 = .ok (.getfield 135, 3) := by decide +kernel
theorem dX6_fitsMarks_10 : decode cX6_fitsMarks 10 = .ok (.if_icmp .ge 58, 3) := by decide +kernel
theorem dX6_fitsMarks_13 : decode cX6_fitsMarks 13 = .ok (.aload_n 0, 1) := by decide +kernel
theorem dX6_fitsMarks_14 : decode cX6_fitsMarks 14 = .ok (.getfield 47, 3) := by decide +kernel
theorem dX6_fitsMarks_17 : decode cX6_fitsMarks 17 = .ok (.iload_n 3, 1) := by decide +kernel
theorem dX6_fitsMarks_18 : decode cX6_fitsMarks 18 = .ok (.iconst 0, 1) := by decide +kernel
theorem dX6_fitsMarks_19 : decode cX6_fitsMarks 19 = .ok (.invokevirtual 138, 3) := by decide +kernel
theorem dX6_fitsMarks_22 : decode cX6_fitsMarks 22 = .ok (.iload_n 1, 1) := by decide +kernel
theorem dX6_fitsMarks_23 : decode cX6_fitsMarks 23 = .ok (.if_icmp .ne 39, 3) := by decide +kernel
theorem dX6_fitsMarks_26 : decode cX6_fitsMarks 26 = .ok (.aload_n 0, 1) := by decide +kernel
theorem dX6_fitsMarks_27 : decode cX6_fitsMarks 27 = .ok (.getfield 47, 3) := by decide +kernel
theorem dX6_fitsMarks_30 : decode cX6_fitsMarks 30 = .ok (.iload_n 3, 1) := by decide +kernel
theorem dX6_fitsMarks_31 : decode cX6_fitsMarks 31 = .ok (.iconst 3, 1) := by decide +kernel
theorem dX6_fitsMarks_32 : decode cX6_fitsMarks 32 = .ok (.invokevirtual 138, 3) := by decide +kernel
theorem dX6_fitsMarks_35 : decode cX6_fitsMarks 35 = .ok (.iload_n 2, 1) := by decide +kernel
theorem dX6_fitsMarks_36 : decode cX6_fitsMarks 36 = .ok (.aload_n 0, 1) := by decide +kernel
theorem dX6_fitsMarks_37 : decode cX6_fitsMarks 37 = .ok (.getfield 47, 3) := by decide +kernel
theorem dX6_fitsMarks_40 : decode cX6_fitsMarks 40 = .ok (.iload_n 3, 1) := by decide +kernel
theorem dX6_fitsMarks_41 : decode cX6_fitsMarks 41 = .ok (.iconst 1, 1) := by decide +kernel
theorem dX6_fitsMarks_42 : decode cX6_fitsMarks 42 = .ok (.invokevirtual 138, 3) := by decide +kernel
theorem dX6_fitsMarks_45 : decode cX6_fitsMarks 45 = .ok (.aload_n 0, 1) := by decide +kernel
theorem dX6_fitsMarks_46 : decode cX6_fitsMarks 46 = .ok (.getfield 47, 3) := by decide +kernel
theorem dX6_fitsMarks_49 : decode cX6_fitsMarks 49 = .ok (.iload_n 3, 1) := by decide +kernel
theorem dX6_fitsMarks_50 : decode cX6_fitsMarks 50 = .ok (.iconst 2, 1) := by decide +kernel
theorem dX6_fitsMarks_51 : decode cX6_fitsMarks 51 = .ok (.invokevirtual 138, 3) := by decide +kernel
theorem dX6_fitsMarks_54 : decode cX6_fitsMarks 54 = .ok (.invokestatic 103, 3) := by decide +kernel
theorem dX6_fitsMarks_57 : decode cX6_fitsMarks 57 = .ok (.if_icmp .eq 5, 3) := by decide +kernel
theorem dX6_fitsMarks_60 : decode cX6_fitsMarks 60 = .ok (.iconst 0, 1) := by decide +kernel
theorem dX6_fitsMarks_61 : decode cX6_fitsMarks 61 = .ok (.ireturn, 1) := by decide +kernel
theorem dX6_fitsMarks_62 : decode cX6_fitsMarks 62 = .ok (.iinc 3 1, 3) := by decide +kernel
theorem dX6_fitsMarks_65 : decode cX6_fitsMarks 65 = .ok (.goto (-63), 3) := by decide +kernel
theorem dX6_fitsMarks_68 : decode cX6_fitsMarks 68 = .ok (.iconst 1, 1) := by decide +kernel
theorem dX6_fitsMarks_69 : decode cX6_fitsMarks 69 = .ok (.ireturn, 1) := by decide +kernel
theorem dX6_mixInto_0 : decode cX6_mixInto 0 = .ok (.lload_n 1, 1) := by decide +kernel
theorem dX6_mixInto_1 : decode cX6_mixInto 1 = .ok (.lstore_n 3, 1) := by decide +kernel
theorem dX6_mixInto_2 : decode cX6_mixInto 2 = .ok (.iconst 0, 1) := by decide +kernel
theorem dX6_mixInto_3 : decode cX6_mixInto 3 = .ok (.istore 5, 2) := by decide +kernel
theorem dX6_mixInto_5 : decode cX6_mixInto 5 = .ok (.iload 5, 2) := by decide +kernel
theorem dX6_mixInto_7 : decode cX6_mixInto 7 = .ok (.aload_n 0, 1) := by decide +kernel
theorem dX6_mixInto_8 : decode cX6_mixInto 8 = .ok (.getfield 50, 3) := by decide +kernel
theorem dX6_mixInto_11 : decode cX6_mixInto 11 = .ok (.if_icmp .ge 39, 3) := by decide +kernel
theorem dX6_mixInto_14 : decode cX6_mixInto 14 = .ok (.ldc2_w 147, 3) := by decide +kernel
theorem dX6_mixInto_17 : decode cX6_mixInto 17 = .ok (.lload_n 3, 1) := by decide +kernel
theorem dX6_mixInto_18 : decode cX6_mixInto 18 = .ok (.lmul, 1) := by decide +kernel
theorem dX6_mixInto_19 : decode cX6_mixInto 19 = .ok (.aload_n 0, 1) := by decide +kernel
theorem dX6_mixInto_20 : decode cX6_mixInto 20 = .ok (.getfield 9, 3) := by decide +kernel
theorem dX6_mixInto_23 : decode cX6_mixInto 23 = .ok (.iload 5, 2) := by decide +kernel
theorem dX6_mixInto_25 : decode cX6_mixInto 25 = .ok (.iaload, 1) := by decide +kernel
theorem dX6_mixInto_26 : decode cX6_mixInto 26 = .ok (.i2l, 1) := by decide +kernel
theorem dX6_mixInto_27 : decode cX6_mixInto 27 = .ok (.ladd, 1) := by decide +kernel
theorem dX6_mixInto_28 : decode cX6_mixInto 28 = .ok (.lstore_n 3, 1) := by decide +kernel
theorem dX6_mixInto_29 : decode cX6_mixInto 29 = .ok (.ldc2_w 147, 3) := by decide +kernel
theorem dX6_mixInto_32 : decode cX6_mixInto 32 = .ok (.lload_n 3, 1) := by decide +kernel
theorem dX6_mixInto_33 : decode cX6_mixInto 33 = .ok (.lmul, 1) := by decide +kernel
theorem dX6_mixInto_34 : decode cX6_mixInto 34 = .ok (.aload_n 0, 1) := by decide +kernel
theorem dX6_mixInto_35 : decode cX6_mixInto 35 = .ok (.getfield 15, 3) := by decide +kernel
theorem dX6_mixInto_38 : decode cX6_mixInto 38 = .ok (.iload 5, 2) := by decide +kernel
theorem dX6_mixInto_40 : decode cX6_mixInto 40 = .ok (.iaload, 1) := by decide +kernel
theorem dX6_mixInto_41 : decode cX6_mixInto 41 = .ok (.i2l, 1) := by decide +kernel
theorem dX6_mixInto_42 : decode cX6_mixInto 42 = .ok (.ladd, 1) := by decide +kernel
theorem dX6_mixInto_43 : decode cX6_mixInto 43 = .ok (.lstore_n 3, 1) := by decide +kernel
theorem dX6_mixInto_44 : decode cX6_mixInto 44 = .ok (.iinc 5 1, 3) := by decide +kernel
theorem dX6_mixInto_47 : decode cX6_mixInto 47 = .ok (.goto (-42), 3) := by decide +kernel
theorem dX6_mixInto_50 : decode cX6_mixInto 50 = .ok (.iconst 0, 1) := by decide +kernel
theorem dX6_mixInto_51 : decode cX6_mixInto 51 = .ok (.istore 5, 2) := by decide +kernel
theorem dX6_mixInto_53 : decode cX6_mixInto 53 = .ok (.iload 5, 2) := by decide +kernel
theorem dX6_mixInto_55 : decode cX6_mixInto 55 = .ok (.aload_n 0, 1) := by decide +kernel
theorem dX6_mixInto_56 : decode cX6_mixInto 56 = .ok (.getfield 54, 3) := by decide +kernel
theorem dX6_mixInto_59 : decode cX6_mixInto 59 = .ok (.if_icmp .ge 40, 3) := by decide +kernel
theorem dX6_mixInto_62 : decode cX6_mixInto 62 = .ok (.iconst 0, 1) := by decide +kernel
theorem dX6_mixInto_63 : decode cX6_mixInto 63 = .ok (.istore 6, 2) := by decide +kernel
theorem dX6_mixInto_65 : decode cX6_mixInto 65 = .ok (.iload 6, 2) := by decide +kernel
theorem dX6_mixInto_67 : decode cX6_mixInto 67 = .ok (.iconst 4, 1) := by decide +kernel
theorem dX6_mixInto_68 : decode cX6_mixInto 68 = .ok (.if_icmp .gt 25, 3) := by decide +kernel
theorem dX6_mixInto_71 : decode cX6_mixInto 71 = .ok (.ldc2_w 147, 3) := by decide +kernel
theorem dX6_mixInto_74 : decode cX6_mixInto 74 = .ok (.lload_n 3, 1) := by decide +kernel
theorem dX6_mixInto_75 : decode cX6_mixInto 75 = .ok (.lmul, 1) := by decide +kernel
theorem dX6_mixInto_76 : decode cX6_mixInto 76 = .ok (.aload_n 0, 1) := by decide +kernel
theorem dX6_mixInto_77 : decode cX6_mixInto 77 = .ok (.iload 5, 2) := by decide +kernel
theorem dX6_mixInto_79 : decode cX6_mixInto 79 = .ok (.iload 6, 2) := by decide +kernel
theorem dX6_mixInto_81 : decode cX6_mixInto 81 = .ok (.invokevirtual 149, 3) := by decide +kernel
theorem dX6_mixInto_84 : decode cX6_mixInto 84 = .ok (.i2l, 1) := by decide +kernel
theorem dX6_mixInto_85 : decode cX6_mixInto 85 = .ok (.ladd, 1) := by decide +kernel
theorem dX6_mixInto_86 : decode cX6_mixInto 86 = .ok (.lstore_n 3, 1) := by decide +kernel
theorem dX6_mixInto_87 : decode cX6_mixInto 87 = .ok (.iinc 6 1, 3) := by decide +kernel
theorem dX6_mixInto_90 : decode cX6_mixInto 90 = .ok (.goto (-25), 3) := by decide +kernel
theorem dX6_mixInto_93 : decode cX6_mixInto 93 = .ok (.iinc 5 1, 3) := by decide +kernel
theorem dX6_mixInto_96 : decode cX6_mixInto 96 = .ok (.goto (-43), 3) := by decide +kernel
theorem dX6_mixInto_99 : decode cX6_mixInto 99 = .ok (.aload_n 0, 1) := by decide +kernel
theorem dX6_mixInto_100 : decode cX6_mixInto 100 = .ok (.getfield 40, 3) := by decide +kernel
theorem dX6_mixInto_103 : decode cX6_mixInto 103 = .ok (.lload_n 3, 1) := by decide +kernel
theorem dX6_mixInto_104 : decode cX6_mixInto 104 = .ok (.invokevirtual 152, 3) := by decide +kernel
theorem dX6_mixInto_107 : decode cX6_mixInto 107 = .ok (.lstore_n 3, 1) := by decide +kernel
theorem dX6_mixInto_108 : decode cX6_mixInto 108 = .ok (.aload_n 0, 1) := by decide +kernel
theorem dX6_mixInto_109 : decode cX6_mixInto 109 = .ok (.getfield 44, 3) := by decide +kernel
theorem dX6_mixInto_112 : decode cX6_mixInto 112 = .ok (.lload_n 3, 1) := by decide +kernel
theorem dX6_mixInto_113 : decode cX6_mixInto 113 = .ok (.invokevirtual 152, 3) := by decide +kernel
theorem dX6_mixInto_116 : decode cX6_mixInto 116 = .ok (.lstore_n 3, 1) := by decide +kernel
theorem dX6_mixInto_117 : decode cX6_mixInto 117 = .ok (.aload_n 0, 1) := by decide +kernel
theorem dX6_mixInto_118 : decode cX6_mixInto 118 = .ok (.getfield 47, 3) := by decide +kernel
theorem dX6_mixInto_121 : decode cX6_mixInto 121 = .ok (.lload_n 3, 1) := by decide +kernel
theorem dX6_mixInto_122 : decode cX6_mixInto 122 = .ok (.invokevirtual 152, 3) := by decide +kernel
theorem dX6_mixInto_125 : decode cX6_mixInto 125 = .ok (.lreturn, 1) := by decide +kernel
theorem dX7_init_0 : decode cX7_init 0 = .ok (.aload_n 0, 1) := by decide +kernel
theorem dX7_init_1 : decode cX7_init 1 = .ok (.invokespecial 3, 3) := by decide +kernel
theorem dX7_init_4 : decode cX7_init 4 = .ok (.aload_n 0, 1) := by decide +kernel
theorem dX7_init_5 : decode cX7_init 5 = .ok (.new 9, 3) := by decide +kernel
theorem dX7_init_8 : decode cX7_init 8 = .ok (.dup, 1) := by decide +kernel
theorem dX7_init_9 : decode cX7_init 9 = .ok (.invokespecial 11, 3) := by decide +kernel
theorem dX7_init_12 : decode cX7_init 12 = .ok (.putfield 12, 3) := by decide +kernel
theorem dX7_init_15 : decode cX7_init 15 = .ok (.aload_n 0, 1) := by decide +kernel
theorem dX7_init_16 : decode cX7_init 16 = .ok (.new 16, 3) := by decide +kernel
theorem dX7_init_19 : decode cX7_init 19 = .ok (.dup, 1) := by decide +kernel
theorem dX7_init_20 : decode cX7_init 20 = .ok (.invokespecial 18, 3) := by decide +kernel
theorem dX7_init_23 : decode cX7_init 23 = .ok (.putfield 19, 3) := by decide +kernel
theorem dX7_init_26 : decode cX7_init 26 = .ok (.aload_n 0, 1) := by decide +kernel
theorem dX7_init_27 : decode cX7_init 27 = .ok (.iconst 2, 1) := by decide +kernel
theorem dX7_init_28 : decode cX7_init 28 = .ok (.anewarray 9, 3) := by decide +kernel
theorem dX7_init_31 : decode cX7_init 31 = .ok (.putfield 23, 3) := by decide +kernel
theorem dX7_init_34 : decode cX7_init 34 = .ok (.aload_n 0, 1) := by decide +kernel
theorem dX7_init_35 : decode cX7_init 35 = .ok (.new 27, 3) := by decide +kernel
theorem dX7_init_38 : decode cX7_init 38 = .ok (.dup, 1) := by decide +kernel
theorem dX7_init_39 : decode cX7_init 39 = .ok (.invokespecial 29, 3) := by decide +kernel
theorem dX7_init_42 : decode cX7_init 42 = .ok (.putfield 30, 3) := by decide +kernel
theorem dX7_init_45 : decode cX7_init 45 = .ok (.aload_n 0, 1) := by decide +kernel
theorem dX7_init_46 : decode cX7_init 46 = .ok (.new 34, 3) := by decide +kernel
theorem dX7_init_49 : decode cX7_init 49 = .ok (.dup, 1) := by decide +kernel
theorem dX7_init_50 : decode cX7_init 50 = .ok (.invokespecial 36, 3) := by decide +kernel
theorem dX7_init_53 : decode cX7_init 53 = .ok (.putfield 37, 3) := by decide +kernel
theorem dX7_init_56 : decode cX7_init 56 = .ok (.aload_n 0, 1) := by decide +kernel
theorem dX7_init_57 : decode cX7_init 57 = .ok (.new 41, 3) := by decide +kernel
theorem dX7_init_60 : decode cX7_init 60 = .ok (.dup, 1) := by decide +kernel
theorem dX7_init_61 : decode cX7_init 61 = .ok (.invokespecial 43, 3) := by decide +kernel
theorem dX7_init_64 : decode cX7_init 64 = .ok (.putfield 44, 3) := by decide +kernel
theorem dX7_init_67 : decode cX7_init 67 = .ok (.aload_n 0, 1) := by decide +kernel
theorem dX7_init_68 : decode cX7_init 68 = .ok (.lconst 1, 1) := by decide +kernel
theorem dX7_init_69 : decode cX7_init 69 = .ok (.putfield 48, 3) := by decide +kernel
theorem dX7_init_72 : decode cX7_init 72 = .ok (.iconst 0, 1) := by decide +kernel
theorem dX7_init_73 : decode cX7_init 73 = .ok (.istore_n 1, 1) := by decide +kernel
theorem dX7_init_74 : decode cX7_init 74 = .ok (.iload_n 1, 1) := by decide +kernel
theorem dX7_init_75 : decode cX7_init 75 = .ok (.iconst 2, 1) := by decide +kernel
theorem dX7_init_76 : decode cX7_init 76 = .ok (.if_icmp .ge 22, 3) := by decide +kernel
theorem dX7_init_79 : decode cX7_init 79 = .ok (.aload_n 0, 1) := by decide +kernel
theorem dX7_init_80 : decode cX7_init 80 = .ok (.getfield 23, 3) := by decide +kernel
theorem dX7_init_83 : decode cX7_init 83 = .ok (.iload_n 1, 1) := by decide +kernel
theorem dX7_init_84 : decode cX7_init 84 = .ok (.new 9, 3) := by decide +kernel
theorem dX7_init_87 : decode cX7_init 87 = .ok (.dup, 1) := by decide +kernel
theorem dX7_init_88 : decode cX7_init 88 = .ok (.invokespecial 11, 3) := by decide +kernel
theorem dX7_init_91 : decode cX7_init 91 = .ok (.aastore, 1) := by decide +kernel
theorem dX7_init_92 : decode cX7_init 92 = .ok (.iinc 1 1, 3) := by decide +kernel
theorem dX7_init_95 : decode cX7_init 95 = .ok (.goto (-21), 3) := by decide +kernel
theorem dX7_init_98 : decode cX7_init 98 = .ok (.return_, 1) := by decide +kernel
theorem dX7_people_0 : decode cX7_people 0 = .ok (.aload_n 0, 1) := by decide +kernel
theorem dX7_people_1 : decode cX7_people 1 = .ok (.getfield 12, 3) := by decide +kernel
theorem dX7_people_4 : decode cX7_people 4 = .ok (.getfield 52, 3) := by decide +kernel
theorem dX7_people_7 : decode cX7_people 7 = .ok (.istore_n 1, 1) := by decide +kernel
theorem dX7_people_8 : decode cX7_people 8 = .ok (.aload_n 0, 1) := by decide +kernel
theorem dX7_people_9 : decode cX7_people 9 = .ok (.getfield 12, 3) := by decide +kernel
theorem dX7_people_12 : decode cX7_people 12 = .ok (.invokevirtual 56, 3) := by decide +kernel
theorem dX7_people_15 : decode cX7_people 15 = .ok (.iload_n 1, 1) := by decide +kernel
theorem dX7_people_16 : decode cX7_people 16 = .ok (.ireturn, 1) := by decide +kernel
theorem dX7_thing_0 : decode cX7_thing 0 = .ok (.iload_n 1, 1) := by decide +kernel
theorem dX7_thing_1 : decode cX7_thing 1 = .ok (.iconst 0, 1) := by decide +kernel
theorem dX7_thing_2 : decode cX7_thing 2 = .ok (.iconst 5, 1) := by decide +kernel
theorem dX7_thing_3 : decode cX7_thing 3 = .ok (.invokestatic 59, 3) := by decide +kernel
theorem dX7_thing_6 : decode cX7_thing 6 = .ok (.ifCond .eq 13, 3) := by decide +kernel
theorem dX7_thing_9 : decode cX7_thing 9 = .ok (.iload_n 2, 1) := by decide +kernel
theorem dX7_thing_10 : decode cX7_thing 10 = .ok (.iconst 1, 1) := by decide +kernel
theorem dX7_thing_11 : decode cX7_thing 11 = .ok (.bipush 30, 2) := by decide +kernel
theorem dX7_thing_13 : decode cX7_thing 13 = .ok (.invokestatic 59, 3) := by decide +kernel
theorem dX7_thing_16 : decode cX7_thing 16 = .ok (.ifCond .ne 8, 3) := by decide +kernel
theorem dX7_thing_19 : decode cX7_thing 19 = .ok (.aload_n 0, 1) := by decide +kernel
theorem dX7_thing_20 : decode cX7_thing 20 = .ok (.invokevirtual 63, 3) := by decide +kernel
theorem dX7_thing_23 : decode cX7_thing 23 = .ok (.ireturn, 1) := by decide +kernel
theorem dX7_thing_24 : decode cX7_thing 24 = .ok (.aload_n 0, 1) := by decide +kernel
theorem dX7_thing_25 : decode cX7_thing 25 = .ok (.getfield 12, 3) := by decide +kernel
theorem dX7_thing_28 : decode cX7_thing 28 = .ok (.getfield 67, 3) := by decide +kernel
theorem dX7_thing_31 : decode cX7_thing 31 = .ok (.bipush 7, 2) := by decide +kernel
theorem dX7_thing_33 : decode cX7_thing 33 = .ok (.if_icmp .lt 8, 3) := by decide +kernel
theorem dX7_thing_36 : decode cX7_thing 36 = .ok (.aload_n 0, 1) := by decide +kernel
theorem dX7_thing_37 : decode cX7_thing 37 = .ok (.invokevirtual 70, 3) := by decide +kernel
theorem dX7_thing_40 : decode cX7_thing 40 = .ok (.ireturn, 1) := by decide +kernel
theorem dX7_thing_41 : decode cX7_thing 41 = .ok (.aload_n 0, 1) := by decide +kernel
theorem dX7_thing_42 : decode cX7_thing 42 = .ok (.getfield 12, 3) := by decide +kernel
theorem dX7_thing_45 : decode cX7_thing 45 = .ok (.iload_n 1, 1) := by decide +kernel
theorem dX7_thing_46 : decode cX7_thing 46 = .ok (.iload_n 2, 1) := by decide +kernel
theorem dX7_thing_47 : decode cX7_thing 47 = .ok (.invokevirtual 73, 3) := by decide +kernel
theorem dX7_thing_50 : decode cX7_thing 50 = .ok (.ireturn, 1) := by decide +kernel
theorem dX7_one_0 : decode cX7_one 0 = .ok (.iload_n 1, 1) := by decide +kernel
theorem dX7_one_1 : decode cX7_one 1 = .ok (.iconst 0, 1) := by decide +kernel
theorem dX7_one_2 : decode cX7_one 2 = .ok (.iconst 5, 1) := by decide +kernel
theorem dX7_one_3 : decode cX7_one 3 = .ok (.invokestatic 59, 3) := by decide +kernel
theorem dX7_one_6 : decode cX7_one 6 = .ok (.ifCond .eq 23, 3) := by decide +kernel
theorem dX7_one_9 : decode cX7_one 9 = .ok (.iload_n 2, 1) := by decide +kernel
theorem dX7_one_10 : decode cX7_one 10 = .ok (.iconst 1, 1) := by decide +kernel
theorem dX7_one_11 : decode cX7_one 11 = .ok (.bipush 9, 2) := by decide +kernel
theorem dX7_one_13 : decode cX7_one 13 = .ok (.invokestatic 59, 3) := by decide +kernel
theorem dX7_one_16 : decode cX7_one 16 = .ok (.ifCond .eq 13, 3) := by decide +kernel
theorem dX7_one_19 : decode cX7_one 19 = .ok (.iload_n 3, 1) := by decide +kernel
theorem dX7_one_20 : decode cX7_one 20 = .ok (.iconst 0, 1) := by decide +kernel
theorem dX7_one_21 : decode cX7_one 21 = .ok (.bipush 99, 2) := by decide +kernel
theorem dX7_one_23 : decode cX7_one 23 = .ok (.invokestatic 59, 3) := by decide +kernel
theorem dX7_one_26 : decode cX7_one 26 = .ok (.ifCond .ne 8, 3) := by decide +kernel
theorem dX7_one_29 : decode cX7_one 29 = .ok (.aload_n 0, 1) := by decide +kernel
theorem dX7_one_30 : decode cX7_one 30 = .ok (.invokevirtual 63, 3) := by decide +kernel
theorem dX7_one_33 : decode cX7_one 33 = .ok (.ireturn, 1) := by decide +kernel
theorem dX7_one_34 : decode cX7_one 34 = .ok (.aload_n 0, 1) := by decide +kernel
theorem dX7_one_35 : decode cX7_one 35 = .ok (.getfield 12, 3) := by decide +kernel
theorem dX7_one_38 : decode cX7_one 38 = .ok (.getfield 52, 3) := by decide +kernel
theorem dX7_one_41 : decode cX7_one 41 = .ok (.bipush 7, 2) := by decide +kernel
theorem dX7_one_43 : decode cX7_one 43 = .ok (.if_icmp .lt 8, 3) := by decide +kernel
theorem dX7_one_46 : decode cX7_one 46 = .ok (.aload_n 0, 1) := by decide +kernel
theorem dX7_one_47 : decode cX7_one 47 = .ok (.invokevirtual 70, 3) := by decide +kernel
theorem dX7_one_50 : decode cX7_one 50 = .ok (.ireturn, 1) := by decide +kernel
theorem dX7_one_51 : decode cX7_one 51 = .ok (.aload_n 0, 1) := by decide +kernel
theorem dX7_one_52 : decode cX7_one 52 = .ok (.getfield 12, 3) := by decide +kernel
theorem dX7_one_55 : decode cX7_one 55 = .ok (.iload_n 1, 1) := by decide +kernel
theorem dX7_one_56 : decode cX7_one 56 = .ok (.iload_n 2, 1) := by decide +kernel
theorem dX7_one_57 : decode cX7_one 57 = .ok (.iload_n 3, 1) := by decide +kernel
theorem dX7_one_58 : decode cX7_one 58 = .ok (.invokevirtual 77, 3) := by decide +kernel
theorem dX7_one_61 : decode cX7_one 61 = .ok (.ireturn, 1) := by decide +kernel
theorem dX7_type_0 : decode cX7_type 0 = .ok (.iload_n 1, 1) := by decide +kernel
theorem dX7_type_1 : decode cX7_type 1 = .ok (.iconst 0, 1) := by decide +kernel
theorem dX7_type_2 : decode cX7_type 2 = .ok (.bipush 127, 2) := by decide +kernel
theorem dX7_type_4 : decode cX7_type 4 = .ok (.invokestatic 59, 3) := by decide +kernel
theorem dX7_type_7 : decode cX7_type 7 = .ok (.ifCond .ne 8, 3) := by decide +kernel
theorem dX7_type_10 : decode cX7_type 10 = .ok (.aload_n 0, 1) := by decide +kernel
theorem dX7_type_11 : decode cX7_type 11 = .ok (.invokevirtual 63, 3) := by decide +kernel
theorem dX7_type_14 : decode cX7_type 14 = .ok (.ireturn, 1) := by decide +kernel
theorem dX7_type_15 : decode cX7_type 15 = .ok (.aload_n 0, 1) := by decide +kernel
theorem dX7_type_16 : decode cX7_type 16 = .ok (.getfield 19, 3) := by decide +kernel
theorem dX7_type_19 : decode cX7_type 19 = .ok (.getfield 81, 3) := by decide +kernel
theorem dX7_type_22 : decode cX7_type 22 = .ok (.sipush 150, 3) := by decide +kernel
theorem dX7_type_25 : decode cX7_type 25 = .ok (.if_icmp .lt 8, 3) := by decide +kernel
theorem dX7_type_28 : decode cX7_type 28 = .ok (.aload_n 0, 1) := by decide +kernel
theorem dX7_type_29 : decode cX7_type 29 = .ok (.invokevirtual 70, 3) := by decide +kernel
theorem dX7_type_32 : decode cX7_type 32 = .ok (.ireturn, 1) := by decide +kernel
theorem dX7_type_33 : decode cX7_type 33 = .ok (.aload_n 0, 1) := by decide +kernel
theorem dX7_type_34 : decode cX7_type 34 = .ok (.getfield 19, 3) := by decide +kernel
theorem dX7_type_37 : decode cX7_type 37 = .ok (.iload_n 1, 1) := by decide +kernel
theorem dX7_type_38 : decode cX7_type 38 = .ok (.invokevirtual 84, 3) := by decide +kernel
theorem dX7_type_41 : decode cX7_type 41 = .ok (.ireturn, 1) := by decide +kernel
theorem dX7_clear_0 : decode cX7_clear 0 = .ok (.aload_n 0, 1) := by decide +kernel
theorem dX7_clear_1 : decode cX7_clear 1 = .ok (.getfield 19, 3) := by decide +kernel
theorem dX7_clear_4 : decode cX7_clear 4 = .ok (.getfield 81, 3) := by decide +kernel
theorem dX7_clear_7 : decode cX7_clear 7 = .ok (.istore_n 1, 1) := by decide +kernel
theorem dX7_clear_8 : decode cX7_clear 8 = .ok (.aload_n 0, 1) := by decide +kernel
theorem dX7_clear_9 : decode cX7_clear 9 = .ok (.getfield 19, 3) := by decide +kernel
theorem dX7_clear_12 : decode cX7_clear 12 = .ok (.iconst 0, 1) := by decide +kernel
theorem dX7_clear_13 : decode cX7_clear 13 = .ok (.putfield 81, 3) := by decide +kernel
theorem dX7_clear_16 : decode cX7_clear 16 = .ok (.iload_n 1, 1) := by decide +kernel
theorem dX7_clear_17 : decode cX7_clear 17 = .ok (.ireturn, 1) := by decide +kernel
theorem dX7_read_0 : decode cX7_read 0 = .ok (.aload_n 0, 1) := by decide +kernel
theorem dX7_read_1 : decode cX7_read 1 = .ok (.getfield 19, 3) := by decide +kernel
theorem dX7_read_4 : decode cX7_read 4 = .ok (.invokevirtual 88, 3) := by decide +kernel
theorem dX7_read_7 : decode cX7_read 7 = .ok (.istore_n 1, 1) := by decide +kernel
theorem dX7_read_8 : decode cX7_read 8 = .ok (.iload_n 1, 1) := by decide +kernel
theorem dX7_read_9 : decode cX7_read 9 = .ok (.ifCond .lt 17, 3) := by decide +kernel
theorem dX7_read_12 : decode cX7_read 12 = .ok (.aload_n 0, 1) := by decide +kernel
theorem dX7_read_13 : decode cX7_read 13 = .ok (.getfield 12, 3) := by decide +kernel
theorem dX7_read_16 : decode cX7_read 16 = .ok (.aload_n 0, 1) := by decide +kernel
theorem dX7_read_17 : decode cX7_read 17 = .ok (.getfield 19, 3) := by decide +kernel
theorem dX7_read_20 : decode cX7_read 20 = .ok (.getfield 91, 3) := by decide +kernel
theorem dX7_read_23 : decode cX7_read 23 = .ok (.invokevirtual 94, 3) := by decide +kernel
theorem dX7_read_26 : decode cX7_read 26 = .ok (.iload_n 1, 1) := by decide +kernel
theorem dX7_read_27 : decode cX7_read 27 = .ok (.ireturn, 1) := by decide +kernel
theorem dX7_owns_0 : decode cX7_owns 0 = .ok (.aload_n 0, 1) := by decide +kernel
theorem dX7_owns_1 : decode cX7_owns 1 = .ok (.getfield 12, 3) := by decide +kernel
theorem dX7_owns_4 : decode cX7_owns 4 = .ok (.iload_n 1, 1) := by decide +kernel
theorem dX7_owns_5 : decode cX7_owns 5 = .ok (.invokevirtual 98, 3) := by decide +kernel
theorem dX7_owns_8 : decode cX7_owns 8 = .ok (.ifCond .eq 14, 3) := by decide +kernel
theorem dX7_owns_11 : decode cX7_owns 11 = .ok (.aload_n 0, 1) := by decide +kernel
theorem dX7_owns_12 : decode cX7_owns 12 = .ok (.getfield 12, 3) := by decide +kernel
theorem dX7_owns_15 : decode cX7_owns 15 = .ok (.iload_n 2, 1) := by decide +kernel
theorem dX7_owns_16 : decode cX7_owns 16 = .ok (.invokevirtual 102, 3) := by decide +kernel
theorem dX7_owns_19 : decode cX7_owns 19 = .ok (.ifCond .ne 8, 3) := by decide +kernel
theorem dX7_owns_22 : decode cX7_owns 22 = .ok (.aload_n 0, 1) := by decide +kernel
theorem dX7_owns_23 : decode cX7_owns 23 = .ok (.invokevirtual 63, 3) := by decide +kernel
theorem dX7_owns_26 : decode cX7_owns 26 = .ok (.ireturn, 1) := by decide +kernel
theorem dX7_owns_27 : decode cX7_owns 27 = .ok (.aload_n 0, 1) := by decide +kernel
theorem dX7_owns_28 : decode cX7_owns 28 = .ok (.getfield 12, 3) := by decide +kernel
theorem dX7_owns_31 : decode cX7_owns 31 = .ok (.iload_n 1, 1) := by decide +kernel
theorem dX7_owns_32 : decode cX7_owns 32 = .ok (.invokevirtual 105, 3) := by decide +kernel
theorem dX7_owns_35 : decode cX7_owns 35 = .ok (.ifCond .eq 15, 3) := by decide +kernel
theorem dX7_owns_38 : decode cX7_owns 38 = .ok (.aload_n 0, 1) := by decide +kernel
theorem dX7_owns_39 : decode cX7_owns 39 = .ok (.getfield 12, 3) := by decide +kernel
theorem dX7_owns_42 : decode cX7_owns 42 = .ok (.iload_n 2, 1) := by decide +kernel
theorem dX7_owns_43 : decode cX7_owns 43 = .ok (.invokevirtual 108, 3) := by decide +kernel
theorem dX7_owns_46 : decode cX7_owns 46 = .ok (.iconst (-1), 1) := by decide +kernel
theorem dX7_owns_47 : decode cX7_owns 47 = .ok (.if_icmp .eq 8, 3) := by decide +kernel
theorem dX7_owns_50 : decode cX7_owns 50 = .ok (.aload_n 0, 1) := by decide +kernel
theorem dX7_owns_51 : decode cX7_owns 51 = .ok (.invokevirtual 111, 3) := by decide +kernel
theorem dX7_owns_54 : decode cX7_owns 54 = .ok (.ireturn, 1) := by decide +kernel
theorem dX7_owns_55 : decode cX7_owns 55 = .ok (.aload_n 0, 1) := by decide +kernel
theorem dX7_owns_56 : decode cX7_owns 56 = .ok (.getfield 12, 3) := by decide +kernel
theorem dX7_owns_59 : decode cX7_owns 59 = .ok (.invokevirtual 114, 3) := by decide +kernel
theorem dX7_owns_62 : decode cX7_owns 62 = .ok (.aload_n 0, 1) := by decide +kernel
theorem dX7_owns_63 : decode cX7_owns 63 = .ok (.getfield 12, 3) := by decide +kernel
theorem dX7_owns_66 : decode cX7_owns 66 = .ok (.getfield 117, 3) := by decide +kernel
theorem dX7_owns_69 : decode cX7_owns 69 = .ok (.getfield 120, 3) := by decide +kernel
theorem dX7_owns_72 : decode cX7_owns 72 = .ok (.iload_n 1, 1) := by decide +kernel
theorem dX7_owns_73 : decode cX7_owns 73 = .ok (.iload_n 2, 1) := by decide +kernel
theorem dX7_owns_74 : decode cX7_owns 74 = .ok (.iastore, 1) := by decide +kernel
theorem dX7_owns_75 : decode cX7_owns 75 = .ok (.aload_n 0, 1) := by decide +kernel
theorem dX7_owns_76 : decode cX7_owns 76 = .ok (.getfield 12, 3) := by decide +kernel
theorem dX7_owns_79 : decode cX7_owns 79 = .ok (.iload_n 2, 1) := by decide +kernel
theorem dX7_owns_80 : decode cX7_owns 80 = .ok (.iload_n 1, 1) := by decide +kernel
theorem dX7_owns_81 : decode cX7_owns 81 = .ok (.iconst 1, 1) := by decide +kernel
theorem dX7_owns_82 : decode cX7_owns 82 = .ok (.invokevirtual 124, 3) := by decide +kernel
theorem dX7_owns_85 : decode cX7_owns 85 = .ok (.ireturn, 1) := by decide +kernel
theorem dX7_leaves_0 : decode cX7_leaves 0 = .ok (.aload_n 0, 1) := by decide +kernel
theorem dX7_leaves_1 : decode cX7_leaves 1 = .ok (.getfield 12, 3) := by decide +kernel
theorem dX7_leaves_4 : decode cX7_leaves 4 = .ok (.iload_n 1, 1) := by decide +kernel
theorem dX7_leaves_5 : decode cX7_leaves 5 = .ok (.invokevirtual 98, 3) := by decide +kernel
theorem dX7_leaves_8 : decode cX7_leaves 8 = .ok (.ifCond .ne 8, 3) := by decide +kernel
theorem dX7_leaves_11 : decode cX7_leaves 11 = .ok (.aload_n 0, 1) := by decide +kernel
theorem dX7_leaves_12 : decode cX7_leaves 12 = .ok (.invokevirtual 63, 3) := by decide +kernel
theorem dX7_leaves_15 : decode cX7_leaves 15 = .ok (.ireturn, 1) := by decide +kernel
theorem dX7_leaves_16 : decode cX7_leaves 16 = .ok (.aload_n 0, 1) := by decide +kernel
theorem dX7_leaves_17 : decode cX7_leaves 17 = .ok (.getfield 12, 3) := by decide +kernel
theorem dX7_leaves_20 : decode cX7_leaves 20 = .ok (.getfield 117, 3) := by decide +kernel
theorem dX7_leaves_23 : decode cX7_leaves 23 = .ok (.getfield 120, 3) := by decide +kernel
theorem dX7_leaves_26 : decode cX7_leaves 26 = .ok (.iload_n 1, 1) := by decide +kernel
theorem dX7_leaves_27 : decode cX7_leaves 27 = .ok (.iaload, 1) := by decide +kernel
theorem dX7_leaves_28 : decode cX7_leaves 28 = .ok (.istore_n 2, 1) := by decide +kernel
theorem dX7_leaves_29 : decode cX7_leaves 29 = .ok (.iload_n 2, 1) := by decide +kernel
theorem dX7_leaves_30 : decode cX7_leaves 30 = .ok (.iconst (-1), 1) := by decide +kernel
theorem dX7_leaves_31 : decode cX7_leaves 31 = .ok (.if_icmp .ne 8, 3) := by decide +kernel
theorem dX7_leaves_34 : decode cX7_leaves 34 = .ok (.aload_n 0, 1) := by decide +kernel
theorem dX7_leaves_35 : decode cX7_leaves 35 = .ok (.invokevirtual 111, 3) := by decide +kernel
theorem dX7_leaves_38 : decode cX7_leaves 38 = .ok (.ireturn, 1) := by decide +kernel
theorem dX7_leaves_39 : decode cX7_leaves 39 = .ok (.aload_n 0, 1) := by decide +kernel
theorem dX7_leaves_40 : decode cX7_leaves 40 = .ok (.getfield 12, 3) := by decide +kernel
theorem dX7_leaves_43 : decode cX7_leaves 43 = .ok (.invokevirtual 114, 3) := by decide +kernel
theorem dX7_leaves_46 : decode cX7_leaves 46 = .ok (.aload_n 0, 1) := by decide +kernel
theorem dX7_leaves_47 : decode cX7_leaves 47 = .ok (.getfield 12, 3) := by decide +kernel
theorem dX7_leaves_50 : decode cX7_leaves 50 = .ok (.getfield 117, 3) := by decide +kernel
theorem dX7_leaves_53 : decode cX7_leaves 53 = .ok (.getfield 120, 3) := by decide +kernel
theorem dX7_leaves_56 : decode cX7_leaves 56 = .ok (.iload_n 1, 1) := by decide +kernel
theorem dX7_leaves_57 : decode cX7_leaves 57 = .ok (.iconst (-1), 1) := by decide +kernel
theorem dX7_leaves_58 : decode cX7_leaves 58 = .ok (.iastore, 1) := by decide +kernel
theorem dX7_leaves_59 : decode cX7_leaves 59 = .ok (.iload_n 2, 1) := by decide +kernel
theorem dX7_leaves_60 : decode cX7_leaves 60 = .ok (.ireturn, 1) := by decide +kernel
theorem dX7_years_0 : decode cX7_years 0 = .ok (.iload_n 1, 1) := by decide +kernel
theorem dX7_years_1 : decode cX7_years 1 = .ok (.iconst 1, 1) := by decide +kernel
theorem dX7_years_2 : decode cX7_years 2 = .ok (.bipush 60, 2) := by decide +kernel
theorem dX7_years_4 : decode cX7_years 4 = .ok (.invokestatic 59, 3) := by decide +kernel
theorem dX7_years_7 : decode cX7_years 7 = .ok (.ifCond .ne 8, 3) := by decide +kernel
theorem dX7_years_10 : decode cX7_years 10 = .ok (.aload_n 0, 1) := by decide +kernel
theorem dX7_years_11 : decode cX7_years 11 = .ok (.invokevirtual 63, 3) := by decide +kernel
theorem dX7_years_14 : decode cX7_years 14 = .ok (.ireturn, 1) := by decide +kernel
theorem dX7_years_15 : decode cX7_years 15 = .ok (.aload_n 0, 1) := by decide +kernel
theorem dX7_years_16 : decode cX7_years 16 = .ok (.getfield 12, 3) := by decide +kernel
theorem dX7_years_19 : decode cX7_years 19 = .ok (.getfield 117, 3) := by decide +kernel
theorem dX7_years_22 : decode cX7_years 22 = .ok (.getfield 127, 3) := by decide +kernel
theorem dX7_years_25 : decode cX7_years 25 = .ok (.sipush 999, 3) := by decide +kernel
theorem dX7_years_28 : decode cX7_years 28 = .ok (.if_icmp .ge 10, 3) := by decide +kernel
theorem dX7_years_31 : decode cX7_years 31 = .ok (.aload_n 0, 1) := by decide +kernel
theorem dX7_years_32 : decode cX7_years 32 = .ok (.getfield 12, 3) := by decide +kernel
theorem dX7_years_35 : decode cX7_years 35 = .ok (.invokevirtual 114, 3) := by decide +kernel
theorem dX7_years_38 : decode cX7_years 38 = .ok (.aload_n 0, 1) := by decide +kernel
theorem dX7_years_39 : decode cX7_years 39 = .ok (.getfield 12, 3) := by decide +kernel
theorem dX7_years_42 : decode cX7_years 42 = .ok (.aload_n 0, 1) := by decide +kernel
theorem dX7_years_43 : decode cX7_years 43 = .ok (.getfield 12, 3) := by decide +kernel
theorem dX7_years_46 : decode cX7_years 46 = .ok (.getfield 117, 3) := by decide +kernel
theorem dX7_years_49 : decode cX7_years 49 = .ok (.iload_n 1, 1) := by decide +kernel
theorem dX7_years_50 : decode cX7_years 50 = .ok (.sipush 999, 3) := by decide +kernel
theorem dX7_years_53 : decode cX7_years 53 = .ok (.invokevirtual 130, 3) := by decide +kernel
theorem dX7_years_56 : decode cX7_years 56 = .ok (.aload_n 0, 1) := by decide +kernel
theorem dX7_years_57 : decode cX7_years 57 = .ok (.getfield 12, 3) := by decide +kernel
theorem dX7_years_60 : decode cX7_years 60 = .ok (.getfield 117, 3) := by decide +kernel
theorem dX7_years_63 : decode cX7_years 63 = .ok (.invokevirtual 134, 3) := by decide +kernel
theorem dX7_years_66 : decode cX7_years 66 = .ok (.ireturn, 1) := by decide +kernel
theorem dX7_undo_0 : decode cX7_undo 0 = .ok (.aload_n 0, 1) := by decide +kernel
theorem dX7_undo_1 : decode cX7_undo 1 = .ok (.getfield 12, 3) := by decide +kernel
theorem dX7_undo_4 : decode cX7_undo 4 = .ok (.getfield 137, 3) := by decide +kernel
theorem dX7_undo_7 : decode cX7_undo 7 = .ok (.ifCond .gt 8, 3) := by decide +kernel
theorem dX7_undo_10 : decode cX7_undo 10 = .ok (.aload_n 0, 1) := by decide +kernel
theorem dX7_undo_11 : decode cX7_undo 11 = .ok (.invokevirtual 111, 3) := by decide +kernel
theorem dX7_undo_14 : decode cX7_undo 14 = .ok (.ireturn, 1) := by decide +kernel
theorem dX7_undo_15 : decode cX7_undo 15 = .ok (.aload_n 0, 1) := by decide +kernel
theorem dX7_undo_16 : decode cX7_undo 16 = .ok (.getfield 12, 3) := by decide +kernel
theorem dX7_undo_19 : decode cX7_undo 19 = .ok (.invokevirtual 140, 3) := by decide +kernel
theorem dX7_undo_22 : decode cX7_undo 22 = .ok (.aload_n 0, 1) := by decide +kernel
theorem dX7_undo_23 : decode cX7_undo 23 = .ok (.getfield 12, 3) := by decide +kernel
theorem dX7_undo_26 : decode cX7_undo 26 = .ok (.getfield 117, 3) := by decide +kernel
theorem dX7_undo_29 : decode cX7_undo 29 = .ok (.getfield 127, 3) := by decide +kernel
theorem dX7_undo_32 : decode cX7_undo 32 = .ok (.ireturn, 1) := by decide +kernel
theorem dX7_of_0 : decode cX7_of 0 = .ok (.aload_n 0, 1) := by decide +kernel
theorem dX7_of_1 : decode cX7_of 1 = .ok (.getfield 12, 3) := by decide +kernel
theorem dX7_of_4 : decode cX7_of 4 = .ok (.iload_n 1, 1) := by decide +kernel
theorem dX7_of_5 : decode cX7_of 5 = .ok (.invokevirtual 98, 3) := by decide +kernel
theorem dX7_of_8 : decode cX7_of 8 = .ok (.ifCond .eq 12, 3) := by decide +kernel
theorem dX7_of_11 : decode cX7_of 11 = .ok (.iload_n 2, 1) := by decide +kernel
theorem dX7_of_12 : decode cX7_of 12 = .ok (.iconst 0, 1) := by decide +kernel
theorem dX7_of_13 : decode cX7_of 13 = .ok (.iconst 4, 1) := by decide +kernel
theorem dX7_of_14 : decode cX7_of 14 = .ok (.invokestatic 59, 3) := by decide +kernel
theorem dX7_of_17 : decode cX7_of 17 = .ok (.ifCond .ne 8, 3) := by decide +kernel
theorem dX7_of_20 : decode cX7_of 20 = .ok (.aload_n 0, 1) := by decide +kernel
theorem dX7_of_21 : decode cX7_of 21 = .ok (.invokevirtual 63, 3) := by decide +kernel
theorem dX7_of_24 : decode cX7_of 24 = .ok (.ireturn, 1) := by decide +kernel
theorem dX7_of_25 : decode cX7_of 25 = .ok (.aload_n 0, 1) := by decide +kernel
theorem dX7_of_26 : decode cX7_of 26 = .ok (.getfield 12, 3) := by decide +kernel
theorem dX7_of_29 : decode cX7_of 29 = .ok (.iload_n 1, 1) := by decide +kernel
theorem dX7_of_30 : decode cX7_of 30 = .ok (.iload_n 2, 1) := by decide +kernel
theorem dX7_of_31 : decode cX7_of 31 = .ok (.invokevirtual 143, 3) := by decide +kernel
theorem dX7_of_34 : decode cX7_of 34 = .ok (.ireturn, 1) := by decide +kernel
theorem dX7_about_0 : decode cX7_about 0 = .ok (.aload_n 0, 1) := by decide +kernel
theorem dX7_about_1 : decode cX7_about 1 = .ok (.getfield 12, 3) := by decide +kernel
theorem dX7_about_4 : decode cX7_about 4 = .ok (.iload_n 1, 1) := by decide +kernel
theorem dX7_about_5 : decode cX7_about 5 = .ok (.invokevirtual 102, 3) := by decide +kernel
theorem dX7_about_8 : decode cX7_about 8 = .ok (.ifCond .eq 12, 3) := by decide +kernel
theorem dX7_about_11 : decode cX7_about 11 = .ok (.iload_n 2, 1) := by decide +kernel
theorem dX7_about_12 : decode cX7_about 12 = .ok (.iconst 0, 1) := by decide +kernel
theorem dX7_about_13 : decode cX7_about 13 = .ok (.iconst 2, 1) := by decide +kernel
theorem dX7_about_14 : decode cX7_about 14 = .ok (.invokestatic 59, 3) := by decide +kernel
theorem dX7_about_17 : decode cX7_about 17 = .ok (.ifCond .ne 8, 3) := by decide +kernel
theorem dX7_about_20 : decode cX7_about 20 = .ok (.aload_n 0, 1) := by decide +kernel
theorem dX7_about_21 : decode cX7_about 21 = .ok (.invokevirtual 63, 3) := by decide +kernel
theorem dX7_about_24 : decode cX7_about 24 = .ok (.ireturn, 1) := by decide +kernel
theorem dX7_about_25 : decode cX7_about 25 = .ok (.iload_n 2, 1) := by decide +kernel
theorem dX7_about_26 : decode cX7_about 26 = .ok (.ifCond .ne 13, 3) := by decide +kernel
theorem dX7_about_29 : decode cX7_about 29 = .ok (.aload_n 0, 1) := by decide +kernel
theorem dX7_about_30 : decode cX7_about 30 = .ok (.getfield 12, 3) := by decide +kernel
theorem dX7_about_33 : decode cX7_about 33 = .ok (.getfield 146, 3) := by decide +kernel
theorem dX7_about_36 : decode cX7_about 36 = .ok (.iload_n 1, 1) := by decide +kernel
theorem dX7_about_37 : decode cX7_about 37 = .ok (.iaload, 1) := by decide +kernel
theorem dX7_about_38 : decode cX7_about 38 = .ok (.ireturn, 1) := by decide +kernel
theorem dX7_about_39 : decode cX7_about 39 = .ok (.iload_n 2, 1) := by decide +kernel
theorem dX7_about_40 : decode cX7_about 40 = .ok (.iconst 1, 1) := by decide +kernel
theorem dX7_about_41 : decode cX7_about 41 = .ok (.if_icmp .ne 15, 3) := by decide +kernel
theorem dX7_about_44 : decode cX7_about 44 = .ok (.aload_n 0, 1) := by decide +kernel
theorem dX7_about_45 : decode cX7_about 45 = .ok (.getfield 12, 3) := by decide +kernel
theorem dX7_about_48 : decode cX7_about 48 = .ok (.getfield 149, 3) := by decide +kernel
theorem dX7_about_51 : decode cX7_about 51 = .ok (.iload_n 1, 1) := by decide +kernel
theorem dX7_about_52 : decode cX7_about 52 = .ok (.iaload, 1) := by decide +kernel
theorem dX7_about_53 : decode cX7_about 53 = .ok (.goto 11, 3) := by decide +kernel
theorem dX7_about_56 : decode cX7_about 56 = .ok (.aload_n 0, 1) := by decide +kernel
theorem dX7_about_57 : decode cX7_about 57 = .ok (.getfield 12, 3) := by decide +kernel
theorem dX7_about_60 : decode cX7_about 60 = .ok (.iload_n 1, 1) := by decide +kernel
theorem dX7_about_61 : decode cX7_about 61 = .ok (.invokevirtual 108, 3) := by decide +kernel
theorem dX7_about_64 : decode cX7_about 64 = .ok (.ireturn, 1) := by decide +kernel
theorem dX7_lifts_0 : decode cX7_lifts 0 = .ok (.aload_n 0, 1) := by decide +kernel
theorem dX7_lifts_1 : decode cX7_lifts 1 = .ok (.getfield 12, 3) := by decide +kernel
theorem dX7_lifts_4 : decode cX7_lifts 4 = .ok (.iload_n 1, 1) := by decide +kernel
theorem dX7_lifts_5 : decode cX7_lifts 5 = .ok (.invokevirtual 98, 3) := by decide +kernel
theorem dX7_lifts_8 : decode cX7_lifts 8 = .ok (.ifCond .eq 13, 3) := by decide +kernel
theorem dX7_lifts_11 : decode cX7_lifts 11 = .ok (.iload_n 2, 1) := by decide +kernel
theorem dX7_lifts_12 : decode cX7_lifts 12 = .ok (.iconst 0, 1) := by decide +kernel
theorem dX7_lifts_13 : decode cX7_lifts 13 = .ok (.bipush 60, 2) := by decide +kernel
theorem dX7_lifts_15 : decode cX7_lifts 15 = .ok (.invokestatic 59, 3) := by decide +kernel
theorem dX7_lifts_18 : decode cX7_lifts 18 = .ok (.ifCond .ne 8, 3) := by decide +kernel
theorem dX7_lifts_21 : decode cX7_lifts 21 = .ok (.aload_n 0, 1) := by decide +kernel
theorem dX7_lifts_22 : decode cX7_lifts 22 = .ok (.invokevirtual 63, 3) := by decide +kernel
theorem dX7_lifts_25 : decode cX7_lifts 25 = .ok (.ireturn, 1) := by decide +kernel
theorem dX7_lifts_26 : decode cX7_lifts 26 = .ok (.aload_n 0, 1) := by decide +kernel
theorem dX7_lifts_27 : decode cX7_lifts 27 = .ok (.getfield 12, 3) := by decide +kernel
theorem dX7_lifts_30 : decode cX7_lifts 30 = .ok (.iload_n 1, 1) := by decide +kernel
theorem dX7_lifts_31 : decode cX7_lifts 31 = .ok (.iload_n 2, 1) := by decide +kernel
theorem dX7_lifts_32 : decode cX7_lifts 32 = .ok (.invokevirtual 152, 3) := by decide +kernel
theorem dX7_lifts_35 : decode cX7_lifts 35 = .ok (.ireturn, 1) := by decide +kernel
theorem dX7_weighs_0 : decode cX7_weighs 0 = .ok (.aload_n 0, 1) := by decide +kernel
theorem dX7_weighs_1 : decode cX7_weighs 1 = .ok (.getfield 12, 3) := by decide +kernel
theorem dX7_weighs_4 : decode cX7_weighs 4 = .ok (.iload_n 1, 1) := by decide +kernel
theorem dX7_weighs_5 : decode cX7_weighs 5 = .ok (.invokevirtual 102, 3) := by decide +kernel
theorem dX7_weighs_8 : decode cX7_weighs 8 = .ok (.ifCond .eq 13, 3) := by decide +kernel
theorem dX7_weighs_11 : decode cX7_weighs 11 = .ok (.iload_n 2, 1) := by decide +kernel
theorem dX7_weighs_12 : decode cX7_weighs 12 = .ok (.iconst 0, 1) := by decide +kernel
theorem dX7_weighs_13 : decode cX7_weighs 13 = .ok (.bipush 60, 2) := by decide +kernel
theorem dX7_weighs_15 : decode cX7_weighs 15 = .ok (.invokestatic 59, 3) := by decide +kernel
theorem dX7_weighs_18 : decode cX7_weighs 18 = .ok (.ifCond .ne 8, 3) := by decide +kernel
theorem dX7_weighs_21 : decode cX7_weighs 21 = .ok (.aload_n 0, 1) := by decide +kernel
theorem dX7_weighs_22 : decode cX7_weighs 22 = .ok (.invokevirtual 63, 3) := by decide +kernel
theorem dX7_weighs_25 : decode cX7_weighs 25 = .ok (.ireturn, 1) := by decide +kernel
theorem dX7_weighs_26 : decode cX7_weighs 26 = .ok (.aload_n 0, 1) := by decide +kernel
theorem dX7_weighs_27 : decode cX7_weighs 27 = .ok (.getfield 12, 3) := by decide +kernel
theorem dX7_weighs_30 : decode cX7_weighs 30 = .ok (.iload_n 1, 1) := by decide +kernel
theorem dX7_weighs_31 : decode cX7_weighs 31 = .ok (.iload_n 2, 1) := by decide +kernel
theorem dX7_weighs_32 : decode cX7_weighs 32 = .ok (.invokevirtual 155, 3) := by decide +kernel
theorem dX7_weighs_35 : decode cX7_weighs 35 = .ok (.ireturn, 1) := by decide +kernel
theorem dX7_held_0 : decode cX7_held 0 = .ok (.iconst 0, 1) := by decide +kernel
theorem dX7_held_1 : decode cX7_held 1 = .ok (.istore_n 1, 1) := by decide +kernel
theorem dX7_held_2 : decode cX7_held 2 = .ok (.iconst 0, 1) := by decide +kernel
theorem dX7_held_3 : decode cX7_held 3 = .ok (.istore_n 2, 1) := by decide +kernel
theorem dX7_held_4 : decode cX7_held 4 = .ok (.iload_n 2, 1) := by decide +kernel
theorem dX7_held_5 : decode cX7_held 5 = .ok (.aload_n 0, 1) := by decide +kernel
theorem dX7_held_6 : decode cX7_held 6 = .ok (.getfield 12, 3) := by decide +kernel
theorem dX7_held_9 : decode cX7_held 9 = .ok (.getfield 52, 3) := by decide +kernel
theorem dX7_held_12 : decode cX7_held 12 = .ok (.if_icmp .ge 47, 3) := by decide +kernel
theorem dX7_held_15 : decode cX7_held 15 = .ok (.aload_n 0, 1) := by decide +kernel
theorem dX7_held_16 : decode cX7_held 16 = .ok (.getfield 12, 3) := by decide +kernel
theorem dX7_held_19 : decode cX7_held 19 = .ok (.getfield 117, 3) := by decide +kernel
theorem dX7_held_22 : decode cX7_held 22 = .ok (.iload_n 2, 1) := by decide +kernel
theorem dX7_held_23 : decode cX7_held 23 = .ok (.invokevirtual 158, 3) := by decide +kernel
theorem dX7_held_26 : decode cX7_held 26 = .ok (.ifCond .eq 27, 3) := by decide +kernel
theorem dX7_held_29 : decode cX7_held 29 = .ok (.aload_n 0, 1) := by decide +kernel
theorem dX7_held_30 : decode cX7_held 30 = .ok (.getfield 12, 3) := by decide +kernel
theorem dX7_held_33 : decode cX7_held 33 = .ok (.aload_n 0, 1) := by decide +kernel
theorem dX7_held_34 : decode cX7_held 34 = .ok (.getfield 12, 3) := by decide +kernel
theorem dX7_held_37 : decode cX7_held 37 = .ok (.getfield 117, 3) := by decide +kernel
theorem dX7_held_40 : decode cX7_held 40 = .ok (.iload_n 2, 1) := by decide +kernel
theorem dX7_held_41 : decode cX7_held 41 = .ok (.invokevirtual 161, 3) := by decide +kernel
theorem dX7_held_44 : decode cX7_held 44 = .ok (.ifCond .eq 9, 3) := by decide +kernel
theorem dX7_held_47 : decode cX7_held 47 = .ok (.iload_n 1, 1) := by decide +kernel
theorem dX7_held_48 : decode cX7_held 48 = .ok (.iconst 1, 1) := by decide +kernel
theorem dX7_held_49 : decode cX7_held 49 = .ok (.iload_n 2, 1) := by decide +kernel
theorem dX7_held_50 : decode cX7_held 50 = .ok (.ishl, 1) := by decide +kernel
end
section
theorem dX7_held_51 : decode cX7_held 51 = .ok (.ior, 1) := by decide +kernel
theorem dX7_held_52 : decode cX7_held 52 = .ok (.istore_n 1, 1) := by decide +kernel
theorem dX7_held_53 : decode cX7_held 53 = .ok (.iinc 2 1, 3) := by decide +kernel
theorem dX7_held_56 : decode cX7_held 56 = .ok (.goto (-52), 3) := by decide +kernel
theorem dX7_held_59 : decode cX7_held 59 = .ok (.iload_n 1, 1) := by decide +kernel
theorem dX7_held_60 : decode cX7_held 60 = .ok (.ireturn, 1) := by decide +kernel
theorem dX7_left_0 : decode cX7_left 0 = .ok (.iload_n 1, 1) := by decide +kernel
theorem dX7_left_1 : decode cX7_left 1 = .ok (.iconst 0, 1) := by decide +kernel
theorem dX7_left_2 : decode cX7_left 2 = .ok (.bipush 60, 2) := by decide +kernel
theorem dX7_left_4 : decode cX7_left 4 = .ok (.invokestatic 59, 3) := by decide +kernel
theorem dX7_left_7 : decode cX7_left 7 = .ok (.ifCond .ne 8, 3) := by decide +kernel
theorem dX7_left_10 : decode cX7_left 10 = .ok (.aload_n 0, 1) := by decide +kernel
theorem dX7_left_11 : decode cX7_left 11 = .ok (.invokevirtual 63, 3) := by decide +kernel
theorem dX7_left_14 : decode cX7_left 14 = .ok (.ireturn, 1) := by decide +kernel
theorem dX7_left_15 : decode cX7_left 15 = .ok (.aload_n 0, 1) := by decide +kernel
theorem dX7_left_16 : decode cX7_left 16 = .ok (.getfield 44, 3) := by decide +kernel
theorem dX7_left_19 : decode cX7_left 19 = .ok (.aload_n 0, 1) := by decide +kernel
theorem dX7_left_20 : decode cX7_left 20 = .ok (.getfield 12, 3) := by decide +kernel
theorem dX7_left_23 : decode cX7_left 23 = .ok (.getfield 117, 3) := by decide +kernel
theorem dX7_left_26 : decode cX7_left 26 = .ok (.invokevirtual 165, 3) := by decide +kernel
theorem dX7_left_29 : decode cX7_left 29 = .ok (.aload_n 0, 1) := by decide +kernel
theorem dX7_left_30 : decode cX7_left 30 = .ok (.getfield 12, 3) := by decide +kernel
theorem dX7_left_33 : decode cX7_left 33 = .ok (.aload_n 0, 1) := by decide +kernel
theorem dX7_left_34 : decode cX7_left 34 = .ok (.getfield 44, 3) := by decide +kernel
theorem dX7_left_37 : decode cX7_left 37 = .ok (.iload_n 1, 1) := by decide +kernel
theorem dX7_left_38 : decode cX7_left 38 = .ok (.sipush 1059, 3) := by decide +kernel
theorem dX7_left_41 : decode cX7_left 41 = .ok (.invokevirtual 130, 3) := by decide +kernel
theorem dX7_left_44 : decode cX7_left 44 = .ok (.aload_n 0, 1) := by decide +kernel
theorem dX7_left_45 : decode cX7_left 45 = .ok (.getfield 44, 3) := by decide +kernel
theorem dX7_left_48 : decode cX7_left 48 = .ok (.getfield 168, 3) := by decide +kernel
theorem dX7_left_51 : decode cX7_left 51 = .ok (.ireturn, 1) := by decide +kernel
theorem dX7_when_0 : decode cX7_when 0 = .ok (.aload_n 0, 1) := by decide +kernel
theorem dX7_when_1 : decode cX7_when 1 = .ok (.getfield 12, 3) := by decide +kernel
theorem dX7_when_4 : decode cX7_when 4 = .ok (.iload_n 1, 1) := by decide +kernel
theorem dX7_when_5 : decode cX7_when 5 = .ok (.invokevirtual 98, 3) := by decide +kernel
theorem dX7_when_8 : decode cX7_when 8 = .ok (.ifCond .ne 8, 3) := by decide +kernel
theorem dX7_when_11 : decode cX7_when 11 = .ok (.aload_n 0, 1) := by decide +kernel
theorem dX7_when_12 : decode cX7_when 12 = .ok (.invokevirtual 63, 3) := by decide +kernel
theorem dX7_when_15 : decode cX7_when 15 = .ok (.ireturn, 1) := by decide +kernel
theorem dX7_when_16 : decode cX7_when 16 = .ok (.aload_n 0, 1) := by decide +kernel
theorem dX7_when_17 : decode cX7_when 17 = .ok (.getfield 12, 3) := by decide +kernel
theorem dX7_when_20 : decode cX7_when 20 = .ok (.getfield 117, 3) := by decide +kernel
theorem dX7_when_23 : decode cX7_when 23 = .ok (.iload_n 1, 1) := by decide +kernel
theorem dX7_when_24 : decode cX7_when 24 = .ok (.invokevirtual 158, 3) := by decide +kernel
theorem dX7_when_27 : decode cX7_when 27 = .ok (.ifCond .ne 5, 3) := by decide +kernel
theorem dX7_when_30 : decode cX7_when 30 = .ok (.iconst (-1), 1) := by decide +kernel
theorem dX7_when_31 : decode cX7_when 31 = .ok (.ireturn, 1) := by decide +kernel
theorem dX7_when_32 : decode cX7_when 32 = .ok (.aload_n 0, 1) := by decide +kernel
theorem dX7_when_33 : decode cX7_when 33 = .ok (.getfield 12, 3) := by decide +kernel
theorem dX7_when_36 : decode cX7_when 36 = .ok (.getfield 117, 3) := by decide +kernel
theorem dX7_when_39 : decode cX7_when 39 = .ok (.getfield 120, 3) := by decide +kernel
theorem dX7_when_42 : decode cX7_when 42 = .ok (.iload_n 1, 1) := by decide +kernel
theorem dX7_when_43 : decode cX7_when 43 = .ok (.iaload, 1) := by decide +kernel
theorem dX7_when_44 : decode cX7_when 44 = .ok (.istore_n 2, 1) := by decide +kernel
theorem dX7_when_45 : decode cX7_when 45 = .ok (.aload_n 0, 1) := by decide +kernel
theorem dX7_when_46 : decode cX7_when 46 = .ok (.getfield 12, 3) := by decide +kernel
theorem dX7_when_49 : decode cX7_when 49 = .ok (.iload_n 2, 1) := by decide +kernel
theorem dX7_when_50 : decode cX7_when 50 = .ok (.invokevirtual 102, 3) := by decide +kernel
theorem dX7_when_53 : decode cX7_when 53 = .ok (.ifCond .eq 17, 3) := by decide +kernel
theorem dX7_when_56 : decode cX7_when 56 = .ok (.aload_n 0, 1) := by decide +kernel
theorem dX7_when_57 : decode cX7_when 57 = .ok (.getfield 12, 3) := by decide +kernel
theorem dX7_when_60 : decode cX7_when 60 = .ok (.iload_n 2, 1) := by decide +kernel
theorem dX7_when_61 : decode cX7_when 61 = .ok (.iload_n 1, 1) := by decide +kernel
theorem dX7_when_62 : decode cX7_when 62 = .ok (.bipush 60, 2) := by decide +kernel
theorem dX7_when_64 : decode cX7_when 64 = .ok (.invokevirtual 124, 3) := by decide +kernel
theorem dX7_when_67 : decode cX7_when 67 = .ok (.goto 4, 3) := by decide +kernel
theorem dX7_when_70 : decode cX7_when 70 = .ok (.iconst 0, 1) := by decide +kernel
theorem dX7_when_71 : decode cX7_when 71 = .ok (.istore_n 3, 1) := by decide +kernel
theorem dX7_when_72 : decode cX7_when 72 = .ok (.iload_n 3, 1) := by decide +kernel
theorem dX7_when_73 : decode cX7_when 73 = .ok (.bipush 60, 2) := by decide +kernel
theorem dX7_when_75 : decode cX7_when 75 = .ok (.if_icmp .ge 9, 3) := by decide +kernel
theorem dX7_when_78 : decode cX7_when 78 = .ok (.iload_n 3, 1) := by decide +kernel
theorem dX7_when_79 : decode cX7_when 79 = .ok (.iconst 1, 1) := by decide +kernel
theorem dX7_when_80 : decode cX7_when 80 = .ok (.iadd, 1) := by decide +kernel
theorem dX7_when_81 : decode cX7_when 81 = .ok (.goto 4, 3) := by decide +kernel
theorem dX7_when_84 : decode cX7_when 84 = .ok (.iconst (-1), 1) := by decide +kernel
theorem dX7_when_85 : decode cX7_when 85 = .ok (.ireturn, 1) := by decide +kernel
theorem dX7_lasts_0 : decode cX7_lasts 0 = .ok (.aload_n 0, 1) := by decide +kernel
theorem dX7_lasts_1 : decode cX7_lasts 1 = .ok (.getfield 12, 3) := by decide +kernel
theorem dX7_lasts_4 : decode cX7_lasts 4 = .ok (.iload_n 1, 1) := by decide +kernel
theorem dX7_lasts_5 : decode cX7_lasts 5 = .ok (.invokevirtual 98, 3) := by decide +kernel
theorem dX7_lasts_8 : decode cX7_lasts 8 = .ok (.ifCond .eq 14, 3) := by decide +kernel
theorem dX7_lasts_11 : decode cX7_lasts 11 = .ok (.aload_n 0, 1) := by decide +kernel
theorem dX7_lasts_12 : decode cX7_lasts 12 = .ok (.getfield 12, 3) := by decide +kernel
theorem dX7_lasts_15 : decode cX7_lasts 15 = .ok (.iload_n 2, 1) := by decide +kernel
theorem dX7_lasts_16 : decode cX7_lasts 16 = .ok (.invokevirtual 102, 3) := by decide +kernel
theorem dX7_lasts_19 : decode cX7_lasts 19 = .ok (.ifCond .ne 8, 3) := by decide +kernel
theorem dX7_lasts_22 : decode cX7_lasts 22 = .ok (.aload_n 0, 1) := by decide +kernel
theorem dX7_lasts_23 : decode cX7_lasts 23 = .ok (.invokevirtual 63, 3) := by decide +kernel
theorem dX7_lasts_26 : decode cX7_lasts 26 = .ok (.ireturn, 1) := by decide +kernel
theorem dX7_lasts_27 : decode cX7_lasts 27 = .ok (.aload_n 0, 1) := by decide +kernel
theorem dX7_lasts_28 : decode cX7_lasts 28 = .ok (.getfield 12, 3) := by decide +kernel
theorem dX7_lasts_31 : decode cX7_lasts 31 = .ok (.getfield 117, 3) := by decide +kernel
theorem dX7_lasts_34 : decode cX7_lasts 34 = .ok (.iload_n 1, 1) := by decide +kernel
theorem dX7_lasts_35 : decode cX7_lasts 35 = .ok (.invokevirtual 158, 3) := by decide +kernel
theorem dX7_lasts_38 : decode cX7_lasts 38 = .ok (.ifCond .ne 8, 3) := by decide +kernel
theorem dX7_lasts_41 : decode cX7_lasts 41 = .ok (.aload_n 0, 1) := by decide +kernel
theorem dX7_lasts_42 : decode cX7_lasts 42 = .ok (.invokevirtual 111, 3) := by decide +kernel
theorem dX7_lasts_45 : decode cX7_lasts 45 = .ok (.ireturn, 1) := by decide +kernel
theorem dX7_lasts_46 : decode cX7_lasts 46 = .ok (.aload_n 0, 1) := by decide +kernel
theorem dX7_lasts_47 : decode cX7_lasts 47 = .ok (.getfield 12, 3) := by decide +kernel
theorem dX7_lasts_50 : decode cX7_lasts 50 = .ok (.iload_n 2, 1) := by decide +kernel
theorem dX7_lasts_51 : decode cX7_lasts 51 = .ok (.iload_n 1, 1) := by decide +kernel
theorem dX7_lasts_52 : decode cX7_lasts 52 = .ok (.bipush 60, 2) := by decide +kernel
theorem dX7_lasts_54 : decode cX7_lasts 54 = .ok (.invokevirtual 124, 3) := by decide +kernel
theorem dX7_lasts_57 : decode cX7_lasts 57 = .ok (.ireturn, 1) := by decide +kernel
theorem dX7_match_0 : decode cX7_match 0 = .ok (.iload_n 1, 1) := by decide +kernel
theorem dX7_match_1 : decode cX7_match 1 = .ok (.iconst 1, 1) := by decide +kernel
theorem dX7_match_2 : decode cX7_match 2 = .ok (.bipush 60, 2) := by decide +kernel
theorem dX7_match_4 : decode cX7_match 4 = .ok (.invokestatic 59, 3) := by decide +kernel
theorem dX7_match_7 : decode cX7_match 7 = .ok (.ifCond .eq 19, 3) := by decide +kernel
theorem dX7_match_10 : decode cX7_match 10 = .ok (.iload_n 2, 1) := by decide +kernel
theorem dX7_match_11 : decode cX7_match 11 = .ok (.iconst (-1), 1) := by decide +kernel
theorem dX7_match_12 : decode cX7_match 12 = .ok (.if_icmp .eq 22, 3) := by decide +kernel
theorem dX7_match_15 : decode cX7_match 15 = .ok (.aload_n 0, 1) := by decide +kernel
theorem dX7_match_16 : decode cX7_match 16 = .ok (.getfield 12, 3) := by decide +kernel
theorem dX7_match_19 : decode cX7_match 19 = .ok (.iload_n 2, 1) := by decide +kernel
theorem dX7_match_20 : decode cX7_match 20 = .ok (.invokevirtual 98, 3) := by decide +kernel
theorem dX7_match_23 : decode cX7_match 23 = .ok (.ifCond .ne 11, 3) := by decide +kernel
theorem dX7_match_26 : decode cX7_match 26 = .ok (.aload_n 0, 1) := by decide +kernel
theorem dX7_match_27 : decode cX7_match 27 = .ok (.invokevirtual 63, 3) := by decide +kernel
theorem dX7_match_30 : decode cX7_match 30 = .ok (.pop, 1) := by decide +kernel
theorem dX7_match_31 : decode cX7_match 31 = .ok (.bipush (-10), 2) := by decide +kernel
theorem dX7_match_33 : decode cX7_match 33 = .ok (.ireturn, 1) := by decide +kernel
theorem dX7_match_34 : decode cX7_match 34 = .ok (.aload_n 0, 1) := by decide +kernel
theorem dX7_match_35 : decode cX7_match 35 = .ok (.getfield 30, 3) := by decide +kernel
theorem dX7_match_38 : decode cX7_match 38 = .ok (.aload_n 0, 1) := by decide +kernel
theorem dX7_match_39 : decode cX7_match 39 = .ok (.getfield 12, 3) := by decide +kernel
theorem dX7_match_42 : decode cX7_match 42 = .ok (.iload_n 1, 1) := by decide +kernel
theorem dX7_match_43 : decode cX7_match 43 = .ok (.invokevirtual 171, 3) := by decide +kernel
theorem dX7_match_46 : decode cX7_match 46 = .ok (.iconst 1, 1) := by decide +kernel
theorem dX7_match_47 : decode cX7_match 47 = .ok (.aload_n 0, 1) := by decide +kernel
theorem dX7_match_48 : decode cX7_match 48 = .ok (.getfield 12, 3) := by decide +kernel
theorem dX7_match_51 : decode cX7_match 51 = .ok (.getfield 67, 3) := by decide +kernel
theorem dX7_match_54 : decode cX7_match 54 = .ok (.ishl, 1) := by decide +kernel
theorem dX7_match_55 : decode cX7_match 55 = .ok (.iconst 1, 1) := by decide +kernel
theorem dX7_match_56 : decode cX7_match 56 = .ok (.isub, 1) := by decide +kernel
theorem dX7_match_57 : decode cX7_match 57 = .ok (.istore_n 3, 1) := by decide +kernel
theorem dX7_match_58 : decode cX7_match 58 = .ok (.iload_n 2, 1) := by decide +kernel
theorem dX7_match_59 : decode cX7_match 59 = .ok (.iconst (-1), 1) := by decide +kernel
theorem dX7_match_60 : decode cX7_match 60 = .ok (.if_icmp .ne 15, 3) := by decide +kernel
theorem dX7_match_63 : decode cX7_match 63 = .ok (.aload_n 0, 1) := by decide +kernel
theorem dX7_match_64 : decode cX7_match 64 = .ok (.getfield 30, 3) := by decide +kernel
theorem dX7_match_67 : decode cX7_match 67 = .ok (.iconst 0, 1) := by decide +kernel
theorem dX7_match_68 : decode cX7_match 68 = .ok (.iload_n 3, 1) := by decide +kernel
theorem dX7_match_69 : decode cX7_match 69 = .ok (.invokevirtual 175, 3) := by decide +kernel
theorem dX7_match_72 : decode cX7_match 72 = .ok (.goto 12, 3) := by decide +kernel
theorem dX7_match_75 : decode cX7_match 75 = .ok (.aload_n 0, 1) := by decide +kernel
theorem dX7_match_76 : decode cX7_match 76 = .ok (.getfield 30, 3) := by decide +kernel
theorem dX7_match_79 : decode cX7_match 79 = .ok (.iload_n 2, 1) := by decide +kernel
theorem dX7_match_80 : decode cX7_match 80 = .ok (.iload_n 3, 1) := by decide +kernel
theorem dX7_match_81 : decode cX7_match 81 = .ok (.invokevirtual 178, 3) := by decide +kernel
theorem dX7_match_84 : decode cX7_match 84 = .ok (.ireturn, 1) := by decide +kernel
theorem dX7_light_0 : decode cX7_light 0 = .ok (.iload_n 1, 1) := by decide +kernel
theorem dX7_light_1 : decode cX7_light 1 = .ok (.iconst 1, 1) := by decide +kernel
theorem dX7_light_2 : decode cX7_light 2 = .ok (.bipush 60, 2) := by decide +kernel
theorem dX7_light_4 : decode cX7_light 4 = .ok (.invokestatic 59, 3) := by decide +kernel
theorem dX7_light_7 : decode cX7_light 7 = .ok (.ifCond .ne 8, 3) := by decide +kernel
theorem dX7_light_10 : decode cX7_light 10 = .ok (.aload_n 0, 1) := by decide +kernel
theorem dX7_light_11 : decode cX7_light 11 = .ok (.invokevirtual 63, 3) := by decide +kernel
theorem dX7_light_14 : decode cX7_light 14 = .ok (.ireturn, 1) := by decide +kernel
theorem dX7_light_15 : decode cX7_light 15 = .ok (.aload_n 0, 1) := by decide +kernel
theorem dX7_light_16 : decode cX7_light 16 = .ok (.getfield 30, 3) := by decide +kernel
theorem dX7_light_19 : decode cX7_light 19 = .ok (.aload_n 0, 1) := by decide +kernel
theorem dX7_light_20 : decode cX7_light 20 = .ok (.getfield 12, 3) := by decide +kernel
theorem dX7_light_23 : decode cX7_light 23 = .ok (.iload_n 1, 1) := by decide +kernel
theorem dX7_light_24 : decode cX7_light 24 = .ok (.invokevirtual 171, 3) := by decide +kernel
theorem dX7_light_27 : decode cX7_light 27 = .ok (.aload_n 0, 1) := by decide +kernel
theorem dX7_light_28 : decode cX7_light 28 = .ok (.getfield 12, 3) := by decide +kernel
theorem dX7_light_31 : decode cX7_light 31 = .ok (.getfield 117, 3) := by decide +kernel
theorem dX7_light_34 : decode cX7_light 34 = .ok (.invokevirtual 134, 3) := by decide +kernel
theorem dX7_light_37 : decode cX7_light 37 = .ok (.istore_n 2, 1) := by decide +kernel
theorem dX7_light_38 : decode cX7_light 38 = .ok (.iconst (-1), 1) := by decide +kernel
theorem dX7_light_39 : decode cX7_light 39 = .ok (.istore_n 3, 1) := by decide +kernel
theorem dX7_light_40 : decode cX7_light 40 = .ok (.iconst 0, 1) := by decide +kernel
theorem dX7_light_41 : decode cX7_light 41 = .ok (.istore 4, 2) := by decide +kernel
theorem dX7_light_43 : decode cX7_light 43 = .ok (.iload 4, 2) := by decide +kernel
theorem dX7_light_45 : decode cX7_light 45 = .ok (.iconst 1, 1) := by decide +kernel
theorem dX7_light_46 : decode cX7_light 46 = .ok (.aload_n 0, 1) := by decide +kernel
theorem dX7_light_47 : decode cX7_light 47 = .ok (.getfield 12, 3) := by decide +kernel
theorem dX7_light_50 : decode cX7_light 50 = .ok (.getfield 67, 3) := by decide +kernel
theorem dX7_light_53 : decode cX7_light 53 = .ok (.ishl, 1) := by decide +kernel
theorem dX7_light_54 : decode cX7_light 54 = .ok (.if_icmp .ge 51, 3) := by decide +kernel
theorem dX7_light_57 : decode cX7_light 57 = .ok (.aload_n 0, 1) := by decide +kernel
theorem dX7_light_58 : decode cX7_light 58 = .ok (.getfield 30, 3) := by decide +kernel
theorem dX7_light_61 : decode cX7_light 61 = .ok (.iconst 0, 1) := by decide +kernel
theorem dX7_light_62 : decode cX7_light 62 = .ok (.iload 4, 2) := by decide +kernel
theorem dX7_light_64 : decode cX7_light 64 = .ok (.invokevirtual 175, 3) := by decide +kernel
theorem dX7_light_67 : decode cX7_light 67 = .ok (.iload_n 2, 1) := by decide +kernel
theorem dX7_light_68 : decode cX7_light 68 = .ok (.if_icmp .ne 31, 3) := by decide +kernel
theorem dX7_light_71 : decode cX7_light 71 = .ok (.aload_n 0, 1) := by decide +kernel
theorem dX7_light_72 : decode cX7_light 72 = .ok (.getfield 12, 3) := by decide +kernel
theorem dX7_light_75 : decode cX7_light 75 = .ok (.iload 4, 2) := by decide +kernel
theorem dX7_light_77 : decode cX7_light 77 = .ok (.invokevirtual 181, 3) := by decide +kernel
theorem dX7_light_80 : decode cX7_light 80 = .ok (.istore 5, 2) := by decide +kernel
theorem dX7_light_82 : decode cX7_light 82 = .ok (.iload_n 3, 1) := by decide +kernel
theorem dX7_light_83 : decode cX7_light 83 = .ok (.iconst (-1), 1) := by decide +kernel
theorem dX7_light_84 : decode cX7_light 84 = .ok (.if_icmp .ne 8, 3) := by decide +kernel
theorem dX7_light_87 : decode cX7_light 87 = .ok (.iload 5, 2) := by decide +kernel
theorem dX7_light_89 : decode cX7_light 89 = .ok (.goto 9, 3) := by decide +kernel
theorem dX7_light_92 : decode cX7_light 92 = .ok (.iload_n 3, 1) := by decide +kernel
theorem dX7_light_93 : decode cX7_light 93 = .ok (.iload 5, 2) := by decide +kernel
theorem dX7_light_95 : decode cX7_light 95 = .ok (.invokestatic 184, 3) := by decide +kernel
theorem dX7_light_98 : decode cX7_light 98 = .ok (.istore_n 3, 1) := by decide +kernel
theorem dX7_light_99 : decode cX7_light 99 = .ok (.iinc 4 1, 3) := by decide +kernel
theorem dX7_light_102 : decode cX7_light 102 = .ok (.goto (-59), 3) := by decide +kernel
theorem dX7_light_105 : decode cX7_light 105 = .ok (.iload_n 3, 1) := by decide +kernel
theorem dX7_light_106 : decode cX7_light 106 = .ok (.ireturn, 1) := by decide +kernel
theorem dX7_two_0 : decode cX7_two 0 = .ok (.aload_n 0, 1) := by decide +kernel
theorem dX7_two_1 : decode cX7_two 1 = .ok (.getfield 12, 3) := by decide +kernel
theorem dX7_two_4 : decode cX7_two 4 = .ok (.iload_n 1, 1) := by decide +kernel
theorem dX7_two_5 : decode cX7_two 5 = .ok (.invokevirtual 102, 3) := by decide +kernel
theorem dX7_two_8 : decode cX7_two 8 = .ok (.ifCond .eq 8, 3) := by decide +kernel
theorem dX7_two_11 : decode cX7_two 11 = .ok (.iload_n 2, 1) := by decide +kernel
theorem dX7_two_12 : decode cX7_two 12 = .ok (.iconst (-1), 1) := by decide +kernel
theorem dX7_two_13 : decode cX7_two 13 = .ok (.if_icmp .ge 11, 3) := by decide +kernel
theorem dX7_two_16 : decode cX7_two 16 = .ok (.aload_n 0, 1) := by decide +kernel
theorem dX7_two_17 : decode cX7_two 17 = .ok (.invokevirtual 63, 3) := by decide +kernel
theorem dX7_two_20 : decode cX7_two 20 = .ok (.pop, 1) := by decide +kernel
theorem dX7_two_21 : decode cX7_two 21 = .ok (.bipush (-10), 2) := by decide +kernel
theorem dX7_two_23 : decode cX7_two 23 = .ok (.ireturn, 1) := by decide +kernel
theorem dX7_two_24 : decode cX7_two 24 = .ok (.iconst 0, 1) := by decide +kernel
theorem dX7_two_25 : decode cX7_two 25 = .ok (.istore_n 3, 1) := by decide +kernel
theorem dX7_two_26 : decode cX7_two 26 = .ok (.iconst 0, 1) := by decide +kernel
theorem dX7_two_27 : decode cX7_two 27 = .ok (.istore 4, 2) := by decide +kernel
theorem dX7_two_29 : decode cX7_two 29 = .ok (.iload 4, 2) := by decide +kernel
theorem dX7_two_31 : decode cX7_two 31 = .ok (.aload_n 0, 1) := by decide +kernel
theorem dX7_two_32 : decode cX7_two 32 = .ok (.getfield 12, 3) := by decide +kernel
theorem dX7_two_35 : decode cX7_two 35 = .ok (.getfield 52, 3) := by decide +kernel
theorem dX7_two_38 : decode cX7_two 38 = .ok (.if_icmp .ge 65, 3) := by decide +kernel
theorem dX7_two_41 : decode cX7_two 41 = .ok (.iload 4, 2) := by decide +kernel
theorem dX7_two_43 : decode cX7_two 43 = .ok (.iconst 1, 1) := by decide +kernel
theorem dX7_two_44 : decode cX7_two 44 = .ok (.iadd, 1) := by decide +kernel
theorem dX7_two_45 : decode cX7_two 45 = .ok (.istore 5, 2) := by decide +kernel
theorem dX7_two_47 : decode cX7_two 47 = .ok (.iload 5, 2) := by decide +kernel
theorem dX7_two_49 : decode cX7_two 49 = .ok (.aload_n 0, 1) := by decide +kernel
theorem dX7_two_50 : decode cX7_two 50 = .ok (.getfield 12, 3) := by decide +kernel
theorem dX7_two_53 : decode cX7_two 53 = .ok (.getfield 52, 3) := by decide +kernel
theorem dX7_two_56 : decode cX7_two 56 = .ok (.if_icmp .ge 41, 3) := by decide +kernel
theorem dX7_two_59 : decode cX7_two 59 = .ok (.aload_n 0, 1) := by decide +kernel
theorem dX7_two_60 : decode cX7_two 60 = .ok (.getfield 12, 3) := by decide +kernel
theorem dX7_two_63 : decode cX7_two 63 = .ok (.iload_n 1, 1) := by decide +kernel
theorem dX7_two_64 : decode cX7_two 64 = .ok (.iload 4, 2) := by decide +kernel
theorem dX7_two_66 : decode cX7_two 66 = .ok (.iload 5, 2) := by decide +kernel
theorem dX7_two_68 : decode cX7_two 68 = .ok (.invokevirtual 189, 3) := by decide +kernel
theorem dX7_two_71 : decode cX7_two 71 = .ok (.ifCond .eq 20, 3) := by decide +kernel
theorem dX7_two_74 : decode cX7_two 74 = .ok (.iload_n 3, 1) := by decide +kernel
theorem dX7_two_75 : decode cX7_two 75 = .ok (.iload_n 2, 1) := by decide +kernel
theorem dX7_two_76 : decode cX7_two 76 = .ok (.if_icmp .ne 12, 3) := by decide +kernel
theorem dX7_two_79 : decode cX7_two 79 = .ok (.bipush 10, 2) := by decide +kernel
theorem dX7_two_81 : decode cX7_two 81 = .ok (.iload 4, 2) := by decide +kernel
theorem dX7_two_83 : decode cX7_two 83 = .ok (.imul, 1) := by decide +kernel
theorem dX7_two_84 : decode cX7_two 84 = .ok (.iload 5, 2) := by decide +kernel
theorem dX7_two_86 : decode cX7_two 86 = .ok (.iadd, 1) := by decide +kernel
theorem dX7_two_87 : decode cX7_two 87 = .ok (.ireturn, 1) := by decide +kernel
theorem dX7_two_88 : decode cX7_two 88 = .ok (.iinc 3 1, 3) := by decide +kernel
theorem dX7_two_91 : decode cX7_two 91 = .ok (.iinc 5 1, 3) := by decide +kernel
theorem dX7_two_94 : decode cX7_two 94 = .ok (.goto (-47), 3) := by decide +kernel
theorem dX7_two_97 : decode cX7_two 97 = .ok (.iinc 4 1, 3) := by decide +kernel
theorem dX7_two_100 : decode cX7_two 100 = .ok (.goto (-71), 3) := by decide +kernel
theorem dX7_two_103 : decode cX7_two 103 = .ok (.iload_n 2, 1) := by decide +kernel
theorem dX7_two_104 : decode cX7_two 104 = .ok (.iconst (-1), 1) := by decide +kernel
theorem dX7_two_105 : decode cX7_two 105 = .ok (.if_icmp .ne 7, 3) := by decide +kernel
theorem dX7_two_108 : decode cX7_two 108 = .ok (.iload_n 3, 1) := by decide +kernel
theorem dX7_two_109 : decode cX7_two 109 = .ok (.goto 5, 3) := by decide +kernel
theorem dX7_two_112 : decode cX7_two 112 = .ok (.bipush (-5), 2) := by decide +kernel
theorem dX7_two_114 : decode cX7_two 114 = .ok (.ireturn, 1) := by decide +kernel
theorem dX7_seen_0 : decode cX7_seen 0 = .ok (.aload_n 0, 1) := by decide +kernel
theorem dX7_seen_1 : decode cX7_seen 1 = .ok (.getfield 12, 3) := by decide +kernel
theorem dX7_seen_4 : decode cX7_seen 4 = .ok (.iload_n 1, 1) := by decide +kernel
theorem dX7_seen_5 : decode cX7_seen 5 = .ok (.invokevirtual 98, 3) := by decide +kernel
theorem dX7_seen_8 : decode cX7_seen 8 = .ok (.ifCond .eq 33, 3) := by decide +kernel
theorem dX7_seen_11 : decode cX7_seen 11 = .ok (.iload_n 2, 1) := by decide +kernel
theorem dX7_seen_12 : decode cX7_seen 12 = .ok (.iconst 0, 1) := by decide +kernel
theorem dX7_seen_13 : decode cX7_seen 13 = .ok (.bipush 99, 2) := by decide +kernel
theorem dX7_seen_15 : decode cX7_seen 15 = .ok (.invokestatic 59, 3) := by decide +kernel
theorem dX7_seen_18 : decode cX7_seen 18 = .ok (.ifCond .eq 23, 3) := by decide +kernel
theorem dX7_seen_21 : decode cX7_seen 21 = .ok (.iload_n 3, 1) := by decide +kernel
theorem dX7_seen_22 : decode cX7_seen 22 = .ok (.iconst 0, 1) := by decide +kernel
theorem dX7_seen_23 : decode cX7_seen 23 = .ok (.bipush 60, 2) := by decide +kernel
theorem dX7_seen_25 : decode cX7_seen 25 = .ok (.invokestatic 59, 3) := by decide +kernel
theorem dX7_seen_28 : decode cX7_seen 28 = .ok (.ifCond .eq 13, 3) := by decide +kernel
theorem dX7_seen_31 : decode cX7_seen 31 = .ok (.iload 4, 2) := by decide +kernel
theorem dX7_seen_33 : decode cX7_seen 33 = .ok (.iconst 0, 1) := by decide +kernel
theorem dX7_seen_34 : decode cX7_seen 34 = .ok (.iconst 1, 1) := by decide +kernel
theorem dX7_seen_35 : decode cX7_seen 35 = .ok (.invokestatic 59, 3) := by decide +kernel
theorem dX7_seen_38 : decode cX7_seen 38 = .ok (.ifCond .ne 8, 3) := by decide +kernel
theorem dX7_seen_41 : decode cX7_seen 41 = .ok (.aload_n 0, 1) := by decide +kernel
theorem dX7_seen_42 : decode cX7_seen 42 = .ok (.invokevirtual 63, 3) := by decide +kernel
theorem dX7_seen_45 : decode cX7_seen 45 = .ok (.ireturn, 1) := by decide +kernel
theorem dX7_seen_46 : decode cX7_seen 46 = .ok (.aload_n 0, 1) := by decide +kernel
theorem dX7_seen_47 : decode cX7_seen 47 = .ok (.getfield 12, 3) := by decide +kernel
theorem dX7_seen_50 : decode cX7_seen 50 = .ok (.getfield 192, 3) := by decide +kernel
theorem dX7_seen_53 : decode cX7_seen 53 = .ok (.invokevirtual 196, 3) := by decide +kernel
theorem dX7_seen_56 : decode cX7_seen 56 = .ok (.ifCond .eq 8, 3) := by decide +kernel
theorem dX7_seen_59 : decode cX7_seen 59 = .ok (.aload_n 0, 1) := by decide +kernel
theorem dX7_seen_60 : decode cX7_seen 60 = .ok (.invokevirtual 70, 3) := by decide +kernel
theorem dX7_seen_63 : decode cX7_seen 63 = .ok (.ireturn, 1) := by decide +kernel
theorem dX7_seen_64 : decode cX7_seen 64 = .ok (.aload_n 0, 1) := by decide +kernel
theorem dX7_seen_65 : decode cX7_seen 65 = .ok (.getfield 12, 3) := by decide +kernel
theorem dX7_seen_68 : decode cX7_seen 68 = .ok (.getfield 192, 3) := by decide +kernel
theorem dX7_seen_71 : decode cX7_seen 71 = .ok (.iload_n 1, 1) := by decide +kernel
theorem dX7_seen_72 : decode cX7_seen 72 = .ok (.iload_n 2, 1) := by decide +kernel
theorem dX7_seen_73 : decode cX7_seen 73 = .ok (.iload_n 3, 1) := by decide +kernel
theorem dX7_seen_74 : decode cX7_seen 74 = .ok (.iload 4, 2) := by decide +kernel
theorem dX7_seen_76 : decode cX7_seen 76 = .ok (.invokevirtual 202, 3) := by decide +kernel
theorem dX7_seen_79 : decode cX7_seen 79 = .ok (.ireturn, 1) := by decide +kernel
theorem dX7_strong_0 : decode cX7_strong 0 = .ok (.aload_n 0, 1) := by decide +kernel
theorem dX7_strong_1 : decode cX7_strong 1 = .ok (.getfield 12, 3) := by decide +kernel
theorem dX7_strong_4 : decode cX7_strong 4 = .ok (.iload_n 1, 1) := by decide +kernel
theorem dX7_strong_5 : decode cX7_strong 5 = .ok (.invokevirtual 98, 3) := by decide +kernel
theorem dX7_strong_8 : decode cX7_strong 8 = .ok (.ifCond .eq 12, 3) := by decide +kernel
theorem dX7_strong_11 : decode cX7_strong 11 = .ok (.iload_n 2, 1) := by decide +kernel
theorem dX7_strong_12 : decode cX7_strong 12 = .ok (.iconst 0, 1) := by decide +kernel
theorem dX7_strong_13 : decode cX7_strong 13 = .ok (.iconst 2, 1) := by decide +kernel
theorem dX7_strong_14 : decode cX7_strong 14 = .ok (.invokestatic 59, 3) := by decide +kernel
theorem dX7_strong_17 : decode cX7_strong 17 = .ok (.ifCond .ne 8, 3) := by decide +kernel
theorem dX7_strong_20 : decode cX7_strong 20 = .ok (.aload_n 0, 1) := by decide +kernel
theorem dX7_strong_21 : decode cX7_strong 21 = .ok (.invokevirtual 63, 3) := by decide +kernel
theorem dX7_strong_24 : decode cX7_strong 24 = .ok (.ireturn, 1) := by decide +kernel
theorem dX7_strong_25 : decode cX7_strong 25 = .ok (.aload_n 0, 1) := by decide +kernel
theorem dX7_strong_26 : decode cX7_strong 26 = .ok (.getfield 12, 3) := by decide +kernel
theorem dX7_strong_29 : decode cX7_strong 29 = .ok (.iload_n 1, 1) := by decide +kernel
theorem dX7_strong_30 : decode cX7_strong 30 = .ok (.invokevirtual 206, 3) := by decide +kernel
theorem dX7_strong_33 : decode cX7_strong 33 = .ok (.istore_n 3, 1) := by decide +kernel
theorem dX7_strong_34 : decode cX7_strong 34 = .ok (.iload_n 2, 1) := by decide +kernel
theorem dX7_strong_35 : decode cX7_strong 35 = .ok (.ifCond .ne 8, 3) := by decide +kernel
theorem dX7_strong_38 : decode cX7_strong 38 = .ok (.iload_n 3, 1) := by decide +kernel
theorem dX7_strong_39 : decode cX7_strong 39 = .ok (.invokestatic 209, 3) := by decide +kernel
theorem dX7_strong_42 : decode cX7_strong 42 = .ok (.ireturn, 1) := by decide +kernel
theorem dX7_strong_43 : decode cX7_strong 43 = .ok (.iload_n 2, 1) := by decide +kernel
theorem dX7_strong_44 : decode cX7_strong 44 = .ok (.iconst 1, 1) := by decide +kernel
theorem dX7_strong_45 : decode cX7_strong 45 = .ok (.if_icmp .ne 10, 3) := by decide +kernel
theorem dX7_strong_48 : decode cX7_strong 48 = .ok (.iload_n 3, 1) := by decide +kernel
theorem dX7_strong_49 : decode cX7_strong 49 = .ok (.invokestatic 214, 3) := by decide +kernel
theorem dX7_strong_52 : decode cX7_strong 52 = .ok (.goto 7, 3) := by decide +kernel
theorem dX7_strong_55 : decode cX7_strong 55 = .ok (.iload_n 3, 1) := by decide +kernel
theorem dX7_strong_56 : decode cX7_strong 56 = .ok (.invokestatic 217, 3) := by decide +kernel
theorem dX7_strong_59 : decode cX7_strong 59 = .ok (.ireturn, 1) := by decide +kernel
theorem dX7_tell_0 : decode cX7_tell 0 = .ok (.aload_n 0, 1) := by decide +kernel
theorem dX7_tell_1 : decode cX7_tell 1 = .ok (.getfield 12, 3) := by decide +kernel
theorem dX7_tell_4 : decode cX7_tell 4 = .ok (.iload_n 1, 1) := by decide +kernel
theorem dX7_tell_5 : decode cX7_tell 5 = .ok (.invokevirtual 98, 3) := by decide +kernel
theorem dX7_tell_8 : decode cX7_tell 8 = .ok (.ifCond .ne 8, 3) := by decide +kernel
theorem dX7_tell_11 : decode cX7_tell 11 = .ok (.aload_n 0, 1) := by decide +kernel
theorem dX7_tell_12 : decode cX7_tell 12 = .ok (.invokevirtual 63, 3) := by decide +kernel
theorem dX7_tell_15 : decode cX7_tell 15 = .ok (.ireturn, 1) := by decide +kernel
theorem dX7_tell_16 : decode cX7_tell 16 = .ok (.aload_n 0, 1) := by decide +kernel
theorem dX7_tell_17 : decode cX7_tell 17 = .ok (.getfield 12, 3) := by decide +kernel
theorem dX7_tell_20 : decode cX7_tell 20 = .ok (.iload_n 1, 1) := by decide +kernel
theorem dX7_tell_21 : decode cX7_tell 21 = .ok (.invokevirtual 206, 3) := by decide +kernel
theorem dX7_tell_24 : decode cX7_tell 24 = .ok (.istore_n 2, 1) := by decide +kernel
theorem dX7_tell_25 : decode cX7_tell 25 = .ok (.iload_n 2, 1) := by decide +kernel
theorem dX7_tell_26 : decode cX7_tell 26 = .ok (.ifCond .ne 5, 3) := by decide +kernel
theorem dX7_tell_29 : decode cX7_tell 29 = .ok (.iconst (-1), 1) := by decide +kernel
theorem dX7_tell_30 : decode cX7_tell 30 = .ok (.ireturn, 1) := by decide +kernel
theorem dX7_tell_31 : decode cX7_tell 31 = .ok (.iconst (-1), 1) := by decide +kernel
theorem dX7_tell_32 : decode cX7_tell 32 = .ok (.istore_n 3, 1) := by decide +kernel
theorem dX7_tell_33 : decode cX7_tell 33 = .ok (.bipush 10, 2) := by decide +kernel
theorem dX7_tell_35 : decode cX7_tell 35 = .ok (.istore 4, 2) := by decide +kernel
theorem dX7_tell_37 : decode cX7_tell 37 = .ok (.iconst 0, 1) := by decide +kernel
theorem dX7_tell_38 : decode cX7_tell 38 = .ok (.istore 5, 2) := by decide +kernel
theorem dX7_tell_40 : decode cX7_tell 40 = .ok (.iload 5, 2) := by decide +kernel
theorem dX7_tell_42 : decode cX7_tell 42 = .ok (.bipush 9, 2) := by decide +kernel
theorem dX7_tell_44 : decode cX7_tell 44 = .ok (.if_icmp .gt 78, 3) := by decide +kernel
theorem dX7_tell_47 : decode cX7_tell 47 = .ok (.aload_n 0, 1) := by decide +kernel
theorem dX7_tell_48 : decode cX7_tell 48 = .ok (.getfield 37, 3) := by decide +kernel
theorem dX7_tell_51 : decode cX7_tell 51 = .ok (.aload_n 0, 1) := by decide +kernel
theorem dX7_tell_52 : decode cX7_tell 52 = .ok (.getfield 12, 3) := by decide +kernel
theorem dX7_tell_55 : decode cX7_tell 55 = .ok (.getfield 220, 3) := by decide +kernel
theorem dX7_tell_58 : decode cX7_tell 58 = .ok (.iload_n 1, 1) := by decide +kernel
theorem dX7_tell_59 : decode cX7_tell 59 = .ok (.iaload, 1) := by decide +kernel
theorem dX7_tell_60 : decode cX7_tell 60 = .ok (.iload_n 2, 1) := by decide +kernel
theorem dX7_tell_61 : decode cX7_tell 61 = .ok (.bipush 10, 2) := by decide +kernel
theorem dX7_tell_63 : decode cX7_tell 63 = .ok (.iload 5, 2) := by decide +kernel
theorem dX7_tell_65 : decode cX7_tell 65 = .ok (.imul, 1) := by decide +kernel
theorem dX7_tell_66 : decode cX7_tell 66 = .ok (.invokevirtual 223, 3) := by decide +kernel
theorem dX7_tell_69 : decode cX7_tell 69 = .ok (.iconst 0, 1) := by decide +kernel
theorem dX7_tell_70 : decode cX7_tell 70 = .ok (.istore 6, 2) := by decide +kernel
theorem dX7_tell_72 : decode cX7_tell 72 = .ok (.iload 6, 2) := by decide +kernel
theorem dX7_tell_74 : decode cX7_tell 74 = .ok (.bipush 60, 2) := by decide +kernel
theorem dX7_tell_76 : decode cX7_tell 76 = .ok (.if_icmp .gt 40, 3) := by decide +kernel
theorem dX7_tell_79 : decode cX7_tell 79 = .ok (.aload_n 0, 1) := by decide +kernel
theorem dX7_tell_80 : decode cX7_tell 80 = .ok (.getfield 37, 3) := by decide +kernel
theorem dX7_tell_83 : decode cX7_tell 83 = .ok (.iload 6, 2) := by decide +kernel
theorem dX7_tell_85 : decode cX7_tell 85 = .ok (.invokevirtual 227, 3) := by decide +kernel
theorem dX7_tell_88 : decode cX7_tell 88 = .ok (.istore 7, 2) := by decide +kernel
theorem dX7_tell_90 : decode cX7_tell 90 = .ok (.iload 7, 2) := by decide +kernel
theorem dX7_tell_92 : decode cX7_tell 92 = .ok (.iload 4, 2) := by decide +kernel
theorem dX7_tell_94 : decode cX7_tell 94 = .ok (.if_icmp .ge 16, 3) := by decide +kernel
theorem dX7_tell_97 : decode cX7_tell 97 = .ok (.iload 7, 2) := by decide +kernel
theorem dX7_tell_99 : decode cX7_tell 99 = .ok (.istore 4, 2) := by decide +kernel
theorem dX7_tell_101 : decode cX7_tell 101 = .ok (.bipush 100, 2) := by decide +kernel
theorem dX7_tell_103 : decode cX7_tell 103 = .ok (.iload 5, 2) := by decide +kernel
theorem dX7_tell_105 : decode cX7_tell 105 = .ok (.imul, 1) := by decide +kernel
theorem dX7_tell_106 : decode cX7_tell 106 = .ok (.iload 6, 2) := by decide +kernel
theorem dX7_tell_108 : decode cX7_tell 108 = .ok (.iadd, 1) := by decide +kernel
theorem dX7_tell_109 : decode cX7_tell 109 = .ok (.istore_n 3, 1) := by decide +kernel
theorem dX7_tell_110 : decode cX7_tell 110 = .ok (.iinc 6 1, 3) := by decide +kernel
theorem dX7_tell_113 : decode cX7_tell 113 = .ok (.goto (-41), 3) := by decide +kernel
theorem dX7_tell_116 : decode cX7_tell 116 = .ok (.iinc 5 1, 3) := by decide +kernel
theorem dX7_tell_119 : decode cX7_tell 119 = .ok (.goto (-79), 3) := by decide +kernel
theorem dX7_tell_122 : decode cX7_tell 122 = .ok (.iload_n 3, 1) := by decide +kernel
theorem dX7_tell_123 : decode cX7_tell 123 = .ok (.ireturn, 1) := by decide +kernel
theorem dX7_note_0 : decode cX7_note 0 = .ok (.aload_n 0, 1) := by decide +kernel
theorem dX7_note_1 : decode cX7_note 1 = .ok (.getfield 12, 3) := by decide +kernel
theorem dX7_note_4 : decode cX7_note 4 = .ok (.iload_n 1, 1) := by decide +kernel
theorem dX7_note_5 : decode cX7_note 5 = .ok (.invokevirtual 102, 3) := by decide +kernel
theorem dX7_note_8 : decode cX7_note 8 = .ok (.ifCond .eq 34, 3) := by decide +kernel
theorem dX7_note_11 : decode cX7_note 11 = .ok (.iload_n 2, 1) := by decide +kernel
theorem dX7_note_12 : decode cX7_note 12 = .ok (.iconst 1, 1) := by decide +kernel
theorem dX7_note_13 : decode cX7_note 13 = .ok (.bipush 30, 2) := by decide +kernel
theorem dX7_note_15 : decode cX7_note 15 = .ok (.invokestatic 59, 3) := by decide +kernel
theorem dX7_note_18 : decode cX7_note 18 = .ok (.ifCond .eq 24, 3) := by decide +kernel
theorem dX7_note_21 : decode cX7_note 21 = .ok (.iload_n 3, 1) := by decide +kernel
theorem dX7_note_22 : decode cX7_note 22 = .ok (.iconst 0, 1) := by decide +kernel
theorem dX7_note_23 : decode cX7_note 23 = .ok (.bipush 99, 2) := by decide +kernel
theorem dX7_note_25 : decode cX7_note 25 = .ok (.invokestatic 59, 3) := by decide +kernel
theorem dX7_note_28 : decode cX7_note 28 = .ok (.ifCond .eq 14, 3) := by decide +kernel
theorem dX7_note_31 : decode cX7_note 31 = .ok (.iload 4, 2) := by decide +kernel
theorem dX7_note_33 : decode cX7_note 33 = .ok (.iconst 0, 1) := by decide +kernel
theorem dX7_note_34 : decode cX7_note 34 = .ok (.bipush 99, 2) := by decide +kernel
theorem dX7_note_36 : decode cX7_note 36 = .ok (.invokestatic 59, 3) := by decide +kernel
theorem dX7_note_39 : decode cX7_note 39 = .ok (.ifCond .ne 8, 3) := by decide +kernel
theorem dX7_note_42 : decode cX7_note 42 = .ok (.aload_n 0, 1) := by decide +kernel
theorem dX7_note_43 : decode cX7_note 43 = .ok (.invokevirtual 63, 3) := by decide +kernel
theorem dX7_note_46 : decode cX7_note 46 = .ok (.ireturn, 1) := by decide +kernel
theorem dX7_note_47 : decode cX7_note 47 = .ok (.aload_n 0, 1) := by decide +kernel
theorem dX7_note_48 : decode cX7_note 48 = .ok (.getfield 12, 3) := by decide +kernel
theorem dX7_note_51 : decode cX7_note 51 = .ok (.getfield 230, 3) := by decide +kernel
theorem dX7_note_54 : decode cX7_note 54 = .ok (.invokevirtual 196, 3) := by decide +kernel
theorem dX7_note_57 : decode cX7_note 57 = .ok (.ifCond .eq 8, 3) := by decide +kernel
theorem dX7_note_60 : decode cX7_note 60 = .ok (.aload_n 0, 1) := by decide +kernel
theorem dX7_note_61 : decode cX7_note 61 = .ok (.invokevirtual 70, 3) := by decide +kernel
theorem dX7_note_64 : decode cX7_note 64 = .ok (.ireturn, 1) := by decide +kernel
theorem dX7_note_65 : decode cX7_note 65 = .ok (.aload_n 0, 1) := by decide +kernel
theorem dX7_note_66 : decode cX7_note 66 = .ok (.getfield 12, 3) := by decide +kernel
theorem dX7_note_69 : decode cX7_note 69 = .ok (.getfield 230, 3) := by decide +kernel
theorem dX7_note_72 : decode cX7_note 72 = .ok (.iload_n 1, 1) := by decide +kernel
theorem dX7_note_73 : decode cX7_note 73 = .ok (.iload_n 2, 1) := by decide +kernel
theorem dX7_note_74 : decode cX7_note 74 = .ok (.iload_n 3, 1) := by decide +kernel
theorem dX7_note_75 : decode cX7_note 75 = .ok (.iload 4, 2) := by decide +kernel
theorem dX7_note_77 : decode cX7_note 77 = .ok (.invokevirtual 202, 3) := by decide +kernel
theorem dX7_note_80 : decode cX7_note 80 = .ok (.ireturn, 1) := by decide +kernel
theorem dX7_mark_0 : decode cX7_mark 0 = .ok (.aload_n 0, 1) := by decide +kernel
theorem dX7_mark_1 : decode cX7_mark 1 = .ok (.getfield 12, 3) := by decide +kernel
theorem dX7_mark_4 : decode cX7_mark 4 = .ok (.iload_n 1, 1) := by decide +kernel
theorem dX7_mark_5 : decode cX7_mark 5 = .ok (.invokevirtual 98, 3) := by decide +kernel
theorem dX7_mark_8 : decode cX7_mark 8 = .ok (.ifCond .eq 34, 3) := by decide +kernel
theorem dX7_mark_11 : decode cX7_mark 11 = .ok (.iload_n 2, 1) := by decide +kernel
theorem dX7_mark_12 : decode cX7_mark 12 = .ok (.iconst 1, 1) := by decide +kernel
theorem dX7_mark_13 : decode cX7_mark 13 = .ok (.bipush 9, 2) := by decide +kernel
theorem dX7_mark_15 : decode cX7_mark 15 = .ok (.invokestatic 59, 3) := by decide +kernel
theorem dX7_mark_18 : decode cX7_mark 18 = .ok (.ifCond .eq 24, 3) := by decide +kernel
theorem dX7_mark_21 : decode cX7_mark 21 = .ok (.iload_n 3, 1) := by decide +kernel
theorem dX7_mark_22 : decode cX7_mark 22 = .ok (.iconst 0, 1) := by decide +kernel
theorem dX7_mark_23 : decode cX7_mark 23 = .ok (.bipush 99, 2) := by decide +kernel
theorem dX7_mark_25 : decode cX7_mark 25 = .ok (.invokestatic 59, 3) := by decide +kernel
theorem dX7_mark_28 : decode cX7_mark 28 = .ok (.ifCond .eq 14, 3) := by decide +kernel
theorem dX7_mark_31 : decode cX7_mark 31 = .ok (.iload 4, 2) := by decide +kernel
theorem dX7_mark_33 : decode cX7_mark 33 = .ok (.iconst 0, 1) := by decide +kernel
theorem dX7_mark_34 : decode cX7_mark 34 = .ok (.bipush 99, 2) := by decide +kernel
theorem dX7_mark_36 : decode cX7_mark 36 = .ok (.invokestatic 59, 3) := by decide +kernel
theorem dX7_mark_39 : decode cX7_mark 39 = .ok (.ifCond .ne 8, 3) := by decide +kernel
theorem dX7_mark_42 : decode cX7_mark 42 = .ok (.aload_n 0, 1) := by decide +kernel
theorem dX7_mark_43 : decode cX7_mark 43 = .ok (.invokevirtual 63, 3) := by decide +kernel
theorem dX7_mark_46 : decode cX7_mark 46 = .ok (.ireturn, 1) := by decide +kernel
theorem dX7_mark_47 : decode cX7_mark 47 = .ok (.aload_n 0, 1) := by decide +kernel
theorem dX7_mark_48 : decode cX7_mark 48 = .ok (.getfield 12, 3) := by decide +kernel
theorem dX7_mark_51 : decode cX7_mark 51 = .ok (.getfield 233, 3) := by decide +kernel
theorem dX7_mark_54 : decode cX7_mark 54 = .ok (.invokevirtual 196, 3) := by decide +kernel
theorem dX7_mark_57 : decode cX7_mark 57 = .ok (.ifCond .eq 8, 3) := by decide +kernel
theorem dX7_mark_60 : decode cX7_mark 60 = .ok (.aload_n 0, 1) := by decide +kernel
theorem dX7_mark_61 : decode cX7_mark 61 = .ok (.invokevirtual 70, 3) := by decide +kernel
theorem dX7_mark_64 : decode cX7_mark 64 = .ok (.ireturn, 1) := by decide +kernel
theorem dX7_mark_65 : decode cX7_mark 65 = .ok (.aload_n 0, 1) := by decide +kernel
theorem dX7_mark_66 : decode cX7_mark 66 = .ok (.getfield 12, 3) := by decide +kernel
theorem dX7_mark_69 : decode cX7_mark 69 = .ok (.getfield 233, 3) := by decide +kernel
theorem dX7_mark_72 : decode cX7_mark 72 = .ok (.iload_n 1, 1) := by decide +kernel
theorem dX7_mark_73 : decode cX7_mark 73 = .ok (.iload_n 2, 1) := by decide +kernel
theorem dX7_mark_74 : decode cX7_mark 74 = .ok (.iload_n 3, 1) := by decide +kernel
theorem dX7_mark_75 : decode cX7_mark 75 = .ok (.iload 4, 2) := by decide +kernel
theorem dX7_mark_77 : decode cX7_mark 77 = .ok (.invokevirtual 202, 3) := by decide +kernel
theorem dX7_mark_80 : decode cX7_mark 80 = .ok (.ireturn, 1) := by decide +kernel
theorem dX7_forget_0 : decode cX7_forget 0 = .ok (.iload_n 1, 1) := by decide +kernel
theorem dX7_forget_1 : decode cX7_forget 1 = .ok (.iconst 0, 1) := by decide +kernel
theorem dX7_forget_2 : decode cX7_forget 2 = .ok (.iconst 2, 1) := by decide +kernel
theorem dX7_forget_3 : decode cX7_forget 3 = .ok (.invokestatic 59, 3) := by decide +kernel
theorem dX7_forget_6 : decode cX7_forget 6 = .ok (.ifCond .ne 8, 3) := by decide +kernel
theorem dX7_forget_9 : decode cX7_forget 9 = .ok (.aload_n 0, 1) := by decide +kernel
theorem dX7_forget_10 : decode cX7_forget 10 = .ok (.invokevirtual 63, 3) := by decide +kernel
theorem dX7_forget_13 : decode cX7_forget 13 = .ok (.ireturn, 1) := by decide +kernel
theorem dX7_forget_14 : decode cX7_forget 14 = .ok (.iload_n 1, 1) := by decide +kernel
theorem dX7_forget_15 : decode cX7_forget 15 = .ok (.ifCond .ne 14, 3) := by decide +kernel
theorem dX7_forget_18 : decode cX7_forget 18 = .ok (.aload_n 0, 1) := by decide +kernel
theorem dX7_forget_19 : decode cX7_forget 19 = .ok (.getfield 12, 3) := by decide +kernel
theorem dX7_forget_22 : decode cX7_forget 22 = .ok (.getfield 192, 3) := by decide +kernel
theorem dX7_forget_25 : decode cX7_forget 25 = .ok (.invokevirtual 236, 3) := by decide +kernel
theorem dX7_forget_28 : decode cX7_forget 28 = .ok (.ireturn, 1) := by decide +kernel
theorem dX7_forget_29 : decode cX7_forget 29 = .ok (.iload_n 1, 1) := by decide +kernel
theorem dX7_forget_30 : decode cX7_forget 30 = .ok (.iconst 1, 1) := by decide +kernel
theorem dX7_forget_31 : decode cX7_forget 31 = .ok (.if_icmp .ne 16, 3) := by decide +kernel
theorem dX7_forget_34 : decode cX7_forget 34 = .ok (.aload_n 0, 1) := by decide +kernel
theorem dX7_forget_35 : decode cX7_forget 35 = .ok (.getfield 12, 3) := by decide +kernel
theorem dX7_forget_38 : decode cX7_forget 38 = .ok (.getfield 230, 3) := by decide +kernel
theorem dX7_forget_41 : decode cX7_forget 41 = .ok (.invokevirtual 236, 3) := by decide +kernel
theorem dX7_forget_44 : decode cX7_forget 44 = .ok (.goto 13, 3) := by decide +kernel
theorem dX7_forget_47 : decode cX7_forget 47 = .ok (.aload_n 0, 1) := by decide +kernel
theorem dX7_forget_48 : decode cX7_forget 48 = .ok (.getfield 12, 3) := by decide +kernel
theorem dX7_forget_51 : decode cX7_forget 51 = .ok (.getfield 233, 3) := by decide +kernel
theorem dX7_forget_54 : decode cX7_forget 54 = .ok (.invokevirtual 236, 3) := by decide +kernel
theorem dX7_forget_57 : decode cX7_forget 57 = .ok (.ireturn, 1) := by decide +kernel
theorem dX7_is_0 : decode cX7_is 0 = .ok (.aload_n 0, 1) := by decide +kernel
theorem dX7_is_1 : decode cX7_is 1 = .ok (.getfield 12, 3) := by decide +kernel
theorem dX7_is_4 : decode cX7_is 4 = .ok (.iload_n 1, 1) := by decide +kernel
theorem dX7_is_5 : decode cX7_is 5 = .ok (.invokevirtual 102, 3) := by decide +kernel
theorem dX7_is_8 : decode cX7_is 8 = .ok (.ifCond .eq 14, 3) := by decide +kernel
theorem dX7_is_11 : decode cX7_is 11 = .ok (.aload_n 0, 1) := by decide +kernel
theorem dX7_is_12 : decode cX7_is 12 = .ok (.getfield 12, 3) := by decide +kernel
theorem dX7_is_15 : decode cX7_is 15 = .ok (.iload_n 1, 1) := by decide +kernel
theorem dX7_is_16 : decode cX7_is 16 = .ok (.invokevirtual 239, 3) := by decide +kernel
theorem dX7_is_19 : decode cX7_is 19 = .ok (.goto 7, 3) := by decide +kernel
theorem dX7_is_22 : decode cX7_is 22 = .ok (.aload_n 0, 1) := by decide +kernel
theorem dX7_is_23 : decode cX7_is 23 = .ok (.invokevirtual 63, 3) := by decide +kernel
theorem dX7_is_26 : decode cX7_is 26 = .ok (.ireturn, 1) := by decide +kernel
theorem dX7_look_0 : decode cX7_look 0 = .ok (.aload_n 0, 1) := by decide +kernel
theorem dX7_look_1 : decode cX7_look 1 = .ok (.getfield 12, 3) := by decide +kernel
theorem dX7_look_4 : decode cX7_look 4 = .ok (.iload_n 1, 1) := by decide +kernel
theorem dX7_look_5 : decode cX7_look 5 = .ok (.invokevirtual 102, 3) := by decide +kernel
theorem dX7_look_8 : decode cX7_look 8 = .ok (.ifCond .ne 8, 3) := by decide +kernel
theorem dX7_look_11 : decode cX7_look 11 = .ok (.aload_n 0, 1) := by decide +kernel
theorem dX7_look_12 : decode cX7_look 12 = .ok (.invokevirtual 63, 3) := by decide +kernel
theorem dX7_look_15 : decode cX7_look 15 = .ok (.ireturn, 1) := by decide +kernel
theorem dX7_look_16 : decode cX7_look 16 = .ok (.aload_n 0, 1) := by decide +kernel
theorem dX7_look_17 : decode cX7_look 17 = .ok (.getfield 12, 3) := by decide +kernel
theorem dX7_look_20 : decode cX7_look 20 = .ok (.iload_n 1, 1) := by decide +kernel
theorem dX7_look_21 : decode cX7_look 21 = .ok (.invokevirtual 239, 3) := by decide +kernel
theorem dX7_look_24 : decode cX7_look 24 = .ok (.istore_n 2, 1) := by decide +kernel
theorem dX7_look_25 : decode cX7_look 25 = .ok (.iload_n 2, 1) := by decide +kernel
theorem dX7_look_26 : decode cX7_look 26 = .ok (.ifCond .ne 5, 3) := by decide +kernel
theorem dX7_look_29 : decode cX7_look 29 = .ok (.iconst (-1), 1) := by decide +kernel
theorem dX7_look_30 : decode cX7_look 30 = .ok (.ireturn, 1) := by decide +kernel
theorem dX7_look_31 : decode cX7_look 31 = .ok (.iconst (-1), 1) := by decide +kernel
theorem dX7_look_32 : decode cX7_look 32 = .ok (.istore_n 3, 1) := by decide +kernel
theorem dX7_look_33 : decode cX7_look 33 = .ok (.bipush 7, 2) := by decide +kernel
theorem dX7_look_35 : decode cX7_look 35 = .ok (.istore 4, 2) := by decide +kernel
theorem dX7_look_37 : decode cX7_look 37 = .ok (.iconst 0, 1) := by decide +kernel
theorem dX7_look_38 : decode cX7_look 38 = .ok (.istore 5, 2) := by decide +kernel
theorem dX7_look_40 : decode cX7_look 40 = .ok (.iload 5, 2) := by decide +kernel
theorem dX7_look_42 : decode cX7_look 42 = .ok (.bipush 60, 2) := by decide +kernel
theorem dX7_look_44 : decode cX7_look 44 = .ok (.if_icmp .gt 51, 3) := by decide +kernel
theorem dX7_look_47 : decode cX7_look 47 = .ok (.aload_n 0, 1) := by decide +kernel
theorem dX7_look_48 : decode cX7_look 48 = .ok (.getfield 37, 3) := by decide +kernel
theorem dX7_look_51 : decode cX7_look 51 = .ok (.iload_n 2, 1) := by decide +kernel
theorem dX7_look_52 : decode cX7_look 52 = .ok (.aload_n 0, 1) := by decide +kernel
theorem dX7_look_53 : decode cX7_look 53 = .ok (.getfield 12, 3) := by decide +kernel
theorem dX7_look_56 : decode cX7_look 56 = .ok (.getfield 149, 3) := by decide +kernel
theorem dX7_look_59 : decode cX7_look 59 = .ok (.iload_n 1, 1) := by decide +kernel
theorem dX7_look_60 : decode cX7_look 60 = .ok (.iaload, 1) := by decide +kernel
theorem dX7_look_61 : decode cX7_look 61 = .ok (.iload 5, 2) := by decide +kernel
theorem dX7_look_63 : decode cX7_look 63 = .ok (.invokevirtual 242, 3) := by decide +kernel
theorem dX7_look_66 : decode cX7_look 66 = .ok (.aload_n 0, 1) := by decide +kernel
theorem dX7_look_67 : decode cX7_look 67 = .ok (.getfield 37, 3) := by decide +kernel
theorem dX7_look_70 : decode cX7_look 70 = .ok (.invokevirtual 245, 3) := by decide +kernel
theorem dX7_look_73 : decode cX7_look 73 = .ok (.istore 6, 2) := by decide +kernel
theorem dX7_look_75 : decode cX7_look 75 = .ok (.iload 6, 2) := by decide +kernel
theorem dX7_look_77 : decode cX7_look 77 = .ok (.iload 4, 2) := by decide +kernel
theorem dX7_look_79 : decode cX7_look 79 = .ok (.if_icmp .ge 10, 3) := by decide +kernel
theorem dX7_look_82 : decode cX7_look 82 = .ok (.iload 6, 2) := by decide +kernel
theorem dX7_look_84 : decode cX7_look 84 = .ok (.istore 4, 2) := by decide +kernel
theorem dX7_look_86 : decode cX7_look 86 = .ok (.iload 5, 2) := by decide +kernel
theorem dX7_look_88 : decode cX7_look 88 = .ok (.istore_n 3, 1) := by decide +kernel
theorem dX7_look_89 : decode cX7_look 89 = .ok (.iinc 5 1, 3) := by decide +kernel
theorem dX7_look_92 : decode cX7_look 92 = .ok (.goto (-52), 3) := by decide +kernel
theorem dX7_look_95 : decode cX7_look 95 = .ok (.iload_n 3, 1) := by decide +kernel
theorem dX7_look_96 : decode cX7_look 96 = .ok (.ireturn, 1) := by decide +kernel
theorem dX7_kinds_0 : decode cX7_kinds 0 = .ok (.aload_n 0, 1) := by decide +kernel
theorem dX7_kinds_1 : decode cX7_kinds 1 = .ok (.getfield 12, 3) := by decide +kernel
theorem dX7_kinds_4 : decode cX7_kinds 4 = .ok (.iload_n 1, 1) := by decide +kernel
theorem dX7_kinds_5 : decode cX7_kinds 5 = .ok (.invokevirtual 98, 3) := by decide +kernel
theorem dX7_kinds_8 : decode cX7_kinds 8 = .ok (.ifCond .eq 14, 3) := by decide +kernel
theorem dX7_kinds_11 : decode cX7_kinds 11 = .ok (.aload_n 0, 1) := by decide +kernel
theorem dX7_kinds_12 : decode cX7_kinds 12 = .ok (.getfield 12, 3) := by decide +kernel
theorem dX7_kinds_15 : decode cX7_kinds 15 = .ok (.iload_n 1, 1) := by decide +kernel
theorem dX7_kinds_16 : decode cX7_kinds 16 = .ok (.invokevirtual 248, 3) := by decide +kernel
theorem dX7_kinds_19 : decode cX7_kinds 19 = .ok (.goto 7, 3) := by decide +kernel
theorem dX7_kinds_22 : decode cX7_kinds 22 = .ok (.aload_n 0, 1) := by decide +kernel
theorem dX7_kinds_23 : decode cX7_kinds 23 = .ok (.invokevirtual 63, 3) := by decide +kernel
theorem dX7_kinds_26 : decode cX7_kinds 26 = .ok (.ireturn, 1) := by decide +kernel
theorem dX7_ask_0 : decode cX7_ask 0 = .ok (.aload_n 0, 1) := by decide +kernel
theorem dX7_ask_1 : decode cX7_ask 1 = .ok (.getfield 12, 3) := by decide +kernel
theorem dX7_ask_4 : decode cX7_ask 4 = .ok (.iload_n 1, 1) := by decide +kernel
theorem dX7_ask_5 : decode cX7_ask 5 = .ok (.invokevirtual 98, 3) := by decide +kernel
theorem dX7_ask_8 : decode cX7_ask 8 = .ok (.ifCond .ne 8, 3) := by decide +kernel
theorem dX7_ask_11 : decode cX7_ask 11 = .ok (.aload_n 0, 1) := by decide +kernel
theorem dX7_ask_12 : decode cX7_ask 12 = .ok (.invokevirtual 63, 3) := by decide +kernel
theorem dX7_ask_15 : decode cX7_ask 15 = .ok (.ireturn, 1) := by decide +kernel
theorem dX7_ask_16 : decode cX7_ask 16 = .ok (.aload_n 0, 1) := by decide +kernel
theorem dX7_ask_17 : decode cX7_ask 17 = .ok (.getfield 12, 3) := by decide +kernel
theorem dX7_ask_20 : decode cX7_ask 20 = .ok (.iload_n 1, 1) := by decide +kernel
theorem dX7_ask_21 : decode cX7_ask 21 = .ok (.invokevirtual 248, 3) := by decide +kernel
theorem dX7_ask_24 : decode cX7_ask 24 = .ok (.istore_n 2, 1) := by decide +kernel
theorem dX7_ask_25 : decode cX7_ask 25 = .ok (.iload_n 2, 1) := by decide +kernel
theorem dX7_ask_26 : decode cX7_ask 26 = .ok (.ifCond .ne 5, 3) := by decide +kernel
theorem dX7_ask_29 : decode cX7_ask 29 = .ok (.iconst (-1), 1) := by decide +kernel
theorem dX7_ask_30 : decode cX7_ask 30 = .ok (.ireturn, 1) := by decide +kernel
theorem dX7_ask_31 : decode cX7_ask 31 = .ok (.iconst (-1), 1) := by decide +kernel
theorem dX7_ask_32 : decode cX7_ask 32 = .ok (.istore_n 3, 1) := by decide +kernel
theorem dX7_ask_33 : decode cX7_ask 33 = .ok (.bipush 7, 2) := by decide +kernel
theorem dX7_ask_35 : decode cX7_ask 35 = .ok (.istore 4, 2) := by decide +kernel
theorem dX7_ask_37 : decode cX7_ask 37 = .ok (.iconst 0, 1) := by decide +kernel
theorem dX7_ask_38 : decode cX7_ask 38 = .ok (.istore 5, 2) := by decide +kernel
theorem dX7_ask_40 : decode cX7_ask 40 = .ok (.iload 5, 2) := by decide +kernel
theorem dX7_ask_42 : decode cX7_ask 42 = .ok (.bipush 99, 2) := by decide +kernel
theorem dX7_ask_44 : decode cX7_ask 44 = .ok (.if_icmp .gt 51, 3) := by decide +kernel
theorem dX7_ask_47 : decode cX7_ask 47 = .ok (.aload_n 0, 1) := by decide +kernel
theorem dX7_ask_48 : decode cX7_ask 48 = .ok (.getfield 37, 3) := by decide +kernel
theorem dX7_ask_51 : decode cX7_ask 51 = .ok (.iload_n 2, 1) := by decide +kernel
theorem dX7_ask_52 : decode cX7_ask 52 = .ok (.aload_n 0, 1) := by decide +kernel
theorem dX7_ask_53 : decode cX7_ask 53 = .ok (.getfield 12, 3) := by decide +kernel
theorem dX7_ask_56 : decode cX7_ask 56 = .ok (.getfield 251, 3) := by decide +kernel
theorem dX7_ask_59 : decode cX7_ask 59 = .ok (.iload_n 1, 1) := by decide +kernel
theorem dX7_ask_60 : decode cX7_ask 60 = .ok (.iaload, 1) := by decide +kernel
theorem dX7_ask_61 : decode cX7_ask 61 = .ok (.iload 5, 2) := by decide +kernel
theorem dX7_ask_63 : decode cX7_ask 63 = .ok (.invokevirtual 254, 3) := by decide +kernel
theorem dX7_ask_66 : decode cX7_ask 66 = .ok (.aload_n 0, 1) := by decide +kernel
theorem dX7_ask_67 : decode cX7_ask 67 = .ok (.getfield 37, 3) := by decide +kernel
theorem dX7_ask_70 : decode cX7_ask 70 = .ok (.invokevirtual 245, 3) := by decide +kernel
theorem dX7_ask_73 : decode cX7_ask 73 = .ok (.istore 6, 2) := by decide +kernel
theorem dX7_ask_75 : decode cX7_ask 75 = .ok (.iload 6, 2) := by decide +kernel
theorem dX7_ask_77 : decode cX7_ask 77 = .ok (.iload 4, 2) := by decide +kernel
theorem dX7_ask_79 : decode cX7_ask 79 = .ok (.if_icmp .ge 10, 3) := by decide +kernel
theorem dX7_ask_82 : decode cX7_ask 82 = .ok (.iload 6, 2) := by decide +kernel
theorem dX7_ask_84 : decode cX7_ask 84 = .ok (.istore 4, 2) := by decide +kernel
theorem dX7_ask_86 : decode cX7_ask 86 = .ok (.iload 5, 2) := by decide +kernel
theorem dX7_ask_88 : decode cX7_ask 88 = .ok (.istore_n 3, 1) := by decide +kernel
theorem dX7_ask_89 : decode cX7_ask 89 = .ok (.iinc 5 1, 3) := by decide +kernel
theorem dX7_ask_92 : decode cX7_ask 92 = .ok (.goto (-52), 3) := by decide +kernel
theorem dX7_ask_95 : decode cX7_ask 95 = .ok (.iload_n 3, 1) := by decide +kernel
theorem dX7_ask_96 : decode cX7_ask 96 = .ok (.ireturn, 1) := by decide +kernel
theorem dX7_tries_0 : decode cX7_tries 0 = .ok (.aload_n 0, 1) := by decide +kernel
theorem dX7_tries_1 : decode cX7_tries 1 = .ok (.getfield 12, 3) := by decide +kernel
theorem dX7_tries_4 : decode cX7_tries 4 = .ok (.iload_n 1, 1) := by decide +kernel
theorem dX7_tries_5 : decode cX7_tries 5 = .ok (.invokevirtual 98, 3) := by decide +kernel
theorem dX7_tries_8 : decode cX7_tries 8 = .ok (.ifCond .eq 30, 3) := by decide +kernel
theorem dX7_tries_11 : decode cX7_tries 11 = .ok (.aload_n 0, 1) := by decide +kernel
theorem dX7_tries_12 : decode cX7_tries 12 = .ok (.getfield 12, 3) := by decide +kernel
theorem dX7_tries_15 : decode cX7_tries 15 = .ok (.iload_n 2, 1) := by decide +kernel
theorem dX7_tries_16 : decode cX7_tries 16 = .ok (.invokevirtual 98, 3) := by decide +kernel
theorem dX7_tries_19 : decode cX7_tries 19 = .ok (.ifCond .eq 19, 3) := by decide +kernel
theorem dX7_tries_22 : decode cX7_tries 22 = .ok (.iload_n 1, 1) := by decide +kernel
theorem dX7_tries_23 : decode cX7_tries 23 = .ok (.iload_n 2, 1) := by decide +kernel
theorem dX7_tries_24 : decode cX7_tries 24 = .ok (.if_icmp .eq 14, 3) := by decide +kernel
theorem dX7_tries_27 : decode cX7_tries 27 = .ok (.aload_n 0, 1) := by decide +kernel
theorem dX7_tries_28 : decode cX7_tries 28 = .ok (.getfield 12, 3) := by decide +kernel
theorem dX7_tries_31 : decode cX7_tries 31 = .ok (.iload_n 3, 1) := by decide +kernel
theorem dX7_tries_32 : decode cX7_tries 32 = .ok (.invokevirtual 102, 3) := by decide +kernel
theorem dX7_tries_35 : decode cX7_tries 35 = .ok (.ifCond .ne 8, 3) := by decide +kernel
theorem dX7_tries_38 : decode cX7_tries 38 = .ok (.aload_n 0, 1) := by decide +kernel
theorem dX7_tries_39 : decode cX7_tries 39 = .ok (.invokevirtual 63, 3) := by decide +kernel
theorem dX7_tries_42 : decode cX7_tries 42 = .ok (.ireturn, 1) := by decide +kernel
theorem dX7_tries_43 : decode cX7_tries 43 = .ok (.aload_n 0, 1) := by decide +kernel
theorem dX7_tries_44 : decode cX7_tries 44 = .ok (.getfield 12, 3) := by decide +kernel
theorem dX7_tries_47 : decode cX7_tries 47 = .ok (.iload_n 1, 1) := by decide +kernel
theorem dX7_tries_48 : decode cX7_tries 48 = .ok (.iconst 0, 1) := by decide +kernel
theorem dX7_tries_49 : decode cX7_tries 49 = .ok (.invokevirtual 152, 3) := by decide +kernel
theorem dX7_tries_52 : decode cX7_tries 52 = .ok (.istore 4, 2) := by decide +kernel
theorem dX7_tries_54 : decode cX7_tries 54 = .ok (.aload_n 0, 1) := by decide +kernel
theorem dX7_tries_55 : decode cX7_tries 55 = .ok (.getfield 12, 3) := by decide +kernel
theorem dX7_tries_58 : decode cX7_tries 58 = .ok (.iload_n 2, 1) := by decide +kernel
theorem dX7_tries_59 : decode cX7_tries 59 = .ok (.iconst 0, 1) := by decide +kernel
theorem dX7_tries_60 : decode cX7_tries 60 = .ok (.invokevirtual 152, 3) := by decide +kernel
theorem dX7_tries_63 : decode cX7_tries 63 = .ok (.istore 5, 2) := by decide +kernel
theorem dX7_tries_65 : decode cX7_tries 65 = .ok (.aload_n 0, 1) := by decide +kernel
theorem dX7_tries_66 : decode cX7_tries 66 = .ok (.getfield 12, 3) := by decide +kernel
theorem dX7_tries_69 : decode cX7_tries 69 = .ok (.iload_n 3, 1) := by decide +kernel
theorem dX7_tries_70 : decode cX7_tries 70 = .ok (.iconst 0, 1) := by decide +kernel
theorem dX7_tries_71 : decode cX7_tries 71 = .ok (.invokevirtual 155, 3) := by decide +kernel
theorem dX7_tries_74 : decode cX7_tries 74 = .ok (.istore 6, 2) := by decide +kernel
theorem dX7_tries_76 : decode cX7_tries 76 = .ok (.iconst 0, 1) := by decide +kernel
theorem dX7_tries_77 : decode cX7_tries 77 = .ok (.istore 7, 2) := by decide +kernel
theorem dX7_tries_79 : decode cX7_tries 79 = .ok (.iconst 0, 1) := by decide +kernel
theorem dX7_tries_80 : decode cX7_tries 80 = .ok (.istore 8, 2) := by decide +kernel
theorem dX7_tries_82 : decode cX7_tries 82 = .ok (.iload 8, 2) := by decide +kernel
theorem dX7_tries_84 : decode cX7_tries 84 = .ok (.iconst 4, 1) := by decide +kernel
theorem dX7_tries_85 : decode cX7_tries 85 = .ok (.if_icmp .ge 78, 3) := by decide +kernel
theorem dX7_tries_88 : decode cX7_tries 88 = .ok (.iload 8, 2) := by decide +kernel
theorem dX7_tries_90 : decode cX7_tries 90 = .ok (.iconst 1, 1) := by decide +kernel
theorem dX7_tries_91 : decode cX7_tries 91 = .ok (.iand, 1) := by decide +kernel
theorem dX7_tries_92 : decode cX7_tries 92 = .ok (.ifCond .eq 7, 3) := by decide +kernel
theorem dX7_tries_95 : decode cX7_tries 95 = .ok (.iconst 1, 1) := by decide +kernel
theorem dX7_tries_96 : decode cX7_tries 96 = .ok (.goto 4, 3) := by decide +kernel
theorem dX7_tries_99 : decode cX7_tries 99 = .ok (.iconst 0, 1) := by decide +kernel
theorem dX7_tries_100 : decode cX7_tries 100 = .ok (.istore 9, 2) := by decide +kernel
theorem dX7_tries_102 : decode cX7_tries 102 = .ok (.iload 8, 2) := by decide +kernel
theorem dX7_tries_104 : decode cX7_tries 104 = .ok (.iconst 2, 1) := by decide +kernel
theorem dX7_tries_105 : decode cX7_tries 105 = .ok (.iand, 1) := by decide +kernel
theorem dX7_tries_106 : decode cX7_tries 106 = .ok (.ifCond .eq 7, 3) := by decide +kernel
theorem dX7_tries_109 : decode cX7_tries 109 = .ok (.iconst 1, 1) := by decide +kernel
theorem dX7_tries_110 : decode cX7_tries 110 = .ok (.goto 4, 3) := by decide +kernel
theorem dX7_tries_113 : decode cX7_tries 113 = .ok (.iconst 0, 1) := by decide +kernel
theorem dX7_tries_114 : decode cX7_tries 114 = .ok (.istore 10, 2) := by decide +kernel
theorem dX7_tries_116 : decode cX7_tries 116 = .ok (.iload 9, 2) := by decide +kernel
theorem dX7_tries_118 : decode cX7_tries 118 = .ok (.iload 10, 2) := by decide +kernel
theorem dX7_tries_120 : decode cX7_tries 120 = .ok (.iload 4, 2) := by decide +kernel
theorem dX7_tries_122 : decode cX7_tries 122 = .ok (.iload 5, 2) := by decide +kernel
theorem dX7_tries_124 : decode cX7_tries 124 = .ok (.iload 6, 2) := by decide +kernel
theorem dX7_tries_126 : decode cX7_tries 126 = .ok (.invokestatic 257, 3) := by decide +kernel
theorem dX7_tries_129 : decode cX7_tries 129 = .ok (.ifCond .eq 28, 3) := by decide +kernel
theorem dX7_tries_132 : decode cX7_tries 132 = .ok (.iload 10, 2) := by decide +kernel
theorem dX7_tries_134 : decode cX7_tries 134 = .ok (.iload 9, 2) := by decide +kernel
theorem dX7_tries_136 : decode cX7_tries 136 = .ok (.iload 5, 2) := by decide +kernel
theorem dX7_tries_138 : decode cX7_tries 138 = .ok (.iload 4, 2) := by decide +kernel
theorem dX7_tries_140 : decode cX7_tries 140 = .ok (.iload 6, 2) := by decide +kernel
theorem dX7_tries_142 : decode cX7_tries 142 = .ok (.invokestatic 257, 3) := by decide +kernel
theorem dX7_tries_145 : decode cX7_tries 145 = .ok (.ifCond .eq 12, 3) := by decide +kernel
theorem dX7_tries_148 : decode cX7_tries 148 = .ok (.iload 7, 2) := by decide +kernel
theorem dX7_tries_150 : decode cX7_tries 150 = .ok (.iconst 1, 1) := by decide +kernel
theorem dX7_tries_151 : decode cX7_tries 151 = .ok (.iload 8, 2) := by decide +kernel
theorem dX7_tries_153 : decode cX7_tries 153 = .ok (.ishl, 1) := by decide +kernel
theorem dX7_tries_154 : decode cX7_tries 154 = .ok (.ior, 1) := by decide +kernel
theorem dX7_tries_155 : decode cX7_tries 155 = .ok (.istore 7, 2) := by decide +kernel
theorem dX7_tries_157 : decode cX7_tries 157 = .ok (.iinc 8 1, 3) := by decide +kernel
theorem dX7_tries_160 : decode cX7_tries 160 = .ok (.goto (-78), 3) := by decide +kernel
theorem dX7_tries_163 : decode cX7_tries 163 = .ok (.iload 7, 2) := by decide +kernel
theorem dX7_tries_165 : decode cX7_tries 165 = .ok (.ireturn, 1) := by decide +kernel
theorem dX7_shout_0 : decode cX7_shout 0 = .ok (.aload_n 0, 1) := by decide +kernel
theorem dX7_shout_1 : decode cX7_shout 1 = .ok (.getfield 12, 3) := by decide +kernel
theorem dX7_shout_4 : decode cX7_shout 4 = .ok (.iload_n 1, 1) := by decide +kernel
theorem dX7_shout_5 : decode cX7_shout 5 = .ok (.invokevirtual 98, 3) := by decide +kernel
theorem dX7_shout_8 : decode cX7_shout 8 = .ok (.ifCond .eq 23, 3) := by decide +kernel
theorem dX7_shout_11 : decode cX7_shout 11 = .ok (.iload_n 2, 1) := by decide +kernel
theorem dX7_shout_12 : decode cX7_shout 12 = .ok (.iconst 0, 1) := by decide +kernel
theorem dX7_shout_13 : decode cX7_shout 13 = .ok (.bipush 6, 2) := by decide +kernel
theorem dX7_shout_15 : decode cX7_shout 15 = .ok (.invokestatic 59, 3) := by decide +kernel
theorem dX7_shout_18 : decode cX7_shout 18 = .ok (.ifCond .eq 13, 3) := by decide +kernel
theorem dX7_shout_21 : decode cX7_shout 21 = .ok (.iload_n 3, 1) := by decide +kernel
theorem dX7_shout_22 : decode cX7_shout 22 = .ok (.iconst 0, 1) := by decide +kernel
theorem dX7_shout_23 : decode cX7_shout 23 = .ok (.bipush 10, 2) := by decide +kernel
theorem dX7_shout_25 : decode cX7_shout 25 = .ok (.invokestatic 59, 3) := by decide +kernel
theorem dX7_shout_28 : decode cX7_shout 28 = .ok (.ifCond .ne 8, 3) := by decide +kernel
theorem dX7_shout_31 : decode cX7_shout 31 = .ok (.aload_n 0, 1) := by decide +kernel
theorem dX7_shout_32 : decode cX7_shout 32 = .ok (.invokevirtual 63, 3) := by decide +kernel
theorem dX7_shout_35 : decode cX7_shout 35 = .ok (.ireturn, 1) := by decide +kernel
theorem dX7_shout_36 : decode cX7_shout 36 = .ok (.aload_n 0, 1) := by decide +kernel
theorem dX7_shout_37 : decode cX7_shout 37 = .ok (.getfield 12, 3) := by decide +kernel
theorem dX7_shout_40 : decode cX7_shout 40 = .ok (.getfield 117, 3) := by decide +kernel
theorem dX7_shout_43 : decode cX7_shout 43 = .ok (.iload_n 1, 1) := by decide +kernel
theorem dX7_shout_44 : decode cX7_shout 44 = .ok (.invokevirtual 158, 3) := by decide +kernel
theorem dX7_shout_47 : decode cX7_shout 47 = .ok (.ifCond .ne 8, 3) := by decide +kernel
theorem dX7_shout_50 : decode cX7_shout 50 = .ok (.aload_n 0, 1) := by decide +kernel
theorem dX7_shout_51 : decode cX7_shout 51 = .ok (.invokevirtual 111, 3) := by decide +kernel
theorem dX7_shout_54 : decode cX7_shout 54 = .ok (.ireturn, 1) := by decide +kernel
theorem dX7_shout_55 : decode cX7_shout 55 = .ok (.lconst 1, 1) := by decide +kernel
theorem dX7_shout_56 : decode cX7_shout 56 = .ok (.lstore 4, 2) := by decide +kernel
theorem dX7_shout_58 : decode cX7_shout 58 = .ok (.lconst 1, 1) := by decide +kernel
theorem dX7_shout_59 : decode cX7_shout 59 = .ok (.lstore 6, 2) := by decide +kernel
theorem dX7_shout_61 : decode cX7_shout 61 = .ok (.iconst 0, 1) := by decide +kernel
theorem dX7_shout_62 : decode cX7_shout 62 = .ok (.istore 8, 2) := by decide +kernel
theorem dX7_shout_64 : decode cX7_shout 64 = .ok (.iload 8, 2) := by decide +kernel
theorem dX7_shout_66 : decode cX7_shout 66 = .ok (.iload_n 2, 1) := by decide +kernel
theorem dX7_shout_67 : decode cX7_shout 67 = .ok (.if_icmp .ge 34, 3) := by decide +kernel
theorem dX7_shout_70 : decode cX7_shout 70 = .ok (.lload 4, 2) := by decide +kernel
theorem dX7_shout_72 : decode cX7_shout 72 = .ok (.aload_n 0, 1) := by decide +kernel
theorem dX7_shout_73 : decode cX7_shout 73 = .ok (.getfield 12, 3) := by decide +kernel
theorem dX7_shout_76 : decode cX7_shout 76 = .ok (.iload_n 1, 1) := by decide +kernel
theorem dX7_shout_77 : decode cX7_shout 77 = .ok (.iload 8, 2) := by decide +kernel
theorem dX7_shout_79 : decode cX7_shout 79 = .ok (.iload_n 3, 1) := by decide +kernel
theorem dX7_shout_80 : decode cX7_shout 80 = .ok (.invokevirtual 261, 3) := by decide +kernel
theorem dX7_shout_83 : decode cX7_shout 83 = .ok (.i2l, 1) := by decide +kernel
theorem dX7_shout_84 : decode cX7_shout 84 = .ok (.lmul, 1) := by decide +kernel
theorem dX7_shout_85 : decode cX7_shout 85 = .ok (.lstore 4, 2) := by decide +kernel
theorem dX7_shout_87 : decode cX7_shout 87 = .ok (.lload 6, 2) := by decide +kernel
theorem dX7_shout_89 : decode cX7_shout 89 = .ok (.ldc2_w 264, 3) := by decide +kernel
theorem dX7_shout_92 : decode cX7_shout 92 = .ok (.lmul, 1) := by decide +kernel
theorem dX7_shout_93 : decode cX7_shout 93 = .ok (.lstore 6, 2) := by decide +kernel
theorem dX7_shout_95 : decode cX7_shout 95 = .ok (.iinc 8 1, 3) := by decide +kernel
theorem dX7_shout_98 : decode cX7_shout 98 = .ok (.goto (-34), 3) := by decide +kernel
theorem dX7_shout_101 : decode cX7_shout 101 = .ok (.aload_n 0, 1) := by decide +kernel
theorem dX7_shout_102 : decode cX7_shout 102 = .ok (.lload 4, 2) := by decide +kernel
theorem dX7_shout_104 : decode cX7_shout 104 = .ok (.lload 6, 2) := by decide +kernel
theorem dX7_shout_106 : decode cX7_shout 106 = .ok (.invokevirtual 266, 3) := by decide +kernel
theorem dX7_shout_109 : decode cX7_shout 109 = .ok (.iconst 1, 1) := by decide +kernel
theorem dX7_shout_110 : decode cX7_shout 110 = .ok (.ireturn, 1) := by decide +kernel
theorem dX7_centuries_0 : decode cX7_centuries 0 = .ok (.iload_n 1, 1) := by decide +kernel
theorem dX7_centuries_1 : decode cX7_centuries 1 = .ok (.iconst 0, 1) := by decide +kernel
theorem dX7_centuries_2 : decode cX7_centuries 2 = .ok (.ldc_w 270, 3) := by decide +kernel
theorem dX7_centuries_5 : decode cX7_centuries 5 = .ok (.invokestatic 59, 3) := by decide +kernel
theorem dX7_centuries_8 : decode cX7_centuries 8 = .ok (.ifCond .eq 13, 3) := by decide +kernel
theorem dX7_centuries_11 : decode cX7_centuries 11 = .ok (.iload_n 2, 1) := by decide +kernel
theorem dX7_centuries_12 : decode cX7_centuries 12 = .ok (.iconst 0, 1) := by decide +kernel
theorem dX7_centuries_13 : decode cX7_centuries 13 = .ok (.bipush 60, 2) := by decide +kernel
theorem dX7_centuries_15 : decode cX7_centuries 15 = .ok (.invokestatic 59, 3) := by decide +kernel
theorem dX7_centuries_18 : decode cX7_centuries 18 = .ok (.ifCond .ne 8, 3) := by decide +kernel
theorem dX7_centuries_21 : decode cX7_centuries 21 = .ok (.aload_n 0, 1) := by decide +kernel
theorem dX7_centuries_22 : decode cX7_centuries 22 = .ok (.invokevirtual 63, 3) := by decide +kernel
theorem dX7_centuries_25 : decode cX7_centuries 25 = .ok (.ireturn, 1) := by decide +kernel
theorem dX7_centuries_26 : decode cX7_centuries 26 = .ok (.aload_n 0, 1) := by decide +kernel
theorem dX7_centuries_27 : decode cX7_centuries 27 = .ok (.getfield 44, 3) := by decide +kernel
theorem dX7_centuries_30 : decode cX7_centuries 30 = .ok (.aload_n 0, 1) := by decide +kernel
theorem dX7_centuries_31 : decode cX7_centuries 31 = .ok (.getfield 12, 3) := by decide +kernel
theorem dX7_centuries_34 : decode cX7_centuries 34 = .ok (.getfield 117, 3) := by decide +kernel
theorem dX7_centuries_37 : decode cX7_centuries 37 = .ok (.invokevirtual 165, 3) := by decide +kernel
theorem dX7_centuries_40 : decode cX7_centuries 40 = .ok (.iload_n 1, 1) := by decide +kernel
theorem dX7_centuries_41 : decode cX7_centuries 41 = .ok (.i2l, 1) := by decide +kernel
theorem dX7_centuries_42 : decode cX7_centuries 42 = .ok (.lstore_n 3, 1) := by decide +kernel
theorem dX7_centuries_43 : decode cX7_centuries 43 = .ok (.iconst 0, 1) := by decide +kernel
theorem dX7_centuries_44 : decode cX7_centuries 44 = .ok (.istore 5, 2) := by decide +kernel
theorem dX7_centuries_46 : decode cX7_centuries 46 = .ok (.iload 5, 2) := by decide +kernel
theorem dX7_centuries_48 : decode cX7_centuries 48 = .ok (.iload_n 2, 1) := by decide +kernel
theorem dX7_centuries_49 : decode cX7_centuries 49 = .ok (.if_icmp .ge 77, 3) := by decide +kernel
theorem dX7_centuries_52 : decode cX7_centuries 52 = .ok (.lload_n 3, 1) := by decide +kernel
theorem dX7_centuries_53 : decode cX7_centuries 53 = .ok (.ldc2_w 271, 3) := by decide +kernel
theorem dX7_centuries_56 : decode cX7_centuries 56 = .ok (.lmul, 1) := by decide +kernel
theorem dX7_centuries_57 : decode cX7_centuries 57 = .ok (.ldc2_w 273, 3) := by decide +kernel
theorem dX7_centuries_60 : decode cX7_centuries 60 = .ok (.ladd, 1) := by decide +kernel
theorem dX7_centuries_61 : decode cX7_centuries 61 = .ok (.ldc2_w 275, 3) := by decide +kernel
theorem dX7_centuries_64 : decode cX7_centuries 64 = .ok (.lrem, 1) := by decide +kernel
theorem dX7_centuries_65 : decode cX7_centuries 65 = .ok (.lstore_n 3, 1) := by decide +kernel
theorem dX7_centuries_66 : decode cX7_centuries 66 = .ok (.lload_n 3, 1) := by decide +kernel
theorem dX7_centuries_67 : decode cX7_centuries 67 = .ok (.ldc2_w 277, 3) := by decide +kernel
theorem dX7_centuries_70 : decode cX7_centuries 70 = .ok (.ldiv, 1) := by decide +kernel
theorem dX7_centuries_71 : decode cX7_centuries 71 = .ok (.ldc2_w 279, 3) := by decide +kernel
theorem dX7_centuries_74 : decode cX7_centuries 74 = .ok (.lrem, 1) := by decide +kernel
theorem dX7_centuries_75 : decode cX7_centuries 75 = .ok (.l2i, 1) := by decide +kernel
theorem dX7_centuries_76 : decode cX7_centuries 76 = .ok (.istore 6, 2) := by decide +kernel
theorem dX7_centuries_78 : decode cX7_centuries 78 = .ok (.lload_n 3, 1) := by decide +kernel
theorem dX7_centuries_79 : decode cX7_centuries 79 = .ok (.ldc2_w 281, 3) := by decide +kernel
theorem dX7_centuries_82 : decode cX7_centuries 82 = .ok (.ldiv, 1) := by decide +kernel
theorem dX7_centuries_83 : decode cX7_centuries 83 = .ok (.ldc2_w 279, 3) := by decide +kernel
theorem dX7_centuries_86 : decode cX7_centuries 86 = .ok (.lrem, 1) := by decide +kernel
theorem dX7_centuries_87 : decode cX7_centuries 87 = .ok (.l2i, 1) := by decide +kernel
theorem dX7_centuries_88 : decode cX7_centuries 88 = .ok (.istore 7, 2) := by decide +kernel
theorem dX7_centuries_90 : decode cX7_centuries 90 = .ok (.aload_n 0, 1) := by decide +kernel
theorem dX7_centuries_91 : decode cX7_centuries 91 = .ok (.getfield 12, 3) := by decide +kernel
theorem dX7_centuries_94 : decode cX7_centuries 94 = .ok (.aload_n 0, 1) := by decide +kernel
theorem dX7_centuries_95 : decode cX7_centuries 95 = .ok (.getfield 44, 3) := by decide +kernel
theorem dX7_centuries_98 : decode cX7_centuries 98 = .ok (.iload 6, 2) := by decide +kernel
theorem dX7_centuries_100 : decode cX7_centuries 100 = .ok (.iload 7, 2) := by decide +kernel
theorem dX7_centuries_102 : decode cX7_centuries 102 = .ok (.invokevirtual 283, 3) := by decide +kernel
theorem dX7_centuries_105 : decode cX7_centuries 105 = .ok (.aload_n 0, 1) := by decide +kernel
theorem dX7_centuries_106 : decode cX7_centuries 106 = .ok (.getfield 12, 3) := by decide +kernel
theorem dX7_centuries_109 : decode cX7_centuries 109 = .ok (.aload_n 0, 1) := by decide +kernel
theorem dX7_centuries_110 : decode cX7_centuries 110 = .ok (.getfield 44, 3) := by decide +kernel
theorem dX7_centuries_113 : decode cX7_centuries 113 = .ok (.iconst 1, 1) := by decide +kernel
theorem dX7_centuries_114 : decode cX7_centuries 114 = .ok (.sipush 1059, 3) := by decide +kernel
theorem dX7_centuries_117 : decode cX7_centuries 117 = .ok (.invokevirtual 130, 3) := by decide +kernel
theorem dX7_centuries_120 : decode cX7_centuries 120 = .ok (.iinc 5 1, 3) := by decide +kernel
theorem dX7_centuries_123 : decode cX7_centuries 123 = .ok (.goto (-77), 3) := by decide +kernel
theorem dX7_centuries_126 : decode cX7_centuries 126 = .ok (.aload_n 0, 1) := by decide +kernel
theorem dX7_centuries_127 : decode cX7_centuries 127 = .ok (.getfield 44, 3) := by decide +kernel
theorem dX7_centuries_130 : decode cX7_centuries 130 = .ok (.invokevirtual 134, 3) := by decide +kernel
theorem dX7_centuries_133 : decode cX7_centuries 133 = .ok (.ireturn, 1) := by decide +kernel
theorem dX7_part_0 : decode cX7_part 0 = .ok (.iload_n 1, 1) := by decide +kernel
theorem dX7_part_1 : decode cX7_part 1 = .ok (.iconst 0, 1) := by decide +kernel
theorem dX7_part_2 : decode cX7_part 2 = .ok (.iconst 1, 1) := by decide +kernel
theorem dX7_part_3 : decode cX7_part 3 = .ok (.invokestatic 59, 3) := by decide +kernel
theorem dX7_part_6 : decode cX7_part 6 = .ok (.ifCond .ne 9, 3) := by decide +kernel
theorem dX7_part_9 : decode cX7_part 9 = .ok (.aload_n 0, 1) := by decide +kernel
theorem dX7_part_10 : decode cX7_part 10 = .ok (.invokevirtual 63, 3) := by decide +kernel
theorem dX7_part_13 : decode cX7_part 13 = .ok (.i2l, 1) := by decide +kernel
theorem dX7_part_14 : decode cX7_part 14 = .ok (.lreturn, 1) := by decide +kernel
theorem dX7_part_15 : decode cX7_part 15 = .ok (.iload_n 1, 1) := by decide +kernel
theorem dX7_part_16 : decode cX7_part 16 = .ok (.ifCond .ne 10, 3) := by decide +kernel
theorem dX7_part_19 : decode cX7_part 19 = .ok (.aload_n 0, 1) := by decide +kernel
theorem dX7_part_20 : decode cX7_part 20 = .ok (.getfield 286, 3) := by decide +kernel
theorem dX7_part_23 : decode cX7_part 23 = .ok (.goto 7, 3) := by decide +kernel
theorem dX7_part_26 : decode cX7_part 26 = .ok (.aload_n 0, 1) := by decide +kernel
theorem dX7_part_27 : decode cX7_part 27 = .ok (.getfield 48, 3) := by decide +kernel
theorem dX7_part_30 : decode cX7_part 30 = .ok (.lreturn, 1) := by decide +kernel
theorem dX7_image_0 : decode cX7_image 0 = .ok (.iload_n 1, 1) := by decide +kernel
theorem dX7_image_1 : decode cX7_image 1 = .ok (.iconst 0, 1) := by decide +kernel
theorem dX7_image_2 : decode cX7_image 2 = .ok (.iconst 1, 1) := by decide +kernel
theorem dX7_image_3 : decode cX7_image 3 = .ok (.invokestatic 59, 3) := by decide +kernel
theorem dX7_image_6 : decode cX7_image 6 = .ok (.ifCond .ne 8, 3) := by decide +kernel
theorem dX7_image_9 : decode cX7_image 9 = .ok (.aload_n 0, 1) := by decide +kernel
theorem dX7_image_10 : decode cX7_image 10 = .ok (.invokevirtual 63, 3) := by decide +kernel
theorem dX7_image_13 : decode cX7_image 13 = .ok (.ireturn, 1) := by decide +kernel
theorem dX7_image_14 : decode cX7_image 14 = .ok (.aload_n 0, 1) := by decide +kernel
theorem dX7_image_15 : decode cX7_image 15 = .ok (.getfield 23, 3) := by decide +kernel
theorem dX7_image_18 : decode cX7_image 18 = .ok (.iload_n 1, 1) := by decide +kernel
theorem dX7_image_19 : decode cX7_image 19 = .ok (.aaload, 1) := by decide +kernel
theorem dX7_image_20 : decode cX7_image 20 = .ok (.aload_n 0, 1) := by decide +kernel
theorem dX7_image_21 : decode cX7_image 21 = .ok (.getfield 12, 3) := by decide +kernel
theorem dX7_image_24 : decode cX7_image 24 = .ok (.invokevirtual 94, 3) := by decide +kernel
theorem dX7_image_27 : decode cX7_image 27 = .ok (.aload_n 0, 1) := by decide +kernel
theorem dX7_image_28 : decode cX7_image 28 = .ok (.dup, 1) := by decide +kernel
theorem dX7_image_29 : decode cX7_image 29 = .ok (.getfield 289, 3) := by decide +kernel
theorem dX7_image_32 : decode cX7_image 32 = .ok (.iconst 1, 1) := by decide +kernel
theorem dX7_image_33 : decode cX7_image 33 = .ok (.iload_n 1, 1) := by decide +kernel
theorem dX7_image_34 : decode cX7_image 34 = .ok (.ishl, 1) := by decide +kernel
theorem dX7_image_35 : decode cX7_image 35 = .ok (.ior, 1) := by decide +kernel
theorem dX7_image_36 : decode cX7_image 36 = .ok (.putfield 289, 3) := by decide +kernel
theorem dX7_image_39 : decode cX7_image 39 = .ok (.iconst 1, 1) := by decide +kernel
theorem dX7_image_40 : decode cX7_image 40 = .ok (.ireturn, 1) := by decide +kernel
theorem dX7_from_0 : decode cX7_from 0 = .ok (.iload_n 1, 1) := by decide +kernel
theorem dX7_from_1 : decode cX7_from 1 = .ok (.iconst 0, 1) := by decide +kernel
theorem dX7_from_2 : decode cX7_from 2 = .ok (.iconst 1, 1) := by decide +kernel
theorem dX7_from_3 : decode cX7_from 3 = .ok (.invokestatic 59, 3) := by decide +kernel
theorem dX7_from_6 : decode cX7_from 6 = .ok (.ifCond .ne 8, 3) := by decide +kernel
theorem dX7_from_9 : decode cX7_from 9 = .ok (.aload_n 0, 1) := by decide +kernel
theorem dX7_from_10 : decode cX7_from 10 = .ok (.invokevirtual 63, 3) := by decide +kernel
theorem dX7_from_13 : decode cX7_from 13 = .ok (.ireturn, 1) := by decide +kernel
theorem dX7_from_14 : decode cX7_from 14 = .ok (.aload_n 0, 1) := by decide +kernel
theorem dX7_from_15 : decode cX7_from 15 = .ok (.getfield 289, 3) := by decide +kernel
theorem dX7_from_18 : decode cX7_from 18 = .ok (.iload_n 1, 1) := by decide +kernel
theorem dX7_from_19 : decode cX7_from 19 = .ok (.ishr, 1) := by decide +kernel
theorem dX7_from_20 : decode cX7_from 20 = .ok (.iconst 1, 1) := by decide +kernel
theorem dX7_from_21 : decode cX7_from 21 = .ok (.iand, 1) := by decide +kernel
theorem dX7_from_22 : decode cX7_from 22 = .ok (.ifCond .ne 8, 3) := by decide +kernel
theorem dX7_from_25 : decode cX7_from 25 = .ok (.aload_n 0, 1) := by decide +kernel
theorem dX7_from_26 : decode cX7_from 26 = .ok (.invokevirtual 111, 3) := by decide +kernel
theorem dX7_from_29 : decode cX7_from 29 = .ok (.ireturn, 1) := by decide +kernel
theorem dX7_from_30 : decode cX7_from 30 = .ok (.aload_n 0, 1) := by decide +kernel
theorem dX7_from_31 : decode cX7_from 31 = .ok (.getfield 12, 3) := by decide +kernel
theorem dX7_from_34 : decode cX7_from 34 = .ok (.aload_n 0, 1) := by decide +kernel
theorem dX7_from_35 : decode cX7_from 35 = .ok (.getfield 23, 3) := by decide +kernel
theorem dX7_from_38 : decode cX7_from 38 = .ok (.iload_n 1, 1) := by decide +kernel
theorem dX7_from_39 : decode cX7_from 39 = .ok (.aaload, 1) := by decide +kernel
theorem dX7_from_40 : decode cX7_from 40 = .ok (.invokevirtual 94, 3) := by decide +kernel
theorem dX7_from_43 : decode cX7_from 43 = .ok (.iconst 1, 1) := by decide +kernel
theorem dX7_from_44 : decode cX7_from 44 = .ok (.ireturn, 1) := by decide +kernel
theorem dX7_status_0 : decode cX7_status 0 = .ok (.iload_n 1, 1) := by decide +kernel
theorem dX7_status_1 : decode cX7_status 1 = .ok (.tableswitch 42 0 2 #[27, 32, 37], 27) := by decide +kernel
theorem dX7_status_28 : decode cX7_status 28 = .ok (.aload_n 0, 1) := by decide +kernel
theorem dX7_status_29 : decode cX7_status 29 = .ok (.getfield 292, 3) := by decide +kernel
theorem dX7_status_32 : decode cX7_status 32 = .ok (.ireturn, 1) := by decide +kernel
theorem dX7_status_33 : decode cX7_status 33 = .ok (.aload_n 0, 1) := by decide +kernel
theorem dX7_status_34 : decode cX7_status 34 = .ok (.getfield 295, 3) := by decide +kernel
theorem dX7_status_37 : decode cX7_status 37 = .ok (.ireturn, 1) := by decide +kernel
theorem dX7_status_38 : decode cX7_status 38 = .ok (.aload_n 0, 1) := by decide +kernel
theorem dX7_status_39 : decode cX7_status 39 = .ok (.getfield 298, 3) := by decide +kernel
theorem dX7_status_42 : decode cX7_status 42 = .ok (.ireturn, 1) := by decide +kernel
theorem dX7_status_43 : decode cX7_status 43 = .ok (.aload_n 0, 1) := by decide +kernel
theorem dX7_status_44 : decode cX7_status 44 = .ok (.invokevirtual 63, 3) := by decide +kernel
theorem dX7_status_47 : decode cX7_status 47 = .ok (.pop, 1) := by decide +kernel
theorem dX7_status_48 : decode cX7_status 48 = .ok (.iconst (-1), 1) := by decide +kernel
theorem dX7_status_49 : decode cX7_status 49 = .ok (.ireturn, 1) := by decide +kernel
theorem dX7_count_0 : decode cX7_count 0 = .ok (.iload_n 1, 1) := by decide +kernel
theorem dX7_count_1 : decode cX7_count 1 = .ok (.iconst 0, 1) := by decide +kernel
theorem dX7_count_2 : decode cX7_count 2 = .ok (.bipush 9, 2) := by decide +kernel
theorem dX7_count_4 : decode cX7_count 4 = .ok (.invokestatic 59, 3) := by decide +kernel
theorem dX7_count_7 : decode cX7_count 7 = .ok (.ifCond .eq 11, 3) := by decide +kernel
theorem dX7_count_10 : decode cX7_count 10 = .ok (.aload_n 0, 1) := by decide +kernel
theorem dX7_count_11 : decode cX7_count 11 = .ok (.iload_n 1, 1) := by decide +kernel
theorem dX7_count_12 : decode cX7_count 12 = .ok (.invokevirtual 301, 3) := by decide +kernel
theorem dX7_count_15 : decode cX7_count 15 = .ok (.goto 7, 3) := by decide +kernel
theorem dX7_count_18 : decode cX7_count 18 = .ok (.aload_n 0, 1) := by decide +kernel
theorem dX7_count_19 : decode cX7_count 19 = .ok (.invokevirtual 63, 3) := by decide +kernel
theorem dX7_count_22 : decode cX7_count 22 = .ok (.ireturn, 1) := by decide +kernel
theorem dX7_digest_0 : decode cX7_digest 0 = .ok (.ldc2_w 304, 3) := by decide +kernel
theorem dX7_digest_3 : decode cX7_digest 3 = .ok (.lstore_n 1, 1) := by decide +kernel
theorem dX7_digest_4 : decode cX7_digest 4 = .ok (.iconst 0, 1) := by decide +kernel
theorem dX7_digest_5 : decode cX7_digest 5 = .ok (.istore_n 3, 1) := by decide +kernel
theorem dX7_digest_6 : decode cX7_digest 6 = .ok (.iload_n 3, 1) := by decide +kernel
theorem dX7_digest_7 : decode cX7_digest 7 = .ok (.bipush 10, 2) := by decide +kernel
theorem dX7_digest_9 : decode cX7_digest 9 = .ok (.if_icmp .ge 22, 3) := by decide +kernel
theorem dX7_digest_12 : decode cX7_digest 12 = .ok (.ldc2_w 306, 3) := by decide +kernel
theorem dX7_digest_15 : decode cX7_digest 15 = .ok (.lload_n 1, 1) := by decide +kernel
theorem dX7_digest_16 : decode cX7_digest 16 = .ok (.lmul, 1) := by decide +kernel
theorem dX7_digest_17 : decode cX7_digest 17 = .ok (.aload_n 0, 1) := by decide +kernel
theorem dX7_digest_18 : decode cX7_digest 18 = .ok (.iload_n 3, 1) := by decide +kernel
theorem dX7_digest_19 : decode cX7_digest 19 = .ok (.invokevirtual 301, 3) := by decide +kernel
theorem dX7_digest_22 : decode cX7_digest 22 = .ok (.i2l, 1) := by decide +kernel
theorem dX7_digest_23 : decode cX7_digest 23 = .ok (.ladd, 1) := by decide +kernel
theorem dX7_digest_24 : decode cX7_digest 24 = .ok (.lstore_n 1, 1) := by decide +kernel
theorem dX7_digest_25 : decode cX7_digest 25 = .ok (.iinc 3 1, 3) := by decide +kernel
theorem dX7_digest_28 : decode cX7_digest 28 = .ok (.goto (-22), 3) := by decide +kernel
theorem dX7_digest_31 : decode cX7_digest 31 = .ok (.aload_n 0, 1) := by decide +kernel
theorem dX7_digest_32 : decode cX7_digest 32 = .ok (.getfield 12, 3) := by decide +kernel
theorem dX7_digest_35 : decode cX7_digest 35 = .ok (.lload_n 1, 1) := by decide +kernel
theorem dX7_digest_36 : decode cX7_digest 36 = .ok (.invokevirtual 308, 3) := by decide +kernel
theorem dX7_digest_39 : decode cX7_digest 39 = .ok (.lstore_n 1, 1) := by decide +kernel
theorem dX7_digest_40 : decode cX7_digest 40 = .ok (.ldc2_w 306, 3) := by decide +kernel
theorem dX7_digest_43 : decode cX7_digest 43 = .ok (.lload_n 1, 1) := by decide +kernel
theorem dX7_digest_44 : decode cX7_digest 44 = .ok (.lmul, 1) := by decide +kernel
theorem dX7_digest_45 : decode cX7_digest 45 = .ok (.aload_n 0, 1) := by decide +kernel
theorem dX7_digest_46 : decode cX7_digest 46 = .ok (.getfield 286, 3) := by decide +kernel
theorem dX7_digest_49 : decode cX7_digest 49 = .ok (.ladd, 1) := by decide +kernel
theorem dX7_digest_50 : decode cX7_digest 50 = .ok (.lstore_n 1, 1) := by decide +kernel
theorem dX7_digest_51 : decode cX7_digest 51 = .ok (.ldc2_w 306, 3) := by decide +kernel
theorem dX7_digest_54 : decode cX7_digest 54 = .ok (.lload_n 1, 1) := by decide +kernel
theorem dX7_digest_55 : decode cX7_digest 55 = .ok (.lmul, 1) := by decide +kernel
theorem dX7_digest_56 : decode cX7_digest 56 = .ok (.aload_n 0, 1) := by decide +kernel
theorem dX7_digest_57 : decode cX7_digest 57 = .ok (.getfield 48, 3) := by decide +kernel
theorem dX7_digest_60 : decode cX7_digest 60 = .ok (.ladd, 1) := by decide +kernel
theorem dX7_digest_61 : decode cX7_digest 61 = .ok (.lreturn, 1) := by decide +kernel
theorem dX7_howMany_0 : decode cX7_howMany 0 = .ok (.iload_n 1, 1) := by decide +kernel
theorem dX7_howMany_1 : decode cX7_howMany 1 = .ok (.tableswitch 138 0 8 #[51, 59, 70, 78, 86, 97, 108, 119, 130], 51) := by decide +kernel
theorem dX7_howMany_52 : decode cX7_howMany 52 = .ok (.aload_n 0, 1) := by decide +kernel
theorem dX7_howMany_53 : decode cX7_howMany 53 = .ok (.getfield 12, 3) := by decide +kernel
theorem dX7_howMany_56 : decode cX7_howMany 56 = .ok (.getfield 52, 3) := by decide +kernel
theorem dX7_howMany_59 : decode cX7_howMany 59 = .ok (.ireturn, 1) := by decide +kernel
theorem dX7_howMany_60 : decode cX7_howMany 60 = .ok (.aload_n 0, 1) := by decide +kernel
theorem dX7_howMany_61 : decode cX7_howMany 61 = .ok (.getfield 12, 3) := by decide +kernel
theorem dX7_howMany_64 : decode cX7_howMany 64 = .ok (.getfield 117, 3) := by decide +kernel
theorem dX7_howMany_67 : decode cX7_howMany 67 = .ok (.invokevirtual 134, 3) := by decide +kernel
theorem dX7_howMany_70 : decode cX7_howMany 70 = .ok (.ireturn, 1) := by decide +kernel
theorem dX7_howMany_71 : decode cX7_howMany 71 = .ok (.aload_n 0, 1) := by decide +kernel
theorem dX7_howMany_72 : decode cX7_howMany 72 = .ok (.getfield 12, 3) := by decide +kernel
theorem dX7_howMany_75 : decode cX7_howMany 75 = .ok (.getfield 67, 3) := by decide +kernel
theorem dX7_howMany_78 : decode cX7_howMany 78 = .ok (.ireturn, 1) := by decide +kernel
theorem dX7_howMany_79 : decode cX7_howMany 79 = .ok (.aload_n 0, 1) := by decide +kernel
theorem dX7_howMany_80 : decode cX7_howMany 80 = .ok (.getfield 12, 3) := by decide +kernel
theorem dX7_howMany_83 : decode cX7_howMany 83 = .ok (.invokevirtual 312, 3) := by decide +kernel
theorem dX7_howMany_86 : decode cX7_howMany 86 = .ok (.ireturn, 1) := by decide +kernel
theorem dX7_howMany_87 : decode cX7_howMany 87 = .ok (.aload_n 0, 1) := by decide +kernel
theorem dX7_howMany_88 : decode cX7_howMany 88 = .ok (.getfield 12, 3) := by decide +kernel
theorem dX7_howMany_91 : decode cX7_howMany 91 = .ok (.getfield 117, 3) := by decide +kernel
theorem dX7_howMany_94 : decode cX7_howMany 94 = .ok (.getfield 127, 3) := by decide +kernel
theorem dX7_howMany_97 : decode cX7_howMany 97 = .ok (.ireturn, 1) := by decide +kernel
theorem dX7_howMany_98 : decode cX7_howMany 98 = .ok (.aload_n 0, 1) := by decide +kernel
theorem dX7_howMany_99 : decode cX7_howMany 99 = .ok (.getfield 12, 3) := by decide +kernel
theorem dX7_howMany_102 : decode cX7_howMany 102 = .ok (.getfield 192, 3) := by decide +kernel
theorem dX7_howMany_105 : decode cX7_howMany 105 = .ok (.getfield 315, 3) := by decide +kernel
theorem dX7_howMany_108 : decode cX7_howMany 108 = .ok (.ireturn, 1) := by decide +kernel
theorem dX7_howMany_109 : decode cX7_howMany 109 = .ok (.aload_n 0, 1) := by decide +kernel
theorem dX7_howMany_110 : decode cX7_howMany 110 = .ok (.getfield 12, 3) := by decide +kernel
theorem dX7_howMany_113 : decode cX7_howMany 113 = .ok (.getfield 230, 3) := by decide +kernel
theorem dX7_howMany_116 : decode cX7_howMany 116 = .ok (.getfield 315, 3) := by decide +kernel
theorem dX7_howMany_119 : decode cX7_howMany 119 = .ok (.ireturn, 1) := by decide +kernel
theorem dX7_howMany_120 : decode cX7_howMany 120 = .ok (.aload_n 0, 1) := by decide +kernel
theorem dX7_howMany_121 : decode cX7_howMany 121 = .ok (.getfield 12, 3) := by decide +kernel
theorem dX7_howMany_124 : decode cX7_howMany 124 = .ok (.getfield 233, 3) := by decide +kernel
theorem dX7_howMany_127 : decode cX7_howMany 127 = .ok (.getfield 315, 3) := by decide +kernel
theorem dX7_howMany_130 : decode cX7_howMany 130 = .ok (.ireturn, 1) := by decide +kernel
theorem dX7_howMany_131 : decode cX7_howMany 131 = .ok (.aload_n 0, 1) := by decide +kernel
theorem dX7_howMany_132 : decode cX7_howMany 132 = .ok (.getfield 12, 3) := by decide +kernel
theorem dX7_howMany_135 : decode cX7_howMany 135 = .ok (.getfield 137, 3) := by decide +kernel
theorem dX7_howMany_138 : decode cX7_howMany 138 = .ok (.ireturn, 1) := by decide +kernel
theorem dX7_howMany_139 : decode cX7_howMany 139 = .ok (.aload_n 0, 1) := by decide +kernel
theorem dX7_howMany_140 : decode cX7_howMany 140 = .ok (.getfield 19, 3) := by decide +kernel
theorem dX7_howMany_143 : decode cX7_howMany 143 = .ok (.getfield 81, 3) := by decide +kernel
theorem dX7_howMany_146 : decode cX7_howMany 146 = .ok (.ireturn, 1) := by decide +kernel
theorem dX7_bad_0 : decode cX7_bad 0 = .ok (.aload_n 0, 1) := by decide +kernel
theorem dX7_bad_1 : decode cX7_bad 1 = .ok (.dup, 1) := by decide +kernel
theorem dX7_bad_2 : decode cX7_bad 2 = .ok (.getfield 292, 3) := by decide +kernel
theorem dX7_bad_5 : decode cX7_bad 5 = .ok (.iconst 1, 1) := by decide +kernel
theorem dX7_bad_6 : decode cX7_bad 6 = .ok (.iadd, 1) := by decide +kernel
theorem dX7_bad_7 : decode cX7_bad 7 = .ok (.putfield 292, 3) := by decide +kernel
theorem dX7_bad_10 : decode cX7_bad 10 = .ok (.bipush (-2), 2) := by decide +kernel
theorem dX7_bad_12 : decode cX7_bad 12 = .ok (.ireturn, 1) := by decide +kernel
theorem dX7_no_0 : decode cX7_no 0 = .ok (.aload_n 0, 1) := by decide +kernel
theorem dX7_no_1 : decode cX7_no 1 = .ok (.dup, 1) := by decide +kernel
theorem dX7_no_2 : decode cX7_no 2 = .ok (.getfield 295, 3) := by decide +kernel
theorem dX7_no_5 : decode cX7_no 5 = .ok (.iconst 1, 1) := by decide +kernel
theorem dX7_no_6 : decode cX7_no 6 = .ok (.iadd, 1) := by decide +kernel
theorem dX7_no_7 : decode cX7_no 7 = .ok (.putfield 295, 3) := by decide +kernel
theorem dX7_no_10 : decode cX7_no 10 = .ok (.bipush (-3), 2) := by decide +kernel
theorem dX7_no_12 : decode cX7_no 12 = .ok (.ireturn, 1) := by decide +kernel
theorem dX7_full_0 : decode cX7_full 0 = .ok (.aload_n 0, 1) := by decide +kernel
theorem dX7_full_1 : decode cX7_full 1 = .ok (.dup, 1) := by decide +kernel
theorem dX7_full_2 : decode cX7_full 2 = .ok (.getfield 298, 3) := by decide +kernel
theorem dX7_full_5 : decode cX7_full 5 = .ok (.iconst 1, 1) := by decide +kernel
theorem dX7_full_6 : decode cX7_full 6 = .ok (.iadd, 1) := by decide +kernel
theorem dX7_full_7 : decode cX7_full 7 = .ok (.putfield 298, 3) := by decide +kernel
theorem dX7_full_10 : decode cX7_full 10 = .ok (.bipush (-4), 2) := by decide +kernel
theorem dX7_full_12 : decode cX7_full 12 = .ok (.ireturn, 1) := by decide +kernel
theorem dX7_setFraction_0 : decode cX7_setFraction 0 = .ok (.lload_n 1, 1) := by decide +kernel
theorem dX7_setFraction_1 : decode cX7_setFraction 1 = .ok (.lload_n 3, 1) := by decide +kernel
theorem dX7_setFraction_2 : decode cX7_setFraction 2 = .ok (.invokestatic 318, 3) := by decide +kernel
theorem dX7_setFraction_5 : decode cX7_setFraction 5 = .ok (.lstore 5, 2) := by decide +kernel
theorem dX7_setFraction_7 : decode cX7_setFraction 7 = .ok (.lload 5, 2) := by decide +kernel
theorem dX7_setFraction_9 : decode cX7_setFraction 9 = .ok (.lconst 0, 1) := by decide +kernel
theorem dX7_setFraction_10 : decode cX7_setFraction 10 = .ok (.lcmp, 1) := by decide +kernel
theorem dX7_setFraction_11 : decode cX7_setFraction 11 = .ok (.ifCond .le 19, 3) := by decide +kernel
theorem dX7_setFraction_14 : decode cX7_setFraction 14 = .ok (.aload_n 0, 1) := by decide +kernel
theorem dX7_setFraction_15 : decode cX7_setFraction 15 = .ok (.lload_n 1, 1) := by decide +kernel
theorem dX7_setFraction_16 : decode cX7_setFraction 16 = .ok (.lload 5, 2) := by decide +kernel
theorem dX7_setFraction_18 : decode cX7_setFraction 18 = .ok (.ldiv, 1) := by decide +kernel
theorem dX7_setFraction_19 : decode cX7_setFraction 19 = .ok (.putfield 286, 3) := by decide +kernel
theorem dX7_setFraction_22 : decode cX7_setFraction 22 = .ok (.aload_n 0, 1) := by decide +kernel
theorem dX7_setFraction_23 : decode cX7_setFraction 23 = .ok (.lload_n 3, 1) := by decide +kernel
theorem dX7_setFraction_24 : decode cX7_setFraction 24 = .ok (.lload 5, 2) := by decide +kernel
theorem dX7_setFraction_26 : decode cX7_setFraction 26 = .ok (.ldiv, 1) := by decide +kernel
theorem dX7_setFraction_27 : decode cX7_setFraction 27 = .ok (.putfield 48, 3) := by decide +kernel
theorem dX7_setFraction_30 : decode cX7_setFraction 30 = .ok (.return_, 1) := by decide +kernel
theorem dX7_commonDivisor_0 : decode cX7_commonDivisor 0 = .ok (.lload_n 0, 1) := by decide +kernel
theorem dX7_commonDivisor_1 : decode cX7_commonDivisor 1 = .ok (.lstore 4, 2) := by decide +kernel
theorem dX7_commonDivisor_3 : decode cX7_commonDivisor 3 = .ok (.lload_n 2, 1) := by decide +kernel
theorem dX7_commonDivisor_4 : decode cX7_commonDivisor 4 = .ok (.lstore 6, 2) := by decide +kernel
theorem dX7_commonDivisor_6 : decode cX7_commonDivisor 6 = .ok (.iconst 0, 1) := by decide +kernel
theorem dX7_commonDivisor_7 : decode cX7_commonDivisor 7 = .ok (.istore 8, 2) := by decide +kernel
theorem dX7_commonDivisor_9 : decode cX7_commonDivisor 9 = .ok (.iload 8, 2) := by decide +kernel
theorem dX7_commonDivisor_11 : decode cX7_commonDivisor 11 = .ok (.bipush 100, 2) := by decide +kernel
theorem dX7_commonDivisor_13 : decode cX7_commonDivisor 13 = .ok (.if_icmp .ge 31, 3) := by decide +kernel
theorem dX7_commonDivisor_16 : decode cX7_commonDivisor 16 = .ok (.lload 6, 2) := by decide +kernel
theorem dX7_commonDivisor_18 : decode cX7_commonDivisor 18 = .ok (.lconst 0, 1) := by decide +kernel
theorem dX7_commonDivisor_19 : decode cX7_commonDivisor 19 = .ok (.lcmp, 1) := by decide +kernel
theorem dX7_commonDivisor_20 : decode cX7_commonDivisor 20 = .ok (.ifCond .eq 24, 3) := by decide +kernel
theorem dX7_commonDivisor_23 : decode cX7_commonDivisor 23 = .ok (.lload 4, 2) := by decide +kernel
theorem dX7_commonDivisor_25 : decode cX7_commonDivisor 25 = .ok (.lload 6, 2) := by decide +kernel
theorem dX7_commonDivisor_27 : decode cX7_commonDivisor 27 = .ok (.lrem, 1) := by decide +kernel
theorem dX7_commonDivisor_28 : decode cX7_commonDivisor 28 = .ok (.lstore 9, 2) := by decide +kernel
theorem dX7_commonDivisor_30 : decode cX7_commonDivisor 30 = .ok (.lload 6, 2) := by decide +kernel
theorem dX7_commonDivisor_32 : decode cX7_commonDivisor 32 = .ok (.lstore 4, 2) := by decide +kernel
theorem dX7_commonDivisor_34 : decode cX7_commonDivisor 34 = .ok (.lload 9, 2) := by decide +kernel
theorem dX7_commonDivisor_36 : decode cX7_commonDivisor 36 = .ok (.lstore 6, 2) := by decide +kernel
theorem dX7_commonDivisor_38 : decode cX7_commonDivisor 38 = .ok (.iinc 8 1, 3) := by decide +kernel
theorem dX7_commonDivisor_41 : decode cX7_commonDivisor 41 = .ok (.goto (-32), 3) := by decide +kernel
theorem dX7_commonDivisor_44 : decode cX7_commonDivisor 44 = .ok (.lload 4, 2) := by decide +kernel
theorem dX7_commonDivisor_46 : decode cX7_commonDivisor 46 = .ok (.lreturn, 1) := by decide +kernel
theorem dX7_leastBit_0 : decode cX7_leastBit 0 = .ok (.iconst 0, 1) := by decide +kernel
theorem dX7_leastBit_1 : decode cX7_leastBit 1 = .ok (.istore_n 1, 1) := by decide +kernel
theorem dX7_leastBit_2 : decode cX7_leastBit 2 = .ok (.iload_n 1, 1) := by decide +kernel
theorem dX7_leastBit_3 : decode cX7_leastBit 3 = .ok (.bipush 9, 2) := by decide +kernel
theorem dX7_leastBit_5 : decode cX7_leastBit 5 = .ok (.if_icmp .gt 20, 3) := by decide +kernel
theorem dX7_leastBit_8 : decode cX7_leastBit 8 = .ok (.iload_n 0, 1) := by decide +kernel
theorem dX7_leastBit_9 : decode cX7_leastBit 9 = .ok (.iload_n 1, 1) := by decide +kernel
theorem dX7_leastBit_10 : decode cX7_leastBit 10 = .ok (.ishr, 1) := by decide +kernel
theorem dX7_leastBit_11 : decode cX7_leastBit 11 = .ok (.iconst 1, 1) := by decide +kernel
theorem dX7_leastBit_12 : decode cX7_leastBit 12 = .ok (.iand, 1) := by decide +kernel
theorem dX7_leastBit_13 : decode cX7_leastBit 13 = .ok (.iconst 1, 1) := by decide +kernel
theorem dX7_leastBit_14 : decode cX7_leastBit 14 = .ok (.if_icmp .ne 5, 3) := by decide +kernel
theorem dX7_leastBit_17 : decode cX7_leastBit 17 = .ok (.iload_n 1, 1) := by decide +kernel
theorem dX7_leastBit_18 : decode cX7_leastBit 18 = .ok (.ireturn, 1) := by decide +kernel
theorem dX7_leastBit_19 : decode cX7_leastBit 19 = .ok (.iinc 1 1, 3) := by decide +kernel
theorem dX7_leastBit_22 : decode cX7_leastBit 22 = .ok (.goto (-20), 3) := by decide +kernel
theorem dX7_leastBit_25 : decode cX7_leastBit 25 = .ok (.iconst (-1), 1) := by decide +kernel
theorem dX7_leastBit_26 : decode cX7_leastBit 26 = .ok (.ireturn, 1) := by decide +kernel
theorem dX7_greatestBit_0 : decode cX7_greatestBit 0 = .ok (.bipush 9, 2) := by decide +kernel
theorem dX7_greatestBit_2 : decode cX7_greatestBit 2 = .ok (.istore_n 1, 1) := by decide +kernel
theorem dX7_greatestBit_3 : decode cX7_greatestBit 3 = .ok (.iload_n 1, 1) := by decide +kernel
theorem dX7_greatestBit_4 : decode cX7_greatestBit 4 = .ok (.ifCond .lt 20, 3) := by decide +kernel
theorem dX7_greatestBit_7 : decode cX7_greatestBit 7 = .ok (.iload_n 0, 1) := by decide +kernel
theorem dX7_greatestBit_8 : decode cX7_greatestBit 8 = .ok (.iload_n 1, 1) := by decide +kernel
theorem dX7_greatestBit_9 : decode cX7_greatestBit 9 = .ok (.ishr, 1) := by decide +kernel
theorem dX7_greatestBit_10 : decode cX7_greatestBit 10 = .ok (.iconst 1, 1) := by decide +kernel
theorem dX7_greatestBit_11 : decode cX7_greatestBit 11 = .ok (.iand, 1) := by decide +kernel
theorem dX7_greatestBit_12 : decode cX7_greatestBit 12 = .ok (.iconst 1, 1) := by decide +kernel
theorem dX7_greatestBit_13 : decode cX7_greatestBit 13 = .ok (.if_icmp .ne 5, 3) := by decide +kernel
theorem dX7_greatestBit_16 : decode cX7_greatestBit 16 = .ok (.iload_n 1, 1) := by decide +kernel
theorem dX7_greatestBit_17 : decode cX7_greatestBit 17 = .ok (.ireturn, 1) := by decide +kernel
theorem dX7_greatestBit_18 : decode cX7_greatestBit 18 = .ok (.iinc 1 (-1), 3) := by decide +kernel
theorem dX7_greatestBit_21 : decode cX7_greatestBit 21 = .ok (.goto (-18), 3) := by decide +kernel
theorem dX7_greatestBit_24 : decode cX7_greatestBit 24 = .ok (.iconst (-1), 1) := by decide +kernel
theorem dX7_greatestBit_25 : decode cX7_greatestBit 25 = .ok (.ireturn, 1) := by decide +kernel
theorem dX7_isWithin_0 : decode cX7_isWithin 0 = .ok (.iload_n 0, 1) := by decide +kernel
theorem dX7_isWithin_1 : decode cX7_isWithin 1 = .ok (.iload_n 1, 1) := by decide +kernel
theorem dX7_isWithin_2 : decode cX7_isWithin 2 = .ok (.if_icmp .lt 12, 3) := by decide +kernel
theorem dX7_isWithin_5 : decode cX7_isWithin 5 = .ok (.iload_n 0, 1) := by decide +kernel
theorem dX7_isWithin_6 : decode cX7_isWithin 6 = .ok (.iload_n 2, 1) := by decide +kernel
theorem dX7_isWithin_7 : decode cX7_isWithin 7 = .ok (.if_icmp .gt 7, 3) := by decide +kernel
theorem dX7_isWithin_10 : decode cX7_isWithin 10 = .ok (.iconst 1, 1) := by decide +kernel
theorem dX7_isWithin_11 : decode cX7_isWithin 11 = .ok (.goto 4, 3) := by decide +kernel
theorem dX7_isWithin_14 : decode cX7_isWithin 14 = .ok (.iconst 0, 1) := by decide +kernel
theorem dX7_isWithin_15 : decode cX7_isWithin 15 = .ok (.ireturn, 1) := by decide +kernel
theorem dX7_isContent_0 : decode cX7_isContent 0 = .ok (.iload_n 0, 1) := by decide +kernel
theorem dX7_isContent_1 : decode cX7_isContent 1 = .ok (.iload_n 1, 1) := by decide +kernel
theorem dX7_isContent_2 : decode cX7_isContent 2 = .ok (.iload_n 2, 1) := by decide +kernel
theorem dX7_isContent_3 : decode cX7_isContent 3 = .ok (.iload_n 3, 1) := by decide +kernel
theorem dX7_isContent_4 : decode cX7_isContent 4 = .ok (.iload 4, 2) := by decide +kernel
theorem dX7_isContent_6 : decode cX7_isContent 6 = .ok (.invokestatic 322, 3) := by decide +kernel
theorem dX7_isContent_9 : decode cX7_isContent 9 = .ok (.iload_n 0, 1) := by decide +kernel
theorem dX7_isContent_10 : decode cX7_isContent 10 = .ok (.ifCond .ne 7, 3) := by decide +kernel
theorem dX7_isContent_13 : decode cX7_isContent 13 = .ok (.iconst 1, 1) := by decide +kernel
theorem dX7_isContent_14 : decode cX7_isContent 14 = .ok (.goto 4, 3) := by decide +kernel
theorem dX7_isContent_17 : decode cX7_isContent 17 = .ok (.iconst 0, 1) := by decide +kernel
theorem dX7_isContent_18 : decode cX7_isContent 18 = .ok (.iload_n 1, 1) := by decide +kernel
theorem dX7_isContent_19 : decode cX7_isContent 19 = .ok (.iload_n 2, 1) := by decide +kernel
theorem dX7_isContent_20 : decode cX7_isContent 20 = .ok (.iload_n 3, 1) := by decide +kernel
theorem dX7_isContent_21 : decode cX7_isContent 21 = .ok (.iload 4, 2) := by decide +kernel
theorem dX7_isContent_23 : decode cX7_isContent 23 = .ok (.invokestatic 322, 3) := by decide +kernel
theorem dX7_isContent_26 : decode cX7_isContent 26 = .ok (.if_icmp .lt 7, 3) := by decide +kernel
theorem dX7_isContent_29 : decode cX7_isContent 29 = .ok (.iconst 1, 1) := by decide +kernel
theorem dX7_isContent_30 : decode cX7_isContent 30 = .ok (.goto 4, 3) := by decide +kernel
theorem dX7_isContent_33 : decode cX7_isContent 33 = .ok (.iconst 0, 1) := by decide +kernel
theorem dX7_isContent_34 : decode cX7_isContent 34 = .ok (.ireturn, 1) := by decide +kernel
theorem dX7_gain_0 : decode cX7_gain 0 = .ok (.iload_n 0, 1) := by decide +kernel
theorem dX7_gain_1 : decode cX7_gain 1 = .ok (.ifCond .eq 22, 3) := by decide +kernel
theorem dX7_gain_4 : decode cX7_gain 4 = .ok (.iload_n 1, 1) := by decide +kernel
theorem dX7_gain_5 : decode cX7_gain 5 = .ok (.ifCond .eq 18, 3) := by decide +kernel
theorem dX7_gain_8 : decode cX7_gain 8 = .ok (.iload_n 2, 1) := by decide +kernel
theorem dX7_gain_9 : decode cX7_gain 9 = .ok (.iload_n 3, 1) := by decide +kernel
theorem dX7_gain_10 : decode cX7_gain 10 = .ok (.iadd, 1) := by decide +kernel
theorem dX7_gain_11 : decode cX7_gain 11 = .ok (.iload 4, 2) := by decide +kernel
theorem dX7_gain_13 : decode cX7_gain 13 = .ok (.if_icmp .lt 7, 3) := by decide +kernel
theorem dX7_gain_16 : decode cX7_gain 16 = .ok (.iconst 3, 1) := by decide +kernel
theorem dX7_gain_17 : decode cX7_gain 17 = .ok (.goto 5, 3) := by decide +kernel
theorem dX7_gain_20 : decode cX7_gain 20 = .ok (.bipush (-3), 2) := by decide +kernel
theorem dX7_gain_22 : decode cX7_gain 22 = .ok (.ireturn, 1) := by decide +kernel
theorem dX7_gain_23 : decode cX7_gain 23 = .ok (.iload_n 0, 1) := by decide +kernel
theorem dX7_gain_24 : decode cX7_gain 24 = .ok (.ifCond .eq 16, 3) := by decide +kernel
theorem dX7_gain_27 : decode cX7_gain 27 = .ok (.iload_n 2, 1) := by decide +kernel
theorem dX7_gain_28 : decode cX7_gain 28 = .ok (.iload 4, 2) := by decide +kernel
theorem dX7_gain_30 : decode cX7_gain 30 = .ok (.if_icmp .lt 7, 3) := by decide +kernel
theorem dX7_gain_33 : decode cX7_gain 33 = .ok (.iconst 5, 1) := by decide +kernel
theorem dX7_gain_34 : decode cX7_gain 34 = .ok (.goto 5, 3) := by decide +kernel
theorem dX7_gain_37 : decode cX7_gain 37 = .ok (.bipush (-2), 2) := by decide +kernel
theorem dX7_gain_39 : decode cX7_gain 39 = .ok (.ireturn, 1) := by decide +kernel
theorem dX7_gain_40 : decode cX7_gain 40 = .ok (.iload_n 1, 1) := by decide +kernel
theorem dX7_gain_41 : decode cX7_gain 41 = .ok (.ifCond .eq 13, 3) := by decide +kernel
theorem dX7_gain_44 : decode cX7_gain 44 = .ok (.iload_n 3, 1) := by decide +kernel
theorem dX7_gain_45 : decode cX7_gain 45 = .ok (.iload 4, 2) := by decide +kernel
theorem dX7_gain_47 : decode cX7_gain 47 = .ok (.if_icmp .ge 7, 3) := by decide +kernel
theorem dX7_gain_50 : decode cX7_gain 50 = .ok (.iconst 1, 1) := by decide +kernel
theorem dX7_gain_51 : decode cX7_gain 51 = .ok (.goto 4, 3) := by decide +kernel
theorem dX7_gain_54 : decode cX7_gain 54 = .ok (.iconst 0, 1) := by decide +kernel
theorem dX7_gain_55 : decode cX7_gain 55 = .ok (.ireturn, 1) := by decide +kernel
theorem dX8_init_0 : decode cX8_init 0 = .ok (.aload_n 0, 1) := by decide +kernel
theorem dX8_init_1 : decode cX8_init 1 = .ok (.invokespecial 1, 3) := by decide +kernel
theorem dX8_init_4 : decode cX8_init 4 = .ok (.aload_n 0, 1) := by decide +kernel
theorem dX8_init_5 : decode cX8_init 5 = .ok (.iconst 3, 1) := by decide +kernel
theorem dX8_init_6 : decode cX8_init 6 = .ok (.newarray .int, 2) := by decide +kernel
theorem dX8_init_8 : decode cX8_init 8 = .ok (.putfield 7, 3) := by decide +kernel
theorem dX8_init_11 : decode cX8_init 11 = .ok (.aload_n 0, 1) := by decide +kernel
theorem dX8_init_12 : decode cX8_init 12 = .ok (.sipush 984, 3) := by decide +kernel
theorem dX8_init_15 : decode cX8_init 15 = .ok (.newarray .int, 2) := by decide +kernel
theorem dX8_init_17 : decode cX8_init 17 = .ok (.putfield 13, 3) := by decide +kernel
theorem dX8_init_20 : decode cX8_init 20 = .ok (.aload_n 0, 1) := by decide +kernel
theorem dX8_init_21 : decode cX8_init 21 = .ok (.iconst 2, 1) := by decide +kernel
theorem dX8_init_22 : decode cX8_init 22 = .ok (.newarray .boolean, 2) := by decide +kernel
theorem dX8_init_24 : decode cX8_init 24 = .ok (.putfield 16, 3) := by decide +kernel
theorem dX8_init_27 : decode cX8_init 27 = .ok (.aload_n 0, 1) := by decide +kernel
theorem dX8_init_28 : decode cX8_init 28 = .ok (.bipush 16, 2) := by decide +kernel
theorem dX8_init_30 : decode cX8_init 30 = .ok (.newarray .int, 2) := by decide +kernel
theorem dX8_init_32 : decode cX8_init 32 = .ok (.putfield 20, 3) := by decide +kernel
theorem dX8_init_35 : decode cX8_init 35 = .ok (.aload_n 0, 1) := by decide +kernel
theorem dX8_init_36 : decode cX8_init 36 = .ok (.sipush 150, 3) := by decide +kernel
theorem dX8_init_39 : decode cX8_init 39 = .ok (.newarray .byte, 2) := by decide +kernel
theorem dX8_init_41 : decode cX8_init 41 = .ok (.putfield 23, 3) := by decide +kernel
theorem dX8_init_44 : decode cX8_init 44 = .ok (.aload_n 0, 1) := by decide +kernel
theorem dX8_init_45 : decode cX8_init 45 = .ok (.sipush 1024, 3) := by decide +kernel
theorem dX8_init_48 : decode cX8_init 48 = .ok (.newarray .int, 2) := by decide +kernel
theorem dX8_init_50 : decode cX8_init 50 = .ok (.putfield 27, 3) := by decide +kernel
theorem dX8_init_53 : decode cX8_init 53 = .ok (.aload_n 0, 1) := by decide +kernel
theorem dX8_init_54 : decode cX8_init 54 = .ok (.sipush 1024, 3) := by decide +kernel
theorem dX8_init_57 : decode cX8_init 57 = .ok (.newarray .int, 2) := by decide +kernel
theorem dX8_init_59 : decode cX8_init 59 = .ok (.putfield 30, 3) := by decide +kernel
theorem dX8_init_62 : decode cX8_init 62 = .ok (.aload_n 0, 1) := by decide +kernel
theorem dX8_init_63 : decode cX8_init 63 = .ok (.bipush 7, 2) := by decide +kernel
theorem dX8_init_65 : decode cX8_init 65 = .ok (.newarray .int, 2) := by decide +kernel
theorem dX8_init_67 : decode cX8_init 67 = .ok (.putfield 33, 3) := by decide +kernel
theorem dX8_init_70 : decode cX8_init 70 = .ok (.aload_n 0, 1) := by decide +kernel
theorem dX8_init_71 : decode cX8_init 71 = .ok (.lconst 1, 1) := by decide +kernel
theorem dX8_init_72 : decode cX8_init 72 = .ok (.putfield 36, 3) := by decide +kernel
theorem dX8_init_75 : decode cX8_init 75 = .ok (.aload_n 0, 1) := by decide +kernel
theorem dX8_init_76 : decode cX8_init 76 = .ok (.iconst 0, 1) := by decide +kernel
theorem dX8_init_77 : decode cX8_init 77 = .ok (.invokevirtual 40, 3) := by decide +kernel
theorem dX8_init_80 : decode cX8_init 80 = .ok (.return_, 1) := by decide +kernel
theorem dX8_in_0 : decode cX8_in 0 = .ok (.iload_n 0, 1) := by decide +kernel
theorem dX8_in_1 : decode cX8_in 1 = .ok (.iload_n 1, 1) := by decide +kernel
theorem dX8_in_2 : decode cX8_in 2 = .ok (.if_icmp .lt 12, 3) := by decide +kernel
theorem dX8_in_5 : decode cX8_in 5 = .ok (.iload_n 0, 1) := by decide +kernel
theorem dX8_in_6 : decode cX8_in 6 = .ok (.iload_n 2, 1) := by decide +kernel
theorem dX8_in_7 : decode cX8_in 7 = .ok (.if_icmp .gt 7, 3) := by decide +kernel
theorem dX8_in_10 : decode cX8_in 10 = .ok (.iconst 1, 1) := by decide +kernel
theorem dX8_in_11 : decode cX8_in 11 = .ok (.goto 4, 3) := by decide +kernel
theorem dX8_in_14 : decode cX8_in 14 = .ok (.iconst 0, 1) := by decide +kernel
theorem dX8_in_15 : decode cX8_in 15 = .ok (.ireturn, 1) := by decide +kernel
theorem dX8_has_0 : decode cX8_has 0 = .ok (.iload_n 0, 1) := by decide +kernel
theorem dX8_has_1 : decode cX8_has 1 = .ok (.iload_n 1, 1) := by decide +kernel
theorem dX8_has_2 : decode cX8_has 2 = .ok (.ishr, 1) := by decide +kernel
theorem dX8_has_3 : decode cX8_has 3 = .ok (.iconst 1, 1) := by decide +kernel
theorem dX8_has_4 : decode cX8_has 4 = .ok (.iand, 1) := by decide +kernel
theorem dX8_has_5 : decode cX8_has 5 = .ok (.iconst 1, 1) := by decide +kernel
theorem dX8_has_6 : decode cX8_has 6 = .ok (.if_icmp .ne 7, 3) := by decide +kernel
theorem dX8_has_9 : decode cX8_has 9 = .ok (.iconst 1, 1) := by decide +kernel
theorem dX8_has_10 : decode cX8_has 10 = .ok (.goto 4, 3) := by decide +kernel
theorem dX8_has_13 : decode cX8_has 13 = .ok (.iconst 0, 1) := by decide +kernel
theorem dX8_has_14 : decode cX8_has 14 = .ok (.ireturn, 1) := by decide +kernel
theorem dX8_bitsOf_0 : decode cX8_bitsOf 0 = .ok (.iconst 0, 1) := by decide +kernel
theorem dX8_bitsOf_1 : decode cX8_bitsOf 1 = .ok (.istore_n 1, 1) := by decide +kernel
theorem dX8_bitsOf_2 : decode cX8_bitsOf 2 = .ok (.iconst 0, 1) := by decide +kernel
theorem dX8_bitsOf_3 : decode cX8_bitsOf 3 = .ok (.istore_n 2, 1) := by decide +kernel
theorem dX8_bitsOf_4 : decode cX8_bitsOf 4 = .ok (.iload_n 2, 1) := by decide +kernel
theorem dX8_bitsOf_5 : decode cX8_bitsOf 5 = .ok (.bipush 10, 2) := by decide +kernel
theorem dX8_bitsOf_7 : decode cX8_bitsOf 7 = .ok (.if_icmp .ge 17, 3) := by decide +kernel
theorem dX8_bitsOf_10 : decode cX8_bitsOf 10 = .ok (.iload_n 1, 1) := by decide +kernel
theorem dX8_bitsOf_11 : decode cX8_bitsOf 11 = .ok (.iload_n 0, 1) := by decide +kernel
theorem dX8_bitsOf_12 : decode cX8_bitsOf 12 = .ok (.iload_n 2, 1) := by decide +kernel
theorem dX8_bitsOf_13 : decode cX8_bitsOf 13 = .ok (.ishr, 1) := by decide +kernel
theorem dX8_bitsOf_14 : decode cX8_bitsOf 14 = .ok (.iconst 1, 1) := by decide +kernel
theorem dX8_bitsOf_15 : decode cX8_bitsOf 15 = .ok (.iand, 1) := by decide +kernel
theorem dX8_bitsOf_16 : decode cX8_bitsOf 16 = .ok (.iadd, 1) := by decide +kernel
theorem dX8_bitsOf_17 : decode cX8_bitsOf 17 = .ok (.istore_n 1, 1) := by decide +kernel
theorem dX8_bitsOf_18 : decode cX8_bitsOf 18 = .ok (.iinc 2 1, 3) := by decide +kernel
theorem dX8_bitsOf_21 : decode cX8_bitsOf 21 = .ok (.goto (-17), 3) := by decide +kernel
theorem dX8_bitsOf_24 : decode cX8_bitsOf 24 = .ok (.iload_n 1, 1) := by decide +kernel
theorem dX8_bitsOf_25 : decode cX8_bitsOf 25 = .ok (.ireturn, 1) := by decide +kernel
theorem dX8_bad_0 : decode cX8_bad 0 = .ok (.aload_n 0, 1) := by decide +kernel
theorem dX8_bad_1 : decode cX8_bad 1 = .ok (.getfield 7, 3) := by decide +kernel
theorem dX8_bad_4 : decode cX8_bad 4 = .ok (.iconst 0, 1) := by decide +kernel
theorem dX8_bad_5 : decode cX8_bad 5 = .ok (.dup2, 1) := by decide +kernel
theorem dX8_bad_6 : decode cX8_bad 6 = .ok (.iaload, 1) := by decide +kernel
theorem dX8_bad_7 : decode cX8_bad 7 = .ok (.iconst 1, 1) := by decide +kernel
theorem dX8_bad_8 : decode cX8_bad 8 = .ok (.iadd, 1) := by decide +kernel
theorem dX8_bad_9 : decode cX8_bad 9 = .ok (.iastore, 1) := by decide +kernel
theorem dX8_bad_10 : decode cX8_bad 10 = .ok (.bipush (-2), 2) := by decide +kernel
theorem dX8_bad_12 : decode cX8_bad 12 = .ok (.ireturn, 1) := by decide +kernel
theorem dX8_no_0 : decode cX8_no 0 = .ok (.aload_n 0, 1) := by decide +kernel
theorem dX8_no_1 : decode cX8_no 1 = .ok (.getfield 7, 3) := by decide +kernel
theorem dX8_no_4 : decode cX8_no 4 = .ok (.iconst 1, 1) := by decide +kernel
theorem dX8_no_5 : decode cX8_no 5 = .ok (.dup2, 1) := by decide +kernel
theorem dX8_no_6 : decode cX8_no 6 = .ok (.iaload, 1) := by decide +kernel
theorem dX8_no_7 : decode cX8_no 7 = .ok (.iconst 1, 1) := by decide +kernel
theorem dX8_no_8 : decode cX8_no 8 = .ok (.iadd, 1) := by decide +kernel
theorem dX8_no_9 : decode cX8_no 9 = .ok (.iastore, 1) := by decide +kernel
theorem dX8_no_10 : decode cX8_no 10 = .ok (.bipush (-3), 2) := by decide +kernel
theorem dX8_no_12 : decode cX8_no 12 = .ok (.ireturn, 1) := by decide +kernel
end
section
theorem dX8_full_0 : decode cX8_full 0 = .ok (.aload_n 0, 1) := by decide +kernel
theorem dX8_full_1 : decode cX8_full 1 = .ok (.getfield 7, 3) := by decide +kernel
theorem dX8_full_4 : decode cX8_full 4 = .ok (.iconst 2, 1) := by decide +kernel
theorem dX8_full_5 : decode cX8_full 5 = .ok (.dup2, 1) := by decide +kernel
theorem dX8_full_6 : decode cX8_full 6 = .ok (.iaload, 1) := by decide +kernel
theorem dX8_full_7 : decode cX8_full 7 = .ok (.iconst 1, 1) := by decide +kernel
theorem dX8_full_8 : decode cX8_full 8 = .ok (.iadd, 1) := by decide +kernel
theorem dX8_full_9 : decode cX8_full 9 = .ok (.iastore, 1) := by decide +kernel
theorem dX8_full_10 : decode cX8_full 10 = .ok (.bipush (-4), 2) := by decide +kernel
theorem dX8_full_12 : decode cX8_full 12 = .ok (.ireturn, 1) := by decide +kernel
theorem dX8_begin_0 : decode cX8_begin 0 = .ok (.iconst 0, 1) := by decide +kernel
theorem dX8_begin_1 : decode cX8_begin 1 = .ok (.istore_n 2, 1) := by decide +kernel
theorem dX8_begin_2 : decode cX8_begin 2 = .ok (.iload_n 2, 1) := by decide +kernel
theorem dX8_begin_3 : decode cX8_begin 3 = .ok (.sipush 246, 3) := by decide +kernel
theorem dX8_begin_6 : decode cX8_begin 6 = .ok (.if_icmp .ge 18, 3) := by decide +kernel
theorem dX8_begin_9 : decode cX8_begin 9 = .ok (.aload_n 0, 1) := by decide +kernel
theorem dX8_begin_10 : decode cX8_begin 10 = .ok (.getfield 13, 3) := by decide +kernel
theorem dX8_begin_13 : decode cX8_begin 13 = .ok (.iload_n 1, 1) := by decide +kernel
theorem dX8_begin_14 : decode cX8_begin 14 = .ok (.iload_n 2, 1) := by decide +kernel
theorem dX8_begin_15 : decode cX8_begin 15 = .ok (.iadd, 1) := by decide +kernel
theorem dX8_begin_16 : decode cX8_begin 16 = .ok (.iconst 0, 1) := by decide +kernel
theorem dX8_begin_17 : decode cX8_begin 17 = .ok (.iastore, 1) := by decide +kernel
theorem dX8_begin_18 : decode cX8_begin 18 = .ok (.iinc 2 1, 3) := by decide +kernel
theorem dX8_begin_21 : decode cX8_begin 21 = .ok (.goto (-19), 3) := by decide +kernel
theorem dX8_begin_24 : decode cX8_begin 24 = .ok (.iconst 0, 1) := by decide +kernel
theorem dX8_begin_25 : decode cX8_begin 25 = .ok (.istore_n 2, 1) := by decide +kernel
theorem dX8_begin_26 : decode cX8_begin 26 = .ok (.iload_n 2, 1) := by decide +kernel
theorem dX8_begin_27 : decode cX8_begin 27 = .ok (.bipush 7, 2) := by decide +kernel
theorem dX8_begin_29 : decode cX8_begin 29 = .ok (.if_icmp .ge 24, 3) := by decide +kernel
theorem dX8_begin_32 : decode cX8_begin 32 = .ok (.aload_n 0, 1) := by decide +kernel
theorem dX8_begin_33 : decode cX8_begin 33 = .ok (.getfield 13, 3) := by decide +kernel
theorem dX8_begin_36 : decode cX8_begin 36 = .ok (.iload_n 1, 1) := by decide +kernel
theorem dX8_begin_37 : decode cX8_begin 37 = .ok (.bipush 34, 2) := by decide +kernel
theorem dX8_begin_39 : decode cX8_begin 39 = .ok (.iadd, 1) := by decide +kernel
theorem dX8_begin_40 : decode cX8_begin 40 = .ok (.bipush 9, 2) := by decide +kernel
theorem dX8_begin_42 : decode cX8_begin 42 = .ok (.iadd, 1) := by decide +kernel
theorem dX8_begin_43 : decode cX8_begin 43 = .ok (.iload_n 2, 1) := by decide +kernel
theorem dX8_begin_44 : decode cX8_begin 44 = .ok (.iadd, 1) := by decide +kernel
theorem dX8_begin_45 : decode cX8_begin 45 = .ok (.iconst (-1), 1) := by decide +kernel
theorem dX8_begin_46 : decode cX8_begin 46 = .ok (.iastore, 1) := by decide +kernel
theorem dX8_begin_47 : decode cX8_begin 47 = .ok (.iinc 2 1, 3) := by decide +kernel
theorem dX8_begin_50 : decode cX8_begin 50 = .ok (.goto (-24), 3) := by decide +kernel
theorem dX8_begin_53 : decode cX8_begin 53 = .ok (.return_, 1) := by decide +kernel
theorem dX8_copyRow_0 : decode cX8_copyRow 0 = .ok (.iconst 0, 1) := by decide +kernel
theorem dX8_copyRow_1 : decode cX8_copyRow 1 = .ok (.istore_n 3, 1) := by decide +kernel
theorem dX8_copyRow_2 : decode cX8_copyRow 2 = .ok (.iload_n 3, 1) := by decide +kernel
theorem dX8_copyRow_3 : decode cX8_copyRow 3 = .ok (.sipush 246, 3) := by decide +kernel
theorem dX8_copyRow_6 : decode cX8_copyRow 6 = .ok (.if_icmp .ge 25, 3) := by decide +kernel
theorem dX8_copyRow_9 : decode cX8_copyRow 9 = .ok (.aload_n 0, 1) := by decide +kernel
theorem dX8_copyRow_10 : decode cX8_copyRow 10 = .ok (.getfield 13, 3) := by decide +kernel
theorem dX8_copyRow_13 : decode cX8_copyRow 13 = .ok (.iload_n 2, 1) := by decide +kernel
theorem dX8_copyRow_14 : decode cX8_copyRow 14 = .ok (.iload_n 3, 1) := by decide +kernel
theorem dX8_copyRow_15 : decode cX8_copyRow 15 = .ok (.iadd, 1) := by decide +kernel
theorem dX8_copyRow_16 : decode cX8_copyRow 16 = .ok (.aload_n 0, 1) := by decide +kernel
theorem dX8_copyRow_17 : decode cX8_copyRow 17 = .ok (.getfield 13, 3) := by decide +kernel
theorem dX8_copyRow_20 : decode cX8_copyRow 20 = .ok (.iload_n 1, 1) := by decide +kernel
theorem dX8_copyRow_21 : decode cX8_copyRow 21 = .ok (.iload_n 3, 1) := by decide +kernel
theorem dX8_copyRow_22 : decode cX8_copyRow 22 = .ok (.iadd, 1) := by decide +kernel
theorem dX8_copyRow_23 : decode cX8_copyRow 23 = .ok (.iaload, 1) := by decide +kernel
theorem dX8_copyRow_24 : decode cX8_copyRow 24 = .ok (.iastore, 1) := by decide +kernel
theorem dX8_copyRow_25 : decode cX8_copyRow 25 = .ok (.iinc 3 1, 3) := by decide +kernel
theorem dX8_copyRow_28 : decode cX8_copyRow 28 = .ok (.goto (-26), 3) := by decide +kernel
theorem dX8_copyRow_31 : decode cX8_copyRow 31 = .ok (.return_, 1) := by decide +kernel
theorem dX8_take_0 : decode cX8_take 0 = .ok (.iconst 0, 1) := by decide +kernel
theorem dX8_take_1 : decode cX8_take 1 = .ok (.istore_n 1, 1) := by decide +kernel
theorem dX8_take_2 : decode cX8_take 2 = .ok (.iload_n 1, 1) := by decide +kernel
theorem dX8_take_3 : decode cX8_take 3 = .ok (.bipush 16, 2) := by decide +kernel
theorem dX8_take_5 : decode cX8_take 5 = .ok (.if_icmp .ge 24, 3) := by decide +kernel
theorem dX8_take_8 : decode cX8_take 8 = .ok (.aload_n 0, 1) := by decide +kernel
theorem dX8_take_9 : decode cX8_take 9 = .ok (.getfield 20, 3) := by decide +kernel
theorem dX8_take_12 : decode cX8_take 12 = .ok (.iload_n 1, 1) := by decide +kernel
theorem dX8_take_13 : decode cX8_take 13 = .ok (.aload_n 0, 1) := by decide +kernel
theorem dX8_take_14 : decode cX8_take 14 = .ok (.getfield 13, 3) := by decide +kernel
theorem dX8_take_17 : decode cX8_take 17 = .ok (.bipush 34, 2) := by decide +kernel
theorem dX8_take_19 : decode cX8_take 19 = .ok (.iload_n 1, 1) := by decide +kernel
theorem dX8_take_20 : decode cX8_take 20 = .ok (.iadd, 1) := by decide +kernel
theorem dX8_take_21 : decode cX8_take 21 = .ok (.iaload, 1) := by decide +kernel
theorem dX8_take_22 : decode cX8_take 22 = .ok (.iastore, 1) := by decide +kernel
theorem dX8_take_23 : decode cX8_take 23 = .ok (.iinc 1 1, 3) := by decide +kernel
theorem dX8_take_26 : decode cX8_take 26 = .ok (.goto (-24), 3) := by decide +kernel
theorem dX8_take_29 : decode cX8_take 29 = .ok (.return_, 1) := by decide +kernel
theorem dX8_isThing_0 : decode cX8_isThing 0 = .ok (.iload_n 1, 1) := by decide +kernel
theorem dX8_isThing_1 : decode cX8_isThing 1 = .ok (.iconst 0, 1) := by decide +kernel
theorem dX8_isThing_2 : decode cX8_isThing 2 = .ok (.aload_n 0, 1) := by decide +kernel
theorem dX8_isThing_3 : decode cX8_isThing 3 = .ok (.getfield 13, 3) := by decide +kernel
theorem dX8_isThing_6 : decode cX8_isThing 6 = .ok (.iconst 0, 1) := by decide +kernel
theorem dX8_isThing_7 : decode cX8_isThing 7 = .ok (.iaload, 1) := by decide +kernel
theorem dX8_isThing_8 : decode cX8_isThing 8 = .ok (.iconst 1, 1) := by decide +kernel
theorem dX8_isThing_9 : decode cX8_isThing 9 = .ok (.isub, 1) := by decide +kernel
theorem dX8_isThing_10 : decode cX8_isThing 10 = .ok (.invokestatic 44, 3) := by decide +kernel
theorem dX8_isThing_13 : decode cX8_isThing 13 = .ok (.ireturn, 1) := by decide +kernel
theorem dX8_isOne_0 : decode cX8_isOne 0 = .ok (.iload_n 1, 1) := by decide +kernel
theorem dX8_isOne_1 : decode cX8_isOne 1 = .ok (.iconst 0, 1) := by decide +kernel
theorem dX8_isOne_2 : decode cX8_isOne 2 = .ok (.aload_n 0, 1) := by decide +kernel
theorem dX8_isOne_3 : decode cX8_isOne 3 = .ok (.getfield 13, 3) := by decide +kernel
theorem dX8_isOne_6 : decode cX8_isOne 6 = .ok (.iconst 1, 1) := by decide +kernel
theorem dX8_isOne_7 : decode cX8_isOne 7 = .ok (.iaload, 1) := by decide +kernel
theorem dX8_isOne_8 : decode cX8_isOne 8 = .ok (.iconst 1, 1) := by decide +kernel
theorem dX8_isOne_9 : decode cX8_isOne 9 = .ok (.isub, 1) := by decide +kernel
theorem dX8_isOne_10 : decode cX8_isOne 10 = .ok (.invokestatic 44, 3) := by decide +kernel
theorem dX8_isOne_13 : decode cX8_isOne 13 = .ok (.ireturn, 1) := by decide +kernel
theorem dX8_weighsBy_0 : decode cX8_weighsBy 0 = .ok (.iload_n 1, 1) := by decide +kernel
theorem dX8_weighsBy_1 : decode cX8_weighsBy 1 = .ok (.iconst 1, 1) := by decide +kernel
theorem dX8_weighsBy_2 : decode cX8_weighsBy 2 = .ok (.iadd, 1) := by decide +kernel
theorem dX8_weighsBy_3 : decode cX8_weighsBy 3 = .ok (.iconst 2, 1) := by decide +kernel
theorem dX8_weighsBy_4 : decode cX8_weighsBy 4 = .ok (.idiv, 1) := by decide +kernel
theorem dX8_weighsBy_5 : decode cX8_weighsBy 5 = .ok (.istore_n 3, 1) := by decide +kernel
theorem dX8_weighsBy_6 : decode cX8_weighsBy 6 = .ok (.iload_n 0, 1) := by decide +kernel
theorem dX8_weighsBy_7 : decode cX8_weighsBy 7 = .ok (.tableswitch 82 0 4 #[33, 35, 40, 42, 66], 33) := by decide +kernel
theorem dX8_weighsBy_40 : decode cX8_weighsBy 40 = .ok (.iload_n 1, 1) := by decide +kernel
theorem dX8_weighsBy_41 : decode cX8_weighsBy 41 = .ok (.ireturn, 1) := by decide +kernel
theorem dX8_weighsBy_42 : decode cX8_weighsBy 42 = .ok (.iload_n 1, 1) := by decide +kernel
theorem dX8_weighsBy_43 : decode cX8_weighsBy 43 = .ok (.bipush 6, 2) := by decide +kernel
theorem dX8_weighsBy_45 : decode cX8_weighsBy 45 = .ok (.iadd, 1) := by decide +kernel
theorem dX8_weighsBy_46 : decode cX8_weighsBy 46 = .ok (.ireturn, 1) := by decide +kernel
theorem dX8_weighsBy_47 : decode cX8_weighsBy 47 = .ok (.iload_n 3, 1) := by decide +kernel
theorem dX8_weighsBy_48 : decode cX8_weighsBy 48 = .ok (.ireturn, 1) := by decide +kernel
theorem dX8_weighsBy_49 : decode cX8_weighsBy 49 = .ok (.iload_n 1, 1) := by decide +kernel
theorem dX8_weighsBy_50 : decode cX8_weighsBy 50 = .ok (.bipush 6, 2) := by decide +kernel
theorem dX8_weighsBy_52 : decode cX8_weighsBy 52 = .ok (.iadd, 1) := by decide +kernel
theorem dX8_weighsBy_53 : decode cX8_weighsBy 53 = .ok (.iload_n 2, 1) := by decide +kernel
theorem dX8_weighsBy_54 : decode cX8_weighsBy 54 = .ok (.bipush 10, 2) := by decide +kernel
theorem dX8_weighsBy_56 : decode cX8_weighsBy 56 = .ok (.idiv, 1) := by decide +kernel
theorem dX8_weighsBy_57 : decode cX8_weighsBy 57 = .ok (.bipush 20, 2) := by decide +kernel
theorem dX8_weighsBy_59 : decode cX8_weighsBy 59 = .ok (.if_icmp .le 8, 3) := by decide +kernel
theorem dX8_weighsBy_62 : decode cX8_weighsBy 62 = .ok (.bipush 20, 2) := by decide +kernel
theorem dX8_weighsBy_64 : decode cX8_weighsBy 64 = .ok (.goto 7, 3) := by decide +kernel
theorem dX8_weighsBy_67 : decode cX8_weighsBy 67 = .ok (.iload_n 2, 1) := by decide +kernel
theorem dX8_weighsBy_68 : decode cX8_weighsBy 68 = .ok (.bipush 10, 2) := by decide +kernel
theorem dX8_weighsBy_70 : decode cX8_weighsBy 70 = .ok (.idiv, 1) := by decide +kernel
theorem dX8_weighsBy_71 : decode cX8_weighsBy 71 = .ok (.iadd, 1) := by decide +kernel
theorem dX8_weighsBy_72 : decode cX8_weighsBy 72 = .ok (.ireturn, 1) := by decide +kernel
theorem dX8_weighsBy_73 : decode cX8_weighsBy 73 = .ok (.iload_n 3, 1) := by decide +kernel
theorem dX8_weighsBy_74 : decode cX8_weighsBy 74 = .ok (.iload_n 2, 1) := by decide +kernel
theorem dX8_weighsBy_75 : decode cX8_weighsBy 75 = .ok (.iconst 2, 1) := by decide +kernel
theorem dX8_weighsBy_76 : decode cX8_weighsBy 76 = .ok (.irem, 1) := by decide +kernel
theorem dX8_weighsBy_77 : decode cX8_weighsBy 77 = .ok (.iconst 1, 1) := by decide +kernel
theorem dX8_weighsBy_78 : decode cX8_weighsBy 78 = .ok (.if_icmp .ne 8, 3) := by decide +kernel
theorem dX8_weighsBy_81 : decode cX8_weighsBy 81 = .ok (.bipush 9, 2) := by decide +kernel
theorem dX8_weighsBy_83 : decode cX8_weighsBy 83 = .ok (.goto 4, 3) := by decide +kernel
theorem dX8_weighsBy_86 : decode cX8_weighsBy 86 = .ok (.iconst 0, 1) := by decide +kernel
theorem dX8_weighsBy_87 : decode cX8_weighsBy 87 = .ok (.iadd, 1) := by decide +kernel
theorem dX8_weighsBy_88 : decode cX8_weighsBy 88 = .ok (.ireturn, 1) := by decide +kernel
theorem dX8_weighsBy_89 : decode cX8_weighsBy 89 = .ok (.iconst 2, 1) := by decide +kernel
theorem dX8_weighsBy_90 : decode cX8_weighsBy 90 = .ok (.iload_n 3, 1) := by decide +kernel
theorem dX8_weighsBy_91 : decode cX8_weighsBy 91 = .ok (.imul, 1) := by decide +kernel
theorem dX8_weighsBy_92 : decode cX8_weighsBy 92 = .ok (.iconst 1, 1) := by decide +kernel
theorem dX8_weighsBy_93 : decode cX8_weighsBy 93 = .ok (.isub, 1) := by decide +kernel
theorem dX8_weighsBy_94 : decode cX8_weighsBy 94 = .ok (.ireturn, 1) := by decide +kernel
theorem dX8_liftsBy_0 : decode cX8_liftsBy 0 = .ok (.iconst 2, 1) := by decide +kernel
theorem dX8_liftsBy_1 : decode cX8_liftsBy 1 = .ok (.iload_n 1, 1) := by decide +kernel
theorem dX8_liftsBy_2 : decode cX8_liftsBy 2 = .ok (.imul, 1) := by decide +kernel
theorem dX8_liftsBy_3 : decode cX8_liftsBy 3 = .ok (.iload_n 2, 1) := by decide +kernel
theorem dX8_liftsBy_4 : decode cX8_liftsBy 4 = .ok (.bipush 30, 2) := by decide +kernel
theorem dX8_liftsBy_6 : decode cX8_liftsBy 6 = .ok (.if_icmp .le 8, 3) := by decide +kernel
theorem dX8_liftsBy_9 : decode cX8_liftsBy 9 = .ok (.bipush 30, 2) := by decide +kernel
theorem dX8_liftsBy_11 : decode cX8_liftsBy 11 = .ok (.goto 4, 3) := by decide +kernel
theorem dX8_liftsBy_14 : decode cX8_liftsBy 14 = .ok (.iload_n 2, 1) := by decide +kernel
theorem dX8_liftsBy_15 : decode cX8_liftsBy 15 = .ok (.iconst 3, 1) := by decide +kernel
theorem dX8_liftsBy_16 : decode cX8_liftsBy 16 = .ok (.idiv, 1) := by decide +kernel
theorem dX8_liftsBy_17 : decode cX8_liftsBy 17 = .ok (.iadd, 1) := by decide +kernel
theorem dX8_liftsBy_18 : decode cX8_liftsBy 18 = .ok (.istore_n 3, 1) := by decide +kernel
theorem dX8_liftsBy_19 : decode cX8_liftsBy 19 = .ok (.iload_n 3, 1) := by decide +kernel
theorem dX8_liftsBy_20 : decode cX8_liftsBy 20 = .ok (.istore 4, 2) := by decide +kernel
theorem dX8_liftsBy_22 : decode cX8_liftsBy 22 = .ok (.iload_n 0, 1) := by decide +kernel
theorem dX8_liftsBy_23 : decode cX8_liftsBy 23 = .ok (.tableswitch 94 0 4 #[33, 35, 40, 44, 72], 33) := by decide +kernel
theorem dX8_liftsBy_56 : decode cX8_liftsBy 56 = .ok (.iload_n 3, 1) := by decide +kernel
theorem dX8_liftsBy_57 : decode cX8_liftsBy 57 = .ok (.ireturn, 1) := by decide +kernel
theorem dX8_liftsBy_58 : decode cX8_liftsBy 58 = .ok (.iload_n 3, 1) := by decide +kernel
theorem dX8_liftsBy_59 : decode cX8_liftsBy 59 = .ok (.bipush 8, 2) := by decide +kernel
theorem dX8_liftsBy_61 : decode cX8_liftsBy 61 = .ok (.iadd, 1) := by decide +kernel
theorem dX8_liftsBy_62 : decode cX8_liftsBy 62 = .ok (.ireturn, 1) := by decide +kernel
theorem dX8_liftsBy_63 : decode cX8_liftsBy 63 = .ok (.iload_n 3, 1) := by decide +kernel
theorem dX8_liftsBy_64 : decode cX8_liftsBy 64 = .ok (.iconst 2, 1) := by decide +kernel
theorem dX8_liftsBy_65 : decode cX8_liftsBy 65 = .ok (.idiv, 1) := by decide +kernel
theorem dX8_liftsBy_66 : decode cX8_liftsBy 66 = .ok (.ireturn, 1) := by decide +kernel
theorem dX8_liftsBy_67 : decode cX8_liftsBy 67 = .ok (.iload_n 2, 1) := by decide +kernel
theorem dX8_liftsBy_68 : decode cX8_liftsBy 68 = .ok (.bipush 18, 2) := by decide +kernel
theorem dX8_liftsBy_70 : decode cX8_liftsBy 70 = .ok (.if_icmp .ge 10, 3) := by decide +kernel
theorem dX8_liftsBy_73 : decode cX8_liftsBy 73 = .ok (.iload_n 3, 1) := by decide +kernel
theorem dX8_liftsBy_74 : decode cX8_liftsBy 74 = .ok (.bipush 6, 2) := by decide +kernel
theorem dX8_liftsBy_76 : decode cX8_liftsBy 76 = .ok (.isub, 1) := by decide +kernel
theorem dX8_liftsBy_77 : decode cX8_liftsBy 77 = .ok (.goto 4, 3) := by decide +kernel
theorem dX8_liftsBy_80 : decode cX8_liftsBy 80 = .ok (.iload_n 3, 1) := by decide +kernel
theorem dX8_liftsBy_81 : decode cX8_liftsBy 81 = .ok (.istore 4, 2) := by decide +kernel
theorem dX8_liftsBy_83 : decode cX8_liftsBy 83 = .ok (.iload 4, 2) := by decide +kernel
theorem dX8_liftsBy_85 : decode cX8_liftsBy 85 = .ok (.ifCond .ge 7, 3) := by decide +kernel
theorem dX8_liftsBy_88 : decode cX8_liftsBy 88 = .ok (.iconst 0, 1) := by decide +kernel
theorem dX8_liftsBy_89 : decode cX8_liftsBy 89 = .ok (.goto 5, 3) := by decide +kernel
theorem dX8_liftsBy_92 : decode cX8_liftsBy 92 = .ok (.iload 4, 2) := by decide +kernel
theorem dX8_liftsBy_94 : decode cX8_liftsBy 94 = .ok (.ireturn, 1) := by decide +kernel
theorem dX8_liftsBy_95 : decode cX8_liftsBy 95 = .ok (.iload_n 2, 1) := by decide +kernel
theorem dX8_liftsBy_96 : decode cX8_liftsBy 96 = .ok (.bipush 10, 2) := by decide +kernel
theorem dX8_liftsBy_98 : decode cX8_liftsBy 98 = .ok (.irem, 1) := by decide +kernel
theorem dX8_liftsBy_99 : decode cX8_liftsBy 99 = .ok (.iconst 5, 1) := by decide +kernel
theorem dX8_liftsBy_100 : decode cX8_liftsBy 100 = .ok (.if_icmp .ne 12, 3) := by decide +kernel
theorem dX8_liftsBy_103 : decode cX8_liftsBy 103 = .ok (.iconst 2, 1) := by decide +kernel
theorem dX8_liftsBy_104 : decode cX8_liftsBy 104 = .ok (.iload_n 3, 1) := by decide +kernel
theorem dX8_liftsBy_105 : decode cX8_liftsBy 105 = .ok (.bipush 8, 2) := by decide +kernel
theorem dX8_liftsBy_107 : decode cX8_liftsBy 107 = .ok (.iadd, 1) := by decide +kernel
theorem dX8_liftsBy_108 : decode cX8_liftsBy 108 = .ok (.imul, 1) := by decide +kernel
theorem dX8_liftsBy_109 : decode cX8_liftsBy 109 = .ok (.goto 7, 3) := by decide +kernel
theorem dX8_liftsBy_112 : decode cX8_liftsBy 112 = .ok (.iload_n 3, 1) := by decide +kernel
theorem dX8_liftsBy_113 : decode cX8_liftsBy 113 = .ok (.bipush 8, 2) := by decide +kernel
theorem dX8_liftsBy_115 : decode cX8_liftsBy 115 = .ok (.iadd, 1) := by decide +kernel
theorem dX8_liftsBy_116 : decode cX8_liftsBy 116 = .ok (.ireturn, 1) := by decide +kernel
theorem dX8_liftsBy_117 : decode cX8_liftsBy 117 = .ok (.iload_n 3, 1) := by decide +kernel
theorem dX8_liftsBy_118 : decode cX8_liftsBy 118 = .ok (.iconst 2, 1) := by decide +kernel
theorem dX8_liftsBy_119 : decode cX8_liftsBy 119 = .ok (.idiv, 1) := by decide +kernel
theorem dX8_liftsBy_120 : decode cX8_liftsBy 120 = .ok (.iload_n 2, 1) := by decide +kernel
theorem dX8_liftsBy_121 : decode cX8_liftsBy 121 = .ok (.bipush 60, 2) := by decide +kernel
theorem dX8_liftsBy_123 : decode cX8_liftsBy 123 = .ok (.if_icmp .le 12, 3) := by decide +kernel
theorem dX8_liftsBy_126 : decode cX8_liftsBy 126 = .ok (.iload_n 2, 1) := by decide +kernel
theorem dX8_liftsBy_127 : decode cX8_liftsBy 127 = .ok (.bipush 60, 2) := by decide +kernel
theorem dX8_liftsBy_129 : decode cX8_liftsBy 129 = .ok (.isub, 1) := by decide +kernel
theorem dX8_liftsBy_130 : decode cX8_liftsBy 130 = .ok (.iconst 5, 1) := by decide +kernel
theorem dX8_liftsBy_131 : decode cX8_liftsBy 131 = .ok (.idiv, 1) := by decide +kernel
theorem dX8_liftsBy_132 : decode cX8_liftsBy 132 = .ok (.goto 4, 3) := by decide +kernel
theorem dX8_liftsBy_135 : decode cX8_liftsBy 135 = .ok (.iconst 0, 1) := by decide +kernel
theorem dX8_liftsBy_136 : decode cX8_liftsBy 136 = .ok (.isub, 1) := by decide +kernel
theorem dX8_liftsBy_137 : decode cX8_liftsBy 137 = .ok (.istore 4, 2) := by decide +kernel
theorem dX8_liftsBy_139 : decode cX8_liftsBy 139 = .ok (.iload 4, 2) := by decide +kernel
theorem dX8_liftsBy_141 : decode cX8_liftsBy 141 = .ok (.ifCond .ge 7, 3) := by decide +kernel
theorem dX8_liftsBy_144 : decode cX8_liftsBy 144 = .ok (.iconst 0, 1) := by decide +kernel
theorem dX8_liftsBy_145 : decode cX8_liftsBy 145 = .ok (.goto 5, 3) := by decide +kernel
theorem dX8_liftsBy_148 : decode cX8_liftsBy 148 = .ok (.iload 4, 2) := by decide +kernel
theorem dX8_liftsBy_150 : decode cX8_liftsBy 150 = .ok (.ireturn, 1) := by decide +kernel
theorem dX8_weighsOf_0 : decode cX8_weighsOf 0 = .ok (.aload_n 0, 1) := by decide +kernel
theorem dX8_weighsOf_1 : decode cX8_weighsOf 1 = .ok (.getfield 13, 3) := by decide +kernel
theorem dX8_weighsOf_4 : decode cX8_weighsOf 4 = .ok (.iload_n 1, 1) := by decide +kernel
theorem dX8_weighsOf_5 : decode cX8_weighsOf 5 = .ok (.bipush 6, 2) := by decide +kernel
theorem dX8_weighsOf_7 : decode cX8_weighsOf 7 = .ok (.iadd, 1) := by decide +kernel
theorem dX8_weighsOf_8 : decode cX8_weighsOf 8 = .ok (.iload_n 2, 1) := by decide +kernel
theorem dX8_weighsOf_9 : decode cX8_weighsOf 9 = .ok (.iadd, 1) := by decide +kernel
theorem dX8_weighsOf_10 : decode cX8_weighsOf 10 = .ok (.iaload, 1) := by decide +kernel
theorem dX8_weighsOf_11 : decode cX8_weighsOf 11 = .ok (.aload_n 0, 1) := by decide +kernel
theorem dX8_weighsOf_12 : decode cX8_weighsOf 12 = .ok (.getfield 13, 3) := by decide +kernel
theorem dX8_weighsOf_15 : decode cX8_weighsOf 15 = .ok (.iload_n 1, 1) := by decide +kernel
theorem dX8_weighsOf_16 : decode cX8_weighsOf 16 = .ok (.bipush 13, 2) := by decide +kernel
theorem dX8_weighsOf_18 : decode cX8_weighsOf 18 = .ok (.iadd, 1) := by decide +kernel
theorem dX8_weighsOf_19 : decode cX8_weighsOf 19 = .ok (.iload_n 2, 1) := by decide +kernel
theorem dX8_weighsOf_20 : decode cX8_weighsOf 20 = .ok (.iadd, 1) := by decide +kernel
theorem dX8_weighsOf_21 : decode cX8_weighsOf 21 = .ok (.iaload, 1) := by decide +kernel
theorem dX8_weighsOf_22 : decode cX8_weighsOf 22 = .ok (.iload_n 3, 1) := by decide +kernel
theorem dX8_weighsOf_23 : decode cX8_weighsOf 23 = .ok (.invokestatic 48, 3) := by decide +kernel
theorem dX8_weighsOf_26 : decode cX8_weighsOf 26 = .ok (.ireturn, 1) := by decide +kernel
theorem dX8_liftsOf_0 : decode cX8_liftsOf 0 = .ok (.aload_n 0, 1) := by decide +kernel
theorem dX8_liftsOf_1 : decode cX8_liftsOf 1 = .ok (.getfield 13, 3) := by decide +kernel
theorem dX8_liftsOf_4 : decode cX8_liftsOf 4 = .ok (.iload_n 1, 1) := by decide +kernel
theorem dX8_liftsOf_5 : decode cX8_liftsOf 5 = .ok (.bipush 20, 2) := by decide +kernel
theorem dX8_liftsOf_7 : decode cX8_liftsOf 7 = .ok (.iadd, 1) := by decide +kernel
theorem dX8_liftsOf_8 : decode cX8_liftsOf 8 = .ok (.iload_n 2, 1) := by decide +kernel
theorem dX8_liftsOf_9 : decode cX8_liftsOf 9 = .ok (.iadd, 1) := by decide +kernel
theorem dX8_liftsOf_10 : decode cX8_liftsOf 10 = .ok (.iaload, 1) := by decide +kernel
theorem dX8_liftsOf_11 : decode cX8_liftsOf 11 = .ok (.aload_n 0, 1) := by decide +kernel
theorem dX8_liftsOf_12 : decode cX8_liftsOf 12 = .ok (.getfield 13, 3) := by decide +kernel
theorem dX8_liftsOf_15 : decode cX8_liftsOf 15 = .ok (.iload_n 1, 1) := by decide +kernel
theorem dX8_liftsOf_16 : decode cX8_liftsOf 16 = .ok (.bipush 27, 2) := by decide +kernel
theorem dX8_liftsOf_18 : decode cX8_liftsOf 18 = .ok (.iadd, 1) := by decide +kernel
theorem dX8_liftsOf_19 : decode cX8_liftsOf 19 = .ok (.iload_n 2, 1) := by decide +kernel
theorem dX8_liftsOf_20 : decode cX8_liftsOf 20 = .ok (.iadd, 1) := by decide +kernel
theorem dX8_liftsOf_21 : decode cX8_liftsOf 21 = .ok (.iaload, 1) := by decide +kernel
theorem dX8_liftsOf_22 : decode cX8_liftsOf 22 = .ok (.iload_n 3, 1) := by decide +kernel
theorem dX8_liftsOf_23 : decode cX8_liftsOf 23 = .ok (.invokestatic 52, 3) := by decide +kernel
theorem dX8_liftsOf_26 : decode cX8_liftsOf 26 = .ok (.ireturn, 1) := by decide +kernel
theorem dX8_isHeld_0 : decode cX8_isHeld 0 = .ok (.aload_n 2, 1) := by decide +kernel
theorem dX8_isHeld_1 : decode cX8_isHeld 1 = .ok (.iload_n 3, 1) := by decide +kernel
theorem dX8_isHeld_2 : decode cX8_isHeld 2 = .ok (.bipush 9, 2) := by decide +kernel
theorem dX8_isHeld_4 : decode cX8_isHeld 4 = .ok (.iadd, 1) := by decide +kernel
theorem dX8_isHeld_5 : decode cX8_isHeld 5 = .ok (.iload 4, 2) := by decide +kernel
theorem dX8_isHeld_7 : decode cX8_isHeld 7 = .ok (.iadd, 1) := by decide +kernel
theorem dX8_isHeld_8 : decode cX8_isHeld 8 = .ok (.iaload, 1) := by decide +kernel
theorem dX8_isHeld_9 : decode cX8_isHeld 9 = .ok (.istore 5, 2) := by decide +kernel
theorem dX8_isHeld_11 : decode cX8_isHeld 11 = .ok (.iload 5, 2) := by decide +kernel
theorem dX8_isHeld_13 : decode cX8_isHeld 13 = .ok (.iconst (-1), 1) := by decide +kernel
theorem dX8_isHeld_14 : decode cX8_isHeld 14 = .ok (.if_icmp .eq 37, 3) := by decide +kernel
theorem dX8_isHeld_17 : decode cX8_isHeld 17 = .ok (.aload_n 0, 1) := by decide +kernel
theorem dX8_isHeld_18 : decode cX8_isHeld 18 = .ok (.iload_n 1, 1) := by decide +kernel
theorem dX8_isHeld_19 : decode cX8_isHeld 19 = .ok (.iload 5, 2) := by decide +kernel
theorem dX8_isHeld_21 : decode cX8_isHeld 21 = .ok (.aload_n 2, 1) := by decide +kernel
theorem dX8_isHeld_22 : decode cX8_isHeld 22 = .ok (.iload_n 3, 1) := by decide +kernel
theorem dX8_isHeld_23 : decode cX8_isHeld 23 = .ok (.iconst 0, 1) := by decide +kernel
theorem dX8_isHeld_24 : decode cX8_isHeld 24 = .ok (.iadd, 1) := by decide +kernel
theorem dX8_isHeld_25 : decode cX8_isHeld 25 = .ok (.iaload, 1) := by decide +kernel
theorem dX8_isHeld_26 : decode cX8_isHeld 26 = .ok (.invokevirtual 55, 3) := by decide +kernel
theorem dX8_isHeld_29 : decode cX8_isHeld 29 = .ok (.aload_n 0, 1) := by decide +kernel
theorem dX8_isHeld_30 : decode cX8_isHeld 30 = .ok (.iload_n 1, 1) := by decide +kernel
theorem dX8_isHeld_31 : decode cX8_isHeld 31 = .ok (.iload 4, 2) := by decide +kernel
theorem dX8_isHeld_33 : decode cX8_isHeld 33 = .ok (.aload_n 2, 1) := by decide +kernel
theorem dX8_isHeld_34 : decode cX8_isHeld 34 = .ok (.iload_n 3, 1) := by decide +kernel
theorem dX8_isHeld_35 : decode cX8_isHeld 35 = .ok (.iconst 2, 1) := by decide +kernel
theorem dX8_isHeld_36 : decode cX8_isHeld 36 = .ok (.iadd, 1) := by decide +kernel
theorem dX8_isHeld_37 : decode cX8_isHeld 37 = .ok (.iload 4, 2) := by decide +kernel
theorem dX8_isHeld_39 : decode cX8_isHeld 39 = .ok (.iadd, 1) := by decide +kernel
theorem dX8_isHeld_40 : decode cX8_isHeld 40 = .ok (.iaload, 1) := by decide +kernel
theorem dX8_isHeld_41 : decode cX8_isHeld 41 = .ok (.invokevirtual 58, 3) := by decide +kernel
theorem dX8_isHeld_44 : decode cX8_isHeld 44 = .ok (.if_icmp .le 7, 3) := by decide +kernel
theorem dX8_isHeld_47 : decode cX8_isHeld 47 = .ok (.iconst 1, 1) := by decide +kernel
theorem dX8_isHeld_48 : decode cX8_isHeld 48 = .ok (.goto 4, 3) := by decide +kernel
theorem dX8_isHeld_51 : decode cX8_isHeld 51 = .ok (.iconst 0, 1) := by decide +kernel
theorem dX8_isHeld_52 : decode cX8_isHeld 52 = .ok (.ireturn, 1) := by decide +kernel
theorem dX8_passOn_0 : decode cX8_passOn 0 = .ok (.aload_n 2, 1) := by decide +kernel
theorem dX8_passOn_1 : decode cX8_passOn 1 = .ok (.iload_n 3, 1) := by decide +kernel
theorem dX8_passOn_2 : decode cX8_passOn 2 = .ok (.iconst 1, 1) := by decide +kernel
theorem dX8_passOn_3 : decode cX8_passOn 3 = .ok (.iadd, 1) := by decide +kernel
theorem dX8_passOn_4 : decode cX8_passOn 4 = .ok (.iaload, 1) := by decide +kernel
theorem dX8_passOn_5 : decode cX8_passOn 5 = .ok (.istore 4, 2) := by decide +kernel
theorem dX8_passOn_7 : decode cX8_passOn 7 = .ok (.iconst 0, 1) := by decide +kernel
theorem dX8_passOn_8 : decode cX8_passOn 8 = .ok (.istore 5, 2) := by decide +kernel
theorem dX8_passOn_10 : decode cX8_passOn 10 = .ok (.iload 5, 2) := by decide +kernel
theorem dX8_passOn_12 : decode cX8_passOn 12 = .ok (.aload_n 0, 1) := by decide +kernel
theorem dX8_passOn_13 : decode cX8_passOn 13 = .ok (.getfield 13, 3) := by decide +kernel
theorem dX8_passOn_16 : decode cX8_passOn 16 = .ok (.iload_n 1, 1) := by decide +kernel
theorem dX8_passOn_17 : decode cX8_passOn 17 = .ok (.iconst 1, 1) := by decide +kernel
theorem dX8_passOn_18 : decode cX8_passOn 18 = .ok (.iadd, 1) := by decide +kernel
theorem dX8_passOn_19 : decode cX8_passOn 19 = .ok (.iaload, 1) := by decide +kernel
theorem dX8_passOn_20 : decode cX8_passOn 20 = .ok (.if_icmp .ge 85, 3) := by decide +kernel
theorem dX8_passOn_23 : decode cX8_passOn 23 = .ok (.iload 4, 2) := by decide +kernel
theorem dX8_passOn_25 : decode cX8_passOn 25 = .ok (.iload 5, 2) := by decide +kernel
theorem dX8_passOn_27 : decode cX8_passOn 27 = .ok (.invokestatic 61, 3) := by decide +kernel
theorem dX8_passOn_30 : decode cX8_passOn 30 = .ok (.ifCond .ne 69, 3) := by decide +kernel
theorem dX8_passOn_33 : decode cX8_passOn 33 = .ok (.aload_n 0, 1) := by decide +kernel
theorem dX8_passOn_34 : decode cX8_passOn 34 = .ok (.iload_n 1, 1) := by decide +kernel
theorem dX8_passOn_35 : decode cX8_passOn 35 = .ok (.aload_n 2, 1) := by decide +kernel
theorem dX8_passOn_36 : decode cX8_passOn 36 = .ok (.iload_n 3, 1) := by decide +kernel
theorem dX8_passOn_37 : decode cX8_passOn 37 = .ok (.iload 5, 2) := by decide +kernel
theorem dX8_passOn_39 : decode cX8_passOn 39 = .ok (.invokevirtual 65, 3) := by decide +kernel
theorem dX8_passOn_42 : decode cX8_passOn 42 = .ok (.ifCond .eq 35, 3) := by decide +kernel
theorem dX8_passOn_45 : decode cX8_passOn 45 = .ok (.aload_n 2, 1) := by decide +kernel
theorem dX8_passOn_46 : decode cX8_passOn 46 = .ok (.iload_n 3, 1) := by decide +kernel
theorem dX8_passOn_47 : decode cX8_passOn 47 = .ok (.iconst 2, 1) := by decide +kernel
theorem dX8_passOn_48 : decode cX8_passOn 48 = .ok (.iadd, 1) := by decide +kernel
theorem dX8_passOn_49 : decode cX8_passOn 49 = .ok (.iload 5, 2) := by decide +kernel
theorem dX8_passOn_51 : decode cX8_passOn 51 = .ok (.iadd, 1) := by decide +kernel
theorem dX8_passOn_52 : decode cX8_passOn 52 = .ok (.dup2, 1) := by decide +kernel
theorem dX8_passOn_53 : decode cX8_passOn 53 = .ok (.iaload, 1) := by decide +kernel
theorem dX8_passOn_54 : decode cX8_passOn 54 = .ok (.aload_n 2, 1) := by decide +kernel
theorem dX8_passOn_55 : decode cX8_passOn 55 = .ok (.iload_n 3, 1) := by decide +kernel
theorem dX8_passOn_56 : decode cX8_passOn 56 = .ok (.iconst 2, 1) := by decide +kernel
theorem dX8_passOn_57 : decode cX8_passOn 57 = .ok (.iadd, 1) := by decide +kernel
theorem dX8_passOn_58 : decode cX8_passOn 58 = .ok (.iload 5, 2) := by decide +kernel
theorem dX8_passOn_60 : decode cX8_passOn 60 = .ok (.iadd, 1) := by decide +kernel
theorem dX8_passOn_61 : decode cX8_passOn 61 = .ok (.iaload, 1) := by decide +kernel
theorem dX8_passOn_62 : decode cX8_passOn 62 = .ok (.bipush 99, 2) := by decide +kernel
theorem dX8_passOn_64 : decode cX8_passOn 64 = .ok (.if_icmp .ge 7, 3) := by decide +kernel
theorem dX8_passOn_67 : decode cX8_passOn 67 = .ok (.iconst 1, 1) := by decide +kernel
theorem dX8_passOn_68 : decode cX8_passOn 68 = .ok (.goto 4, 3) := by decide +kernel
theorem dX8_passOn_71 : decode cX8_passOn 71 = .ok (.iconst 0, 1) := by decide +kernel
theorem dX8_passOn_72 : decode cX8_passOn 72 = .ok (.iadd, 1) := by decide +kernel
theorem dX8_passOn_73 : decode cX8_passOn 73 = .ok (.iastore, 1) := by decide +kernel
theorem dX8_passOn_74 : decode cX8_passOn 74 = .ok (.goto 25, 3) := by decide +kernel
theorem dX8_passOn_77 : decode cX8_passOn 77 = .ok (.aload_n 2, 1) := by decide +kernel
theorem dX8_passOn_78 : decode cX8_passOn 78 = .ok (.iload_n 3, 1) := by decide +kernel
theorem dX8_passOn_79 : decode cX8_passOn 79 = .ok (.iconst 1, 1) := by decide +kernel
theorem dX8_passOn_80 : decode cX8_passOn 80 = .ok (.iadd, 1) := by decide +kernel
theorem dX8_passOn_81 : decode cX8_passOn 81 = .ok (.dup2, 1) := by decide +kernel
theorem dX8_passOn_82 : decode cX8_passOn 82 = .ok (.iaload, 1) := by decide +kernel
theorem dX8_passOn_83 : decode cX8_passOn 83 = .ok (.iconst 1, 1) := by decide +kernel
theorem dX8_passOn_84 : decode cX8_passOn 84 = .ok (.iload 5, 2) := by decide +kernel
theorem dX8_passOn_86 : decode cX8_passOn 86 = .ok (.ishl, 1) := by decide +kernel
theorem dX8_passOn_87 : decode cX8_passOn 87 = .ok (.ior, 1) := by decide +kernel
theorem dX8_passOn_88 : decode cX8_passOn 88 = .ok (.iastore, 1) := by decide +kernel
theorem dX8_passOn_89 : decode cX8_passOn 89 = .ok (.aload_n 2, 1) := by decide +kernel
theorem dX8_passOn_90 : decode cX8_passOn 90 = .ok (.iload_n 3, 1) := by decide +kernel
theorem dX8_passOn_91 : decode cX8_passOn 91 = .ok (.bipush 9, 2) := by decide +kernel
theorem dX8_passOn_93 : decode cX8_passOn 93 = .ok (.iadd, 1) := by decide +kernel
theorem dX8_passOn_94 : decode cX8_passOn 94 = .ok (.iload 5, 2) := by decide +kernel
theorem dX8_passOn_96 : decode cX8_passOn 96 = .ok (.iadd, 1) := by decide +kernel
theorem dX8_passOn_97 : decode cX8_passOn 97 = .ok (.iconst (-1), 1) := by decide +kernel
theorem dX8_passOn_98 : decode cX8_passOn 98 = .ok (.iastore, 1) := by decide +kernel
theorem dX8_passOn_99 : decode cX8_passOn 99 = .ok (.iinc 5 1, 3) := by decide +kernel
theorem dX8_passOn_102 : decode cX8_passOn 102 = .ok (.goto (-92), 3) := by decide +kernel
theorem dX8_passOn_105 : decode cX8_passOn 105 = .ok (.aload_n 2, 1) := by decide +kernel
theorem dX8_passOn_106 : decode cX8_passOn 106 = .ok (.iload_n 3, 1) := by decide +kernel
theorem dX8_passOn_107 : decode cX8_passOn 107 = .ok (.iconst 0, 1) := by decide +kernel
theorem dX8_passOn_108 : decode cX8_passOn 108 = .ok (.iadd, 1) := by decide +kernel
theorem dX8_passOn_109 : decode cX8_passOn 109 = .ok (.dup2, 1) := by decide +kernel
theorem dX8_passOn_110 : decode cX8_passOn 110 = .ok (.iaload, 1) := by decide +kernel
theorem dX8_passOn_111 : decode cX8_passOn 111 = .ok (.iconst 1, 1) := by decide +kernel
theorem dX8_passOn_112 : decode cX8_passOn 112 = .ok (.iadd, 1) := by decide +kernel
theorem dX8_passOn_113 : decode cX8_passOn 113 = .ok (.iastore, 1) := by decide +kernel
theorem dX8_passOn_114 : decode cX8_passOn 114 = .ok (.return_, 1) := by decide +kernel
theorem dX8_hereOf_0 : decode cX8_hereOf 0 = .ok (.iconst 1, 1) := by decide +kernel
theorem dX8_hereOf_1 : decode cX8_hereOf 1 = .ok (.aload_n 0, 1) := by decide +kernel
theorem dX8_hereOf_2 : decode cX8_hereOf 2 = .ok (.getfield 13, 3) := by decide +kernel
theorem dX8_hereOf_5 : decode cX8_hereOf 5 = .ok (.iconst 1, 1) := by decide +kernel
theorem dX8_hereOf_6 : decode cX8_hereOf 6 = .ok (.iaload, 1) := by decide +kernel
theorem dX8_hereOf_7 : decode cX8_hereOf 7 = .ok (.ishl, 1) := by decide +kernel
theorem dX8_hereOf_8 : decode cX8_hereOf 8 = .ok (.iconst 1, 1) := by decide +kernel
theorem dX8_hereOf_9 : decode cX8_hereOf 9 = .ok (.isub, 1) := by decide +kernel
theorem dX8_hereOf_10 : decode cX8_hereOf 10 = .ok (.aload_n 1, 1) := by decide +kernel
theorem dX8_hereOf_11 : decode cX8_hereOf 11 = .ok (.iload_n 2, 1) := by decide +kernel
theorem dX8_hereOf_12 : decode cX8_hereOf 12 = .ok (.iconst 1, 1) := by decide +kernel
theorem dX8_hereOf_13 : decode cX8_hereOf 13 = .ok (.iadd, 1) := by decide +kernel
theorem dX8_hereOf_14 : decode cX8_hereOf 14 = .ok (.iaload, 1) := by decide +kernel
theorem dX8_hereOf_15 : decode cX8_hereOf 15 = .ok (.iconst (-1), 1) := by decide +kernel
theorem dX8_hereOf_16 : decode cX8_hereOf 16 = .ok (.ixor, 1) := by decide +kernel
theorem dX8_hereOf_17 : decode cX8_hereOf 17 = .ok (.iand, 1) := by decide +kernel
theorem dX8_hereOf_18 : decode cX8_hereOf 18 = .ok (.ireturn, 1) := by decide +kernel
theorem dX8_ownerOf_0 : decode cX8_ownerOf 0 = .ok (.iconst (-1), 1) := by decide +kernel
theorem dX8_ownerOf_1 : decode cX8_ownerOf 1 = .ok (.istore 5, 2) := by decide +kernel
theorem dX8_ownerOf_3 : decode cX8_ownerOf 3 = .ok (.iconst 0, 1) := by decide +kernel
theorem dX8_ownerOf_4 : decode cX8_ownerOf 4 = .ok (.istore 6, 2) := by decide +kernel
theorem dX8_ownerOf_6 : decode cX8_ownerOf 6 = .ok (.iload 6, 2) := by decide +kernel
theorem dX8_ownerOf_8 : decode cX8_ownerOf 8 = .ok (.aload_n 0, 1) := by decide +kernel
theorem dX8_ownerOf_9 : decode cX8_ownerOf 9 = .ok (.getfield 13, 3) := by decide +kernel
theorem dX8_ownerOf_12 : decode cX8_ownerOf 12 = .ok (.iload_n 1, 1) := by decide +kernel
theorem dX8_ownerOf_13 : decode cX8_ownerOf 13 = .ok (.iconst 1, 1) := by decide +kernel
theorem dX8_ownerOf_14 : decode cX8_ownerOf 14 = .ok (.iadd, 1) := by decide +kernel
theorem dX8_ownerOf_15 : decode cX8_ownerOf 15 = .ok (.iaload, 1) := by decide +kernel
theorem dX8_ownerOf_16 : decode cX8_ownerOf 16 = .ok (.if_icmp .ge 32, 3) := by decide +kernel
theorem dX8_ownerOf_19 : decode cX8_ownerOf 19 = .ok (.aload_n 2, 1) := by decide +kernel
theorem dX8_ownerOf_20 : decode cX8_ownerOf 20 = .ok (.iload_n 3, 1) := by decide +kernel
theorem dX8_ownerOf_21 : decode cX8_ownerOf 21 = .ok (.bipush 9, 2) := by decide +kernel
theorem dX8_ownerOf_23 : decode cX8_ownerOf 23 = .ok (.iadd, 1) := by decide +kernel
theorem dX8_ownerOf_24 : decode cX8_ownerOf 24 = .ok (.iload 6, 2) := by decide +kernel
theorem dX8_ownerOf_26 : decode cX8_ownerOf 26 = .ok (.iadd, 1) := by decide +kernel
theorem dX8_ownerOf_27 : decode cX8_ownerOf 27 = .ok (.iaload, 1) := by decide +kernel
theorem dX8_ownerOf_28 : decode cX8_ownerOf 28 = .ok (.iload 4, 2) := by decide +kernel
theorem dX8_ownerOf_30 : decode cX8_ownerOf 30 = .ok (.if_icmp .ne 8, 3) := by decide +kernel
theorem dX8_ownerOf_33 : decode cX8_ownerOf 33 = .ok (.iload 6, 2) := by decide +kernel
theorem dX8_ownerOf_35 : decode cX8_ownerOf 35 = .ok (.goto 5, 3) := by decide +kernel
theorem dX8_ownerOf_38 : decode cX8_ownerOf 38 = .ok (.iload 5, 2) := by decide +kernel
theorem dX8_ownerOf_40 : decode cX8_ownerOf 40 = .ok (.istore 5, 2) := by decide +kernel
theorem dX8_ownerOf_42 : decode cX8_ownerOf 42 = .ok (.iinc 6 1, 3) := by decide +kernel
theorem dX8_ownerOf_45 : decode cX8_ownerOf 45 = .ok (.goto (-39), 3) := by decide +kernel
theorem dX8_ownerOf_48 : decode cX8_ownerOf 48 = .ok (.iload 5, 2) := by decide +kernel
theorem dX8_ownerOf_50 : decode cX8_ownerOf 50 = .ok (.ireturn, 1) := by decide +kernel
theorem dX8_people_0 : decode cX8_people 0 = .ok (.aload_n 0, 1) := by decide +kernel
theorem dX8_people_1 : decode cX8_people 1 = .ok (.getfield 13, 3) := by decide +kernel
theorem dX8_people_4 : decode cX8_people 4 = .ok (.iconst 1, 1) := by decide +kernel
theorem dX8_people_5 : decode cX8_people 5 = .ok (.iaload, 1) := by decide +kernel
theorem dX8_people_6 : decode cX8_people 6 = .ok (.istore_n 1, 1) := by decide +kernel
theorem dX8_people_7 : decode cX8_people 7 = .ok (.aload_n 0, 1) := by decide +kernel
theorem dX8_people_8 : decode cX8_people 8 = .ok (.iconst 0, 1) := by decide +kernel
theorem dX8_people_9 : decode cX8_people 9 = .ok (.invokevirtual 40, 3) := by decide +kernel
theorem dX8_people_12 : decode cX8_people 12 = .ok (.iload_n 1, 1) := by decide +kernel
theorem dX8_people_13 : decode cX8_people 13 = .ok (.ireturn, 1) := by decide +kernel
theorem dX8_add_0 : decode cX8_add 0 = .ok (.aload_n 0, 1) := by decide +kernel
theorem dX8_add_1 : decode cX8_add 1 = .ok (.getfield 13, 3) := by decide +kernel
theorem dX8_add_4 : decode cX8_add 4 = .ok (.iload_n 1, 1) := by decide +kernel
theorem dX8_add_5 : decode cX8_add 5 = .ok (.iconst 0, 1) := by decide +kernel
theorem dX8_add_6 : decode cX8_add 6 = .ok (.iadd, 1) := by decide +kernel
theorem dX8_add_7 : decode cX8_add 7 = .ok (.iaload, 1) := by decide +kernel
theorem dX8_add_8 : decode cX8_add 8 = .ok (.istore 4, 2) := by decide +kernel
theorem dX8_add_10 : decode cX8_add 10 = .ok (.aload_n 0, 1) := by decide +kernel
theorem dX8_add_11 : decode cX8_add 11 = .ok (.getfield 13, 3) := by decide +kernel
theorem dX8_add_14 : decode cX8_add 14 = .ok (.iload_n 1, 1) := by decide +kernel
theorem dX8_add_15 : decode cX8_add 15 = .ok (.bipush 6, 2) := by decide +kernel
theorem dX8_add_17 : decode cX8_add 17 = .ok (.iadd, 1) := by decide +kernel
theorem dX8_add_18 : decode cX8_add 18 = .ok (.iload 4, 2) := by decide +kernel
theorem dX8_add_20 : decode cX8_add 20 = .ok (.iadd, 1) := by decide +kernel
theorem dX8_add_21 : decode cX8_add 21 = .ok (.iload_n 2, 1) := by decide +kernel
theorem dX8_add_22 : decode cX8_add 22 = .ok (.iastore, 1) := by decide +kernel
theorem dX8_add_23 : decode cX8_add 23 = .ok (.aload_n 0, 1) := by decide +kernel
theorem dX8_add_24 : decode cX8_add 24 = .ok (.getfield 13, 3) := by decide +kernel
theorem dX8_add_27 : decode cX8_add 27 = .ok (.iload_n 1, 1) := by decide +kernel
theorem dX8_add_28 : decode cX8_add 28 = .ok (.bipush 13, 2) := by decide +kernel
theorem dX8_add_30 : decode cX8_add 30 = .ok (.iadd, 1) := by decide +kernel
theorem dX8_add_31 : decode cX8_add 31 = .ok (.iload 4, 2) := by decide +kernel
theorem dX8_add_33 : decode cX8_add 33 = .ok (.iadd, 1) := by decide +kernel
theorem dX8_add_34 : decode cX8_add 34 = .ok (.iload_n 3, 1) := by decide +kernel
theorem dX8_add_35 : decode cX8_add 35 = .ok (.iastore, 1) := by decide +kernel
theorem dX8_add_36 : decode cX8_add 36 = .ok (.aload_n 0, 1) := by decide +kernel
theorem dX8_add_37 : decode cX8_add 37 = .ok (.getfield 13, 3) := by decide +kernel
theorem dX8_add_40 : decode cX8_add 40 = .ok (.iload_n 1, 1) := by decide +kernel
theorem dX8_add_41 : decode cX8_add 41 = .ok (.iconst 0, 1) := by decide +kernel
theorem dX8_add_42 : decode cX8_add 42 = .ok (.iadd, 1) := by decide +kernel
theorem dX8_add_43 : decode cX8_add 43 = .ok (.dup2, 1) := by decide +kernel
theorem dX8_add_44 : decode cX8_add 44 = .ok (.iaload, 1) := by decide +kernel
theorem dX8_add_45 : decode cX8_add 45 = .ok (.iconst 1, 1) := by decide +kernel
theorem dX8_add_46 : decode cX8_add 46 = .ok (.iadd, 1) := by decide +kernel
theorem dX8_add_47 : decode cX8_add 47 = .ok (.iastore, 1) := by decide +kernel
theorem dX8_add_48 : decode cX8_add 48 = .ok (.aload_n 0, 1) := by decide +kernel
theorem dX8_add_49 : decode cX8_add 49 = .ok (.getfield 13, 3) := by decide +kernel
theorem dX8_add_52 : decode cX8_add 52 = .ok (.iload_n 1, 1) := by decide +kernel
theorem dX8_add_53 : decode cX8_add 53 = .ok (.iconst 5, 1) := by decide +kernel
theorem dX8_add_54 : decode cX8_add 54 = .ok (.iadd, 1) := by decide +kernel
theorem dX8_add_55 : decode cX8_add 55 = .ok (.iconst 0, 1) := by decide +kernel
theorem dX8_add_56 : decode cX8_add 56 = .ok (.iastore, 1) := by decide +kernel
theorem dX8_add_57 : decode cX8_add 57 = .ok (.iload 4, 2) := by decide +kernel
theorem dX8_add_59 : decode cX8_add 59 = .ok (.ireturn, 1) := by decide +kernel
theorem dX8_thing_0 : decode cX8_thing 0 = .ok (.iload_n 1, 1) := by decide +kernel
theorem dX8_thing_1 : decode cX8_thing 1 = .ok (.iconst 0, 1) := by decide +kernel
theorem dX8_thing_2 : decode cX8_thing 2 = .ok (.iconst 5, 1) := by decide +kernel
theorem dX8_thing_3 : decode cX8_thing 3 = .ok (.invokestatic 44, 3) := by decide +kernel
theorem dX8_thing_6 : decode cX8_thing 6 = .ok (.ifCond .eq 13, 3) := by decide +kernel
theorem dX8_thing_9 : decode cX8_thing 9 = .ok (.iload_n 2, 1) := by decide +kernel
theorem dX8_thing_10 : decode cX8_thing 10 = .ok (.iconst 1, 1) := by decide +kernel
theorem dX8_thing_11 : decode cX8_thing 11 = .ok (.bipush 30, 2) := by decide +kernel
theorem dX8_thing_13 : decode cX8_thing 13 = .ok (.invokestatic 44, 3) := by decide +kernel
theorem dX8_thing_16 : decode cX8_thing 16 = .ok (.ifCond .ne 8, 3) := by decide +kernel
theorem dX8_thing_19 : decode cX8_thing 19 = .ok (.aload_n 0, 1) := by decide +kernel
theorem dX8_thing_20 : decode cX8_thing 20 = .ok (.invokevirtual 69, 3) := by decide +kernel
theorem dX8_thing_23 : decode cX8_thing 23 = .ok (.ireturn, 1) := by decide +kernel
theorem dX8_thing_24 : decode cX8_thing 24 = .ok (.aload_n 0, 1) := by decide +kernel
theorem dX8_thing_25 : decode cX8_thing 25 = .ok (.getfield 13, 3) := by decide +kernel
theorem dX8_thing_28 : decode cX8_thing 28 = .ok (.iconst 0, 1) := by decide +kernel
theorem dX8_thing_29 : decode cX8_thing 29 = .ok (.iaload, 1) := by decide +kernel
theorem dX8_thing_30 : decode cX8_thing 30 = .ok (.bipush 7, 2) := by decide +kernel
theorem dX8_thing_32 : decode cX8_thing 32 = .ok (.if_icmp .ne 10, 3) := by decide +kernel
theorem dX8_thing_35 : decode cX8_thing 35 = .ok (.aload_n 0, 1) := by decide +kernel
theorem dX8_thing_36 : decode cX8_thing 36 = .ok (.invokevirtual 73, 3) := by decide +kernel
theorem dX8_thing_39 : decode cX8_thing 39 = .ok (.goto 10, 3) := by decide +kernel
theorem dX8_thing_42 : decode cX8_thing 42 = .ok (.aload_n 0, 1) := by decide +kernel
theorem dX8_thing_43 : decode cX8_thing 43 = .ok (.iconst 0, 1) := by decide +kernel
theorem dX8_thing_44 : decode cX8_thing 44 = .ok (.iload_n 1, 1) := by decide +kernel
theorem dX8_thing_45 : decode cX8_thing 45 = .ok (.iload_n 2, 1) := by decide +kernel
theorem dX8_thing_46 : decode cX8_thing 46 = .ok (.invokevirtual 76, 3) := by decide +kernel
theorem dX8_thing_49 : decode cX8_thing 49 = .ok (.ireturn, 1) := by decide +kernel
theorem dX8_join_0 : decode cX8_join 0 = .ok (.aload_n 0, 1) := by decide +kernel
theorem dX8_join_1 : decode cX8_join 1 = .ok (.getfield 13, 3) := by decide +kernel
theorem dX8_join_4 : decode cX8_join 4 = .ok (.iload_n 1, 1) := by decide +kernel
theorem dX8_join_5 : decode cX8_join 5 = .ok (.iconst 1, 1) := by decide +kernel
theorem dX8_join_6 : decode cX8_join 6 = .ok (.iadd, 1) := by decide +kernel
theorem dX8_join_7 : decode cX8_join 7 = .ok (.iaload, 1) := by decide +kernel
theorem dX8_join_8 : decode cX8_join 8 = .ok (.istore 5, 2) := by decide +kernel
theorem dX8_join_10 : decode cX8_join 10 = .ok (.aload_n 0, 1) := by decide +kernel
theorem dX8_join_11 : decode cX8_join 11 = .ok (.getfield 13, 3) := by decide +kernel
theorem dX8_join_14 : decode cX8_join 14 = .ok (.iload_n 1, 1) := by decide +kernel
theorem dX8_join_15 : decode cX8_join 15 = .ok (.bipush 20, 2) := by decide +kernel
theorem dX8_join_17 : decode cX8_join 17 = .ok (.iadd, 1) := by decide +kernel
theorem dX8_join_18 : decode cX8_join 18 = .ok (.iload 5, 2) := by decide +kernel
theorem dX8_join_20 : decode cX8_join 20 = .ok (.iadd, 1) := by decide +kernel
theorem dX8_join_21 : decode cX8_join 21 = .ok (.iload_n 2, 1) := by decide +kernel
theorem dX8_join_22 : decode cX8_join 22 = .ok (.iastore, 1) := by decide +kernel
theorem dX8_join_23 : decode cX8_join 23 = .ok (.aload_n 0, 1) := by decide +kernel
theorem dX8_join_24 : decode cX8_join 24 = .ok (.getfield 13, 3) := by decide +kernel
theorem dX8_join_27 : decode cX8_join 27 = .ok (.iload_n 1, 1) := by decide +kernel
theorem dX8_join_28 : decode cX8_join 28 = .ok (.bipush 27, 2) := by decide +kernel
theorem dX8_join_30 : decode cX8_join 30 = .ok (.iadd, 1) := by decide +kernel
theorem dX8_join_31 : decode cX8_join 31 = .ok (.iload 5, 2) := by decide +kernel
theorem dX8_join_33 : decode cX8_join 33 = .ok (.iadd, 1) := by decide +kernel
theorem dX8_join_34 : decode cX8_join 34 = .ok (.iload_n 3, 1) := by decide +kernel
theorem dX8_join_35 : decode cX8_join 35 = .ok (.iastore, 1) := by decide +kernel
theorem dX8_join_36 : decode cX8_join 36 = .ok (.aload_n 0, 1) := by decide +kernel
theorem dX8_join_37 : decode cX8_join 37 = .ok (.getfield 13, 3) := by decide +kernel
theorem dX8_join_40 : decode cX8_join 40 = .ok (.iload_n 1, 1) := by decide +kernel
theorem dX8_join_41 : decode cX8_join 41 = .ok (.bipush 34, 2) := by decide +kernel
theorem dX8_join_43 : decode cX8_join 43 = .ok (.iadd, 1) := by decide +kernel
theorem dX8_join_44 : decode cX8_join 44 = .ok (.iconst 2, 1) := by decide +kernel
theorem dX8_join_45 : decode cX8_join 45 = .ok (.iadd, 1) := by decide +kernel
theorem dX8_join_46 : decode cX8_join 46 = .ok (.iload 5, 2) := by decide +kernel
theorem dX8_join_48 : decode cX8_join 48 = .ok (.iadd, 1) := by decide +kernel
theorem dX8_join_49 : decode cX8_join 49 = .ok (.iload 4, 2) := by decide +kernel
theorem dX8_join_51 : decode cX8_join 51 = .ok (.iastore, 1) := by decide +kernel
theorem dX8_join_52 : decode cX8_join 52 = .ok (.aload_n 0, 1) := by decide +kernel
theorem dX8_join_53 : decode cX8_join 53 = .ok (.getfield 13, 3) := by decide +kernel
theorem dX8_join_56 : decode cX8_join 56 = .ok (.iload_n 1, 1) := by decide +kernel
theorem dX8_join_57 : decode cX8_join 57 = .ok (.bipush 34, 2) := by decide +kernel
theorem dX8_join_59 : decode cX8_join 59 = .ok (.iadd, 1) := by decide +kernel
theorem dX8_join_60 : decode cX8_join 60 = .ok (.bipush 9, 2) := by decide +kernel
theorem dX8_join_62 : decode cX8_join 62 = .ok (.iadd, 1) := by decide +kernel
theorem dX8_join_63 : decode cX8_join 63 = .ok (.iload 5, 2) := by decide +kernel
theorem dX8_join_65 : decode cX8_join 65 = .ok (.iadd, 1) := by decide +kernel
theorem dX8_join_66 : decode cX8_join 66 = .ok (.iconst (-1), 1) := by decide +kernel
theorem dX8_join_67 : decode cX8_join 67 = .ok (.iastore, 1) := by decide +kernel
theorem dX8_join_68 : decode cX8_join 68 = .ok (.aload_n 0, 1) := by decide +kernel
theorem dX8_join_69 : decode cX8_join 69 = .ok (.getfield 13, 3) := by decide +kernel
theorem dX8_join_72 : decode cX8_join 72 = .ok (.iload_n 1, 1) := by decide +kernel
theorem dX8_join_73 : decode cX8_join 73 = .ok (.iconst 1, 1) := by decide +kernel
theorem dX8_join_74 : decode cX8_join 74 = .ok (.iadd, 1) := by decide +kernel
theorem dX8_join_75 : decode cX8_join 75 = .ok (.dup2, 1) := by decide +kernel
theorem dX8_join_76 : decode cX8_join 76 = .ok (.iaload, 1) := by decide +kernel
theorem dX8_join_77 : decode cX8_join 77 = .ok (.iconst 1, 1) := by decide +kernel
theorem dX8_join_78 : decode cX8_join 78 = .ok (.iadd, 1) := by decide +kernel
theorem dX8_join_79 : decode cX8_join 79 = .ok (.iastore, 1) := by decide +kernel
theorem dX8_join_80 : decode cX8_join 80 = .ok (.aload_n 0, 1) := by decide +kernel
theorem dX8_join_81 : decode cX8_join 81 = .ok (.getfield 13, 3) := by decide +kernel
theorem dX8_join_84 : decode cX8_join 84 = .ok (.iload_n 1, 1) := by decide +kernel
theorem dX8_join_85 : decode cX8_join 85 = .ok (.iconst 5, 1) := by decide +kernel
theorem dX8_join_86 : decode cX8_join 86 = .ok (.iadd, 1) := by decide +kernel
theorem dX8_join_87 : decode cX8_join 87 = .ok (.iconst 0, 1) := by decide +kernel
theorem dX8_join_88 : decode cX8_join 88 = .ok (.iastore, 1) := by decide +kernel
theorem dX8_join_89 : decode cX8_join 89 = .ok (.iload 5, 2) := by decide +kernel
theorem dX8_join_91 : decode cX8_join 91 = .ok (.ireturn, 1) := by decide +kernel
theorem dX8_one_0 : decode cX8_one 0 = .ok (.iload_n 1, 1) := by decide +kernel
theorem dX8_one_1 : decode cX8_one 1 = .ok (.iconst 0, 1) := by decide +kernel
theorem dX8_one_2 : decode cX8_one 2 = .ok (.iconst 5, 1) := by decide +kernel
theorem dX8_one_3 : decode cX8_one 3 = .ok (.invokestatic 44, 3) := by decide +kernel
theorem dX8_one_6 : decode cX8_one 6 = .ok (.ifCond .eq 23, 3) := by decide +kernel
theorem dX8_one_9 : decode cX8_one 9 = .ok (.iload_n 2, 1) := by decide +kernel
theorem dX8_one_10 : decode cX8_one 10 = .ok (.iconst 1, 1) := by decide +kernel
theorem dX8_one_11 : decode cX8_one 11 = .ok (.bipush 9, 2) := by decide +kernel
theorem dX8_one_13 : decode cX8_one 13 = .ok (.invokestatic 44, 3) := by decide +kernel
theorem dX8_one_16 : decode cX8_one 16 = .ok (.ifCond .eq 13, 3) := by decide +kernel
theorem dX8_one_19 : decode cX8_one 19 = .ok (.iload_n 3, 1) := by decide +kernel
theorem dX8_one_20 : decode cX8_one 20 = .ok (.iconst 0, 1) := by decide +kernel
theorem dX8_one_21 : decode cX8_one 21 = .ok (.bipush 99, 2) := by decide +kernel
theorem dX8_one_23 : decode cX8_one 23 = .ok (.invokestatic 44, 3) := by decide +kernel
theorem dX8_one_26 : decode cX8_one 26 = .ok (.ifCond .ne 8, 3) := by decide +kernel
theorem dX8_one_29 : decode cX8_one 29 = .ok (.aload_n 0, 1) := by decide +kernel
theorem dX8_one_30 : decode cX8_one 30 = .ok (.invokevirtual 69, 3) := by decide +kernel
theorem dX8_one_33 : decode cX8_one 33 = .ok (.ireturn, 1) := by decide +kernel
theorem dX8_one_34 : decode cX8_one 34 = .ok (.aload_n 0, 1) := by decide +kernel
theorem dX8_one_35 : decode cX8_one 35 = .ok (.getfield 13, 3) := by decide +kernel
theorem dX8_one_38 : decode cX8_one 38 = .ok (.iconst 1, 1) := by decide +kernel
theorem dX8_one_39 : decode cX8_one 39 = .ok (.iaload, 1) := by decide +kernel
theorem dX8_one_40 : decode cX8_one 40 = .ok (.bipush 7, 2) := by decide +kernel
theorem dX8_one_42 : decode cX8_one 42 = .ok (.if_icmp .ne 10, 3) := by decide +kernel
theorem dX8_one_45 : decode cX8_one 45 = .ok (.aload_n 0, 1) := by decide +kernel
theorem dX8_one_46 : decode cX8_one 46 = .ok (.invokevirtual 73, 3) := by decide +kernel
theorem dX8_one_49 : decode cX8_one 49 = .ok (.goto 11, 3) := by decide +kernel
theorem dX8_one_52 : decode cX8_one 52 = .ok (.aload_n 0, 1) := by decide +kernel
theorem dX8_one_53 : decode cX8_one 53 = .ok (.iconst 0, 1) := by decide +kernel
theorem dX8_one_54 : decode cX8_one 54 = .ok (.iload_n 1, 1) := by decide +kernel
theorem dX8_one_55 : decode cX8_one 55 = .ok (.iload_n 2, 1) := by decide +kernel
theorem dX8_one_56 : decode cX8_one 56 = .ok (.iload_n 3, 1) := by decide +kernel
theorem dX8_one_57 : decode cX8_one 57 = .ok (.invokevirtual 79, 3) := by decide +kernel
theorem dX8_one_60 : decode cX8_one 60 = .ok (.ireturn, 1) := by decide +kernel
theorem dX8_type_0 : decode cX8_type 0 = .ok (.iload_n 1, 1) := by decide +kernel
theorem dX8_type_1 : decode cX8_type 1 = .ok (.iconst 0, 1) := by decide +kernel
theorem dX8_type_2 : decode cX8_type 2 = .ok (.bipush 127, 2) := by decide +kernel
theorem dX8_type_4 : decode cX8_type 4 = .ok (.invokestatic 44, 3) := by decide +kernel
theorem dX8_type_7 : decode cX8_type 7 = .ok (.ifCond .ne 8, 3) := by decide +kernel
theorem dX8_type_10 : decode cX8_type 10 = .ok (.aload_n 0, 1) := by decide +kernel
theorem dX8_type_11 : decode cX8_type 11 = .ok (.invokevirtual 69, 3) := by decide +kernel
theorem dX8_type_14 : decode cX8_type 14 = .ok (.ireturn, 1) := by decide +kernel
theorem dX8_type_15 : decode cX8_type 15 = .ok (.aload_n 0, 1) := by decide +kernel
theorem dX8_type_16 : decode cX8_type 16 = .ok (.getfield 83, 3) := by decide +kernel
theorem dX8_type_19 : decode cX8_type 19 = .ok (.sipush 150, 3) := by decide +kernel
theorem dX8_type_22 : decode cX8_type 22 = .ok (.if_icmp .ne 8, 3) := by decide +kernel
theorem dX8_type_25 : decode cX8_type 25 = .ok (.aload_n 0, 1) := by decide +kernel
theorem dX8_type_26 : decode cX8_type 26 = .ok (.invokevirtual 73, 3) := by decide +kernel
theorem dX8_type_29 : decode cX8_type 29 = .ok (.ireturn, 1) := by decide +kernel
theorem dX8_type_30 : decode cX8_type 30 = .ok (.aload_n 0, 1) := by decide +kernel
theorem dX8_type_31 : decode cX8_type 31 = .ok (.getfield 23, 3) := by decide +kernel
theorem dX8_type_34 : decode cX8_type 34 = .ok (.aload_n 0, 1) := by decide +kernel
theorem dX8_type_35 : decode cX8_type 35 = .ok (.getfield 83, 3) := by decide +kernel
theorem dX8_type_38 : decode cX8_type 38 = .ok (.iload_n 1, 1) := by decide +kernel
theorem dX8_type_39 : decode cX8_type 39 = .ok (.i2b, 1) := by decide +kernel
theorem dX8_type_40 : decode cX8_type 40 = .ok (.bastore, 1) := by decide +kernel
theorem dX8_type_41 : decode cX8_type 41 = .ok (.aload_n 0, 1) := by decide +kernel
theorem dX8_type_42 : decode cX8_type 42 = .ok (.dup, 1) := by decide +kernel
theorem dX8_type_43 : decode cX8_type 43 = .ok (.getfield 83, 3) := by decide +kernel
theorem dX8_type_46 : decode cX8_type 46 = .ok (.iconst 1, 1) := by decide +kernel
theorem dX8_type_47 : decode cX8_type 47 = .ok (.iadd, 1) := by decide +kernel
theorem dX8_type_48 : decode cX8_type 48 = .ok (.putfield 83, 3) := by decide +kernel
theorem dX8_type_51 : decode cX8_type 51 = .ok (.aload_n 0, 1) := by decide +kernel
theorem dX8_type_52 : decode cX8_type 52 = .ok (.getfield 83, 3) := by decide +kernel
theorem dX8_type_55 : decode cX8_type 55 = .ok (.ireturn, 1) := by decide +kernel
theorem dX8_clear_0 : decode cX8_clear 0 = .ok (.aload_n 0, 1) := by decide +kernel
theorem dX8_clear_1 : decode cX8_clear 1 = .ok (.getfield 83, 3) := by decide +kernel
theorem dX8_clear_4 : decode cX8_clear 4 = .ok (.istore_n 1, 1) := by decide +kernel
theorem dX8_clear_5 : decode cX8_clear 5 = .ok (.aload_n 0, 1) := by decide +kernel
theorem dX8_clear_6 : decode cX8_clear 6 = .ok (.iconst 0, 1) := by decide +kernel
theorem dX8_clear_7 : decode cX8_clear 7 = .ok (.putfield 83, 3) := by decide +kernel
theorem dX8_clear_10 : decode cX8_clear 10 = .ok (.iload_n 1, 1) := by decide +kernel
theorem dX8_clear_11 : decode cX8_clear 11 = .ok (.ireturn, 1) := by decide +kernel
theorem dX8_here_0 : decode cX8_here 0 = .ok (.aload_n 0, 1) := by decide +kernel
theorem dX8_here_1 : decode cX8_here 1 = .ok (.getfield 87, 3) := by decide +kernel
theorem dX8_here_4 : decode cX8_here 4 = .ok (.aload_n 0, 1) := by decide +kernel
theorem dX8_here_5 : decode cX8_here 5 = .ok (.getfield 83, 3) := by decide +kernel
theorem dX8_here_8 : decode cX8_here 8 = .ok (.if_icmp .ge 15, 3) := by decide +kernel
theorem dX8_here_11 : decode cX8_here 11 = .ok (.aload_n 0, 1) := by decide +kernel
theorem dX8_here_12 : decode cX8_here 12 = .ok (.getfield 23, 3) := by decide +kernel
theorem dX8_here_15 : decode cX8_here 15 = .ok (.aload_n 0, 1) := by decide +kernel
theorem dX8_here_16 : decode cX8_here 16 = .ok (.getfield 87, 3) := by decide +kernel
theorem dX8_here_19 : decode cX8_here 19 = .ok (.baload, 1) := by decide +kernel
theorem dX8_here_20 : decode cX8_here 20 = .ok (.goto 4, 3) := by decide +kernel
theorem dX8_here_23 : decode cX8_here 23 = .ok (.iconst (-1), 1) := by decide +kernel
theorem dX8_here_24 : decode cX8_here 24 = .ok (.ireturn, 1) := by decide +kernel
theorem dX8_spells_0 : decode cX8_spells 0 = .ok (.aload_n 0, 1) := by decide +kernel
theorem dX8_spells_1 : decode cX8_spells 1 = .ok (.getfield 87, 3) := by decide +kernel
theorem dX8_spells_4 : decode cX8_spells 4 = .ok (.aload_n 0, 1) := by decide +kernel
theorem dX8_spells_5 : decode cX8_spells 5 = .ok (.getfield 90, 3) := by decide +kernel
theorem dX8_spells_8 : decode cX8_spells 8 = .ok (.isub, 1) := by decide +kernel
theorem dX8_spells_9 : decode cX8_spells 9 = .ok (.iload 7, 2) := by decide +kernel
theorem dX8_spells_11 : decode cX8_spells 11 = .ok (.if_icmp .ne 50, 3) := by decide +kernel
theorem dX8_spells_14 : decode cX8_spells 14 = .ok (.aload_n 0, 1) := by decide +kernel
theorem dX8_spells_15 : decode cX8_spells 15 = .ok (.getfield 23, 3) := by decide +kernel
theorem dX8_spells_18 : decode cX8_spells 18 = .ok (.aload_n 0, 1) := by decide +kernel
theorem dX8_spells_19 : decode cX8_spells 19 = .ok (.getfield 90, 3) := by decide +kernel
theorem dX8_spells_22 : decode cX8_spells 22 = .ok (.baload, 1) := by decide +kernel
theorem dX8_spells_23 : decode cX8_spells 23 = .ok (.iload_n 1, 1) := by decide +kernel
theorem dX8_spells_24 : decode cX8_spells 24 = .ok (.if_icmp .ne 37, 3) := by decide +kernel
theorem dX8_spells_27 : decode cX8_spells 27 = .ok (.aload_n 0, 1) := by decide +kernel
theorem dX8_spells_28 : decode cX8_spells 28 = .ok (.getfield 23, 3) := by decide +kernel
theorem dX8_spells_31 : decode cX8_spells 31 = .ok (.aload_n 0, 1) := by decide +kernel
theorem dX8_spells_32 : decode cX8_spells 32 = .ok (.getfield 90, 3) := by decide +kernel
theorem dX8_spells_35 : decode cX8_spells 35 = .ok (.iconst 1, 1) := by decide +kernel
theorem dX8_spells_36 : decode cX8_spells 36 = .ok (.iadd, 1) := by decide +kernel
theorem dX8_spells_37 : decode cX8_spells 37 = .ok (.baload, 1) := by decide +kernel
theorem dX8_spells_38 : decode cX8_spells 38 = .ok (.iload_n 2, 1) := by decide +kernel
theorem dX8_spells_39 : decode cX8_spells 39 = .ok (.if_icmp .ne 22, 3) := by decide +kernel
theorem dX8_spells_42 : decode cX8_spells 42 = .ok (.aload_n 0, 1) := by decide +kernel
theorem dX8_spells_43 : decode cX8_spells 43 = .ok (.getfield 23, 3) := by decide +kernel
theorem dX8_spells_46 : decode cX8_spells 46 = .ok (.aload_n 0, 1) := by decide +kernel
theorem dX8_spells_47 : decode cX8_spells 47 = .ok (.getfield 90, 3) := by decide +kernel
theorem dX8_spells_50 : decode cX8_spells 50 = .ok (.iconst 2, 1) := by decide +kernel
theorem dX8_spells_51 : decode cX8_spells 51 = .ok (.iadd, 1) := by decide +kernel
theorem dX8_spells_52 : decode cX8_spells 52 = .ok (.baload, 1) := by decide +kernel
theorem dX8_spells_53 : decode cX8_spells 53 = .ok (.iload_n 3, 1) := by decide +kernel
theorem dX8_spells_54 : decode cX8_spells 54 = .ok (.if_icmp .ne 7, 3) := by decide +kernel
theorem dX8_spells_57 : decode cX8_spells 57 = .ok (.iconst 1, 1) := by decide +kernel
theorem dX8_spells_58 : decode cX8_spells 58 = .ok (.goto 4, 3) := by decide +kernel
theorem dX8_spells_61 : decode cX8_spells 61 = .ok (.iconst 0, 1) := by decide +kernel
theorem dX8_spells_62 : decode cX8_spells 62 = .ok (.istore 8, 2) := by decide +kernel
theorem dX8_spells_64 : decode cX8_spells 64 = .ok (.iload 8, 2) := by decide +kernel
theorem dX8_spells_66 : decode cX8_spells 66 = .ok (.ifCond .eq 51, 3) := by decide +kernel
theorem dX8_spells_69 : decode cX8_spells 69 = .ok (.iload 7, 2) := by decide +kernel
theorem dX8_spells_71 : decode cX8_spells 71 = .ok (.iconst 4, 1) := by decide +kernel
theorem dX8_spells_72 : decode cX8_spells 72 = .ok (.if_icmp .lt 19, 3) := by decide +kernel
theorem dX8_spells_75 : decode cX8_spells 75 = .ok (.aload_n 0, 1) := by decide +kernel
theorem dX8_spells_76 : decode cX8_spells 76 = .ok (.getfield 23, 3) := by decide +kernel
theorem dX8_spells_79 : decode cX8_spells 79 = .ok (.aload_n 0, 1) := by decide +kernel
theorem dX8_spells_80 : decode cX8_spells 80 = .ok (.getfield 90, 3) := by decide +kernel
theorem dX8_spells_83 : decode cX8_spells 83 = .ok (.iconst 3, 1) := by decide +kernel
theorem dX8_spells_84 : decode cX8_spells 84 = .ok (.iadd, 1) := by decide +kernel
theorem dX8_spells_85 : decode cX8_spells 85 = .ok (.baload, 1) := by decide +kernel
theorem dX8_spells_86 : decode cX8_spells 86 = .ok (.iload 4, 2) := by decide +kernel
theorem dX8_spells_88 : decode cX8_spells 88 = .ok (.if_icmp .ne 29, 3) := by decide +kernel
theorem dX8_spells_91 : decode cX8_spells 91 = .ok (.iload 7, 2) := by decide +kernel
theorem dX8_spells_93 : decode cX8_spells 93 = .ok (.iconst 5, 1) := by decide +kernel
theorem dX8_spells_94 : decode cX8_spells 94 = .ok (.if_icmp .lt 19, 3) := by decide +kernel
theorem dX8_spells_97 : decode cX8_spells 97 = .ok (.aload_n 0, 1) := by decide +kernel
theorem dX8_spells_98 : decode cX8_spells 98 = .ok (.getfield 23, 3) := by decide +kernel
theorem dX8_spells_101 : decode cX8_spells 101 = .ok (.aload_n 0, 1) := by decide +kernel
theorem dX8_spells_102 : decode cX8_spells 102 = .ok (.getfield 90, 3) := by decide +kernel
theorem dX8_spells_105 : decode cX8_spells 105 = .ok (.iconst 4, 1) := by decide +kernel
theorem dX8_spells_106 : decode cX8_spells 106 = .ok (.iadd, 1) := by decide +kernel
theorem dX8_spells_107 : decode cX8_spells 107 = .ok (.baload, 1) := by decide +kernel
theorem dX8_spells_108 : decode cX8_spells 108 = .ok (.iload 5, 2) := by decide +kernel
theorem dX8_spells_110 : decode cX8_spells 110 = .ok (.if_icmp .ne 7, 3) := by decide +kernel
theorem dX8_spells_113 : decode cX8_spells 113 = .ok (.iconst 1, 1) := by decide +kernel
theorem dX8_spells_114 : decode cX8_spells 114 = .ok (.goto 4, 3) := by decide +kernel
theorem dX8_spells_117 : decode cX8_spells 117 = .ok (.iconst 0, 1) := by decide +kernel
theorem dX8_spells_118 : decode cX8_spells 118 = .ok (.istore 8, 2) := by decide +kernel
theorem dX8_spells_120 : decode cX8_spells 120 = .ok (.iload 8, 2) := by decide +kernel
theorem dX8_spells_122 : decode cX8_spells 122 = .ok (.ifCond .eq 30, 3) := by decide +kernel
theorem dX8_spells_125 : decode cX8_spells 125 = .ok (.iload 7, 2) := by decide +kernel
theorem dX8_spells_127 : decode cX8_spells 127 = .ok (.bipush 6, 2) := by decide +kernel
theorem dX8_spells_129 : decode cX8_spells 129 = .ok (.if_icmp .lt 19, 3) := by decide +kernel
theorem dX8_spells_132 : decode cX8_spells 132 = .ok (.aload_n 0, 1) := by decide +kernel
theorem dX8_spells_133 : decode cX8_spells 133 = .ok (.getfield 23, 3) := by decide +kernel
theorem dX8_spells_136 : decode cX8_spells 136 = .ok (.aload_n 0, 1) := by decide +kernel
theorem dX8_spells_137 : decode cX8_spells 137 = .ok (.getfield 90, 3) := by decide +kernel
theorem dX8_spells_140 : decode cX8_spells 140 = .ok (.iconst 5, 1) := by decide +kernel
theorem dX8_spells_141 : decode cX8_spells 141 = .ok (.iadd, 1) := by decide +kernel
theorem dX8_spells_142 : decode cX8_spells 142 = .ok (.baload, 1) := by decide +kernel
theorem dX8_spells_143 : decode cX8_spells 143 = .ok (.iload 6, 2) := by decide +kernel
theorem dX8_spells_145 : decode cX8_spells 145 = .ok (.if_icmp .ne 7, 3) := by decide +kernel
theorem dX8_spells_148 : decode cX8_spells 148 = .ok (.iconst 1, 1) := by decide +kernel
theorem dX8_spells_149 : decode cX8_spells 149 = .ok (.goto 4, 3) := by decide +kernel
theorem dX8_spells_152 : decode cX8_spells 152 = .ok (.iconst 0, 1) := by decide +kernel
theorem dX8_spells_153 : decode cX8_spells 153 = .ok (.ireturn, 1) := by decide +kernel
theorem dX8_wordOf_0 : decode cX8_wordOf 0 = .ok (.aload_n 0, 1) := by decide +kernel
theorem dX8_wordOf_1 : decode cX8_wordOf 1 = .ok (.bipush 112, 2) := by decide +kernel
theorem dX8_wordOf_3 : decode cX8_wordOf 3 = .ok (.bipush 101, 2) := by decide +kernel
theorem dX8_wordOf_5 : decode cX8_wordOf 5 = .ok (.bipush 111, 2) := by decide +kernel
theorem dX8_wordOf_7 : decode cX8_wordOf 7 = .ok (.bipush 112, 2) := by decide +kernel
theorem dX8_wordOf_9 : decode cX8_wordOf 9 = .ok (.bipush 108, 2) := by decide +kernel
theorem dX8_wordOf_11 : decode cX8_wordOf 11 = .ok (.bipush 101, 2) := by decide +kernel
theorem dX8_wordOf_13 : decode cX8_wordOf 13 = .ok (.bipush 6, 2) := by decide +kernel
theorem dX8_wordOf_15 : decode cX8_wordOf 15 = .ok (.invokevirtual 93, 3) := by decide +kernel
theorem dX8_wordOf_18 : decode cX8_wordOf 18 = .ok (.ifCond .eq 7, 3) := by decide +kernel
theorem dX8_wordOf_21 : decode cX8_wordOf 21 = .ok (.iconst 0, 1) := by decide +kernel
theorem dX8_wordOf_22 : decode cX8_wordOf 22 = .ok (.goto 116, 3) := by decide +kernel
theorem dX8_wordOf_25 : decode cX8_wordOf 25 = .ok (.aload_n 0, 1) := by decide +kernel
theorem dX8_wordOf_26 : decode cX8_wordOf 26 = .ok (.bipush 116, 2) := by decide +kernel
theorem dX8_wordOf_28 : decode cX8_wordOf 28 = .ok (.bipush 104, 2) := by decide +kernel
theorem dX8_wordOf_30 : decode cX8_wordOf 30 = .ok (.bipush 105, 2) := by decide +kernel
theorem dX8_wordOf_32 : decode cX8_wordOf 32 = .ok (.bipush 110, 2) := by decide +kernel
theorem dX8_wordOf_34 : decode cX8_wordOf 34 = .ok (.bipush 103, 2) := by decide +kernel
theorem dX8_wordOf_36 : decode cX8_wordOf 36 = .ok (.iconst 0, 1) := by decide +kernel
theorem dX8_wordOf_37 : decode cX8_wordOf 37 = .ok (.iconst 5, 1) := by decide +kernel
theorem dX8_wordOf_38 : decode cX8_wordOf 38 = .ok (.invokevirtual 93, 3) := by decide +kernel
theorem dX8_wordOf_41 : decode cX8_wordOf 41 = .ok (.ifCond .eq 7, 3) := by decide +kernel
theorem dX8_wordOf_44 : decode cX8_wordOf 44 = .ok (.iconst 1, 1) := by decide +kernel
theorem dX8_wordOf_45 : decode cX8_wordOf 45 = .ok (.goto 93, 3) := by decide +kernel
theorem dX8_wordOf_48 : decode cX8_wordOf 48 = .ok (.aload_n 0, 1) := by decide +kernel
theorem dX8_wordOf_49 : decode cX8_wordOf 49 = .ok (.bipush 111, 2) := by decide +kernel
theorem dX8_wordOf_51 : decode cX8_wordOf 51 = .ok (.bipush 110, 2) := by decide +kernel
theorem dX8_wordOf_53 : decode cX8_wordOf 53 = .ok (.bipush 101, 2) := by decide +kernel
theorem dX8_wordOf_55 : decode cX8_wordOf 55 = .ok (.iconst 0, 1) := by decide +kernel
theorem dX8_wordOf_56 : decode cX8_wordOf 56 = .ok (.iconst 0, 1) := by decide +kernel
theorem dX8_wordOf_57 : decode cX8_wordOf 57 = .ok (.iconst 0, 1) := by decide +kernel
theorem dX8_wordOf_58 : decode cX8_wordOf 58 = .ok (.iconst 3, 1) := by decide +kernel
theorem dX8_wordOf_59 : decode cX8_wordOf 59 = .ok (.invokevirtual 93, 3) := by decide +kernel
theorem dX8_wordOf_62 : decode cX8_wordOf 62 = .ok (.ifCond .eq 7, 3) := by decide +kernel
theorem dX8_wordOf_65 : decode cX8_wordOf 65 = .ok (.iconst 2, 1) := by decide +kernel
theorem dX8_wordOf_66 : decode cX8_wordOf 66 = .ok (.goto 72, 3) := by decide +kernel
theorem dX8_wordOf_69 : decode cX8_wordOf 69 = .ok (.aload_n 0, 1) := by decide +kernel
theorem dX8_wordOf_70 : decode cX8_wordOf 70 = .ok (.bipush 111, 2) := by decide +kernel
theorem dX8_wordOf_72 : decode cX8_wordOf 72 = .ok (.bipush 119, 2) := by decide +kernel
theorem dX8_wordOf_74 : decode cX8_wordOf 74 = .ok (.bipush 110, 2) := by decide +kernel
theorem dX8_wordOf_76 : decode cX8_wordOf 76 = .ok (.iconst 0, 1) := by decide +kernel
theorem dX8_wordOf_77 : decode cX8_wordOf 77 = .ok (.iconst 0, 1) := by decide +kernel
theorem dX8_wordOf_78 : decode cX8_wordOf 78 = .ok (.iconst 0, 1) := by decide +kernel
theorem dX8_wordOf_79 : decode cX8_wordOf 79 = .ok (.iconst 3, 1) := by decide +kernel
theorem dX8_wordOf_80 : decode cX8_wordOf 80 = .ok (.invokevirtual 93, 3) := by decide +kernel
theorem dX8_wordOf_83 : decode cX8_wordOf 83 = .ok (.ifCond .eq 7, 3) := by decide +kernel
theorem dX8_wordOf_86 : decode cX8_wordOf 86 = .ok (.iconst 3, 1) := by decide +kernel
theorem dX8_wordOf_87 : decode cX8_wordOf 87 = .ok (.goto 51, 3) := by decide +kernel
theorem dX8_wordOf_90 : decode cX8_wordOf 90 = .ok (.aload_n 0, 1) := by decide +kernel
theorem dX8_wordOf_91 : decode cX8_wordOf 91 = .ok (.bipush 108, 2) := by decide +kernel
theorem dX8_wordOf_93 : decode cX8_wordOf 93 = .ok (.bipush 101, 2) := by decide +kernel
theorem dX8_wordOf_95 : decode cX8_wordOf 95 = .ok (.bipush 97, 2) := by decide +kernel
theorem dX8_wordOf_97 : decode cX8_wordOf 97 = .ok (.bipush 118, 2) := by decide +kernel
theorem dX8_wordOf_99 : decode cX8_wordOf 99 = .ok (.bipush 101, 2) := by decide +kernel
theorem dX8_wordOf_101 : decode cX8_wordOf 101 = .ok (.iconst 0, 1) := by decide +kernel
theorem dX8_wordOf_102 : decode cX8_wordOf 102 = .ok (.iconst 5, 1) := by decide +kernel
theorem dX8_wordOf_103 : decode cX8_wordOf 103 = .ok (.invokevirtual 93, 3) := by decide +kernel
theorem dX8_wordOf_106 : decode cX8_wordOf 106 = .ok (.ifCond .eq 7, 3) := by decide +kernel
theorem dX8_wordOf_109 : decode cX8_wordOf 109 = .ok (.iconst 4, 1) := by decide +kernel
theorem dX8_wordOf_110 : decode cX8_wordOf 110 = .ok (.goto 28, 3) := by decide +kernel
theorem dX8_wordOf_113 : decode cX8_wordOf 113 = .ok (.aload_n 0, 1) := by decide +kernel
theorem dX8_wordOf_114 : decode cX8_wordOf 114 = .ok (.bipush 121, 2) := by decide +kernel
theorem dX8_wordOf_116 : decode cX8_wordOf 116 = .ok (.bipush 101, 2) := by decide +kernel
theorem dX8_wordOf_118 : decode cX8_wordOf 118 = .ok (.bipush 97, 2) := by decide +kernel
theorem dX8_wordOf_120 : decode cX8_wordOf 120 = .ok (.bipush 114, 2) := by decide +kernel
theorem dX8_wordOf_122 : decode cX8_wordOf 122 = .ok (.bipush 115, 2) := by decide +kernel
theorem dX8_wordOf_124 : decode cX8_wordOf 124 = .ok (.iconst 0, 1) := by decide +kernel
theorem dX8_wordOf_125 : decode cX8_wordOf 125 = .ok (.iconst 5, 1) := by decide +kernel
theorem dX8_wordOf_126 : decode cX8_wordOf 126 = .ok (.invokevirtual 93, 3) := by decide +kernel
theorem dX8_wordOf_129 : decode cX8_wordOf 129 = .ok (.ifCond .eq 7, 3) := by decide +kernel
theorem dX8_wordOf_132 : decode cX8_wordOf 132 = .ok (.iconst 5, 1) := by decide +kernel
theorem dX8_wordOf_133 : decode cX8_wordOf 133 = .ok (.goto 5, 3) := by decide +kernel
theorem dX8_wordOf_136 : decode cX8_wordOf 136 = .ok (.bipush 9, 2) := by decide +kernel
theorem dX8_wordOf_138 : decode cX8_wordOf 138 = .ok (.ireturn, 1) := by decide +kernel
theorem dX8_step_0 : decode cX8_step 0 = .ok (.aload_n 0, 1) := by decide +kernel
theorem dX8_step_1 : decode cX8_step 1 = .ok (.invokevirtual 97, 3) := by decide +kernel
theorem dX8_step_4 : decode cX8_step 4 = .ok (.bipush 32, 2) := by decide +kernel
theorem dX8_step_6 : decode cX8_step 6 = .ok (.if_icmp .ne 16, 3) := by decide +kernel
theorem dX8_step_9 : decode cX8_step 9 = .ok (.aload_n 0, 1) := by decide +kernel
theorem dX8_step_10 : decode cX8_step 10 = .ok (.dup, 1) := by decide +kernel
theorem dX8_step_11 : decode cX8_step 11 = .ok (.getfield 87, 3) := by decide +kernel
theorem dX8_step_14 : decode cX8_step 14 = .ok (.iconst 1, 1) := by decide +kernel
theorem dX8_step_15 : decode cX8_step 15 = .ok (.iadd, 1) := by decide +kernel
theorem dX8_step_16 : decode cX8_step 16 = .ok (.putfield 87, 3) := by decide +kernel
theorem dX8_step_19 : decode cX8_step 19 = .ok (.goto (-19), 3) := by decide +kernel
theorem dX8_step_22 : decode cX8_step 22 = .ok (.aload_n 0, 1) := by decide +kernel
theorem dX8_step_23 : decode cX8_step 23 = .ok (.aload_n 0, 1) := by decide +kernel
theorem dX8_step_24 : decode cX8_step 24 = .ok (.getfield 87, 3) := by decide +kernel
theorem dX8_step_27 : decode cX8_step 27 = .ok (.putfield 90, 3) := by decide +kernel
theorem dX8_step_30 : decode cX8_step 30 = .ok (.aload_n 0, 1) := by decide +kernel
theorem dX8_step_31 : decode cX8_step 31 = .ok (.iconst 0, 1) := by decide +kernel
theorem dX8_step_32 : decode cX8_step 32 = .ok (.putfield 100, 3) := by decide +kernel
theorem dX8_step_35 : decode cX8_step 35 = .ok (.aload_n 0, 1) := by decide +kernel
theorem dX8_step_36 : decode cX8_step 36 = .ok (.invokevirtual 97, 3) := by decide +kernel
theorem dX8_step_39 : decode cX8_step 39 = .ok (.istore_n 1, 1) := by decide +kernel
theorem dX8_step_40 : decode cX8_step 40 = .ok (.iload_n 1, 1) := by decide +kernel
theorem dX8_step_41 : decode cX8_step 41 = .ok (.iconst (-1), 1) := by decide +kernel
theorem dX8_step_42 : decode cX8_step 42 = .ok (.if_icmp .ne 12, 3) := by decide +kernel
theorem dX8_step_45 : decode cX8_step 45 = .ok (.aload_n 0, 1) := by decide +kernel
theorem dX8_step_46 : decode cX8_step 46 = .ok (.bipush 8, 2) := by decide +kernel
theorem dX8_step_48 : decode cX8_step 48 = .ok (.putfield 103, 3) := by decide +kernel
theorem dX8_step_51 : decode cX8_step 51 = .ok (.goto 179, 3) := by decide +kernel
theorem dX8_step_54 : decode cX8_step 54 = .ok (.iload_n 1, 1) := by decide +kernel
theorem dX8_step_55 : decode cX8_step 55 = .ok (.bipush 48, 2) := by decide +kernel
theorem dX8_step_57 : decode cX8_step 57 = .ok (.bipush 57, 2) := by decide +kernel
theorem dX8_step_59 : decode cX8_step 59 = .ok (.invokestatic 44, 3) := by decide +kernel
theorem dX8_step_62 : decode cX8_step 62 = .ok (.ifCond .eq 92, 3) := by decide +kernel
theorem dX8_step_65 : decode cX8_step 65 = .ok (.aload_n 0, 1) := by decide +kernel
theorem dX8_step_66 : decode cX8_step 66 = .ok (.invokevirtual 97, 3) := by decide +kernel
theorem dX8_step_69 : decode cX8_step 69 = .ok (.bipush 48, 2) := by decide +kernel
theorem dX8_step_71 : decode cX8_step 71 = .ok (.bipush 57, 2) := by decide +kernel
theorem dX8_step_73 : decode cX8_step 73 = .ok (.invokestatic 44, 3) := by decide +kernel
theorem dX8_step_76 : decode cX8_step 76 = .ok (.ifCond .eq 51, 3) := by decide +kernel
theorem dX8_step_79 : decode cX8_step 79 = .ok (.aload_n 0, 1) := by decide +kernel
theorem dX8_step_80 : decode cX8_step 80 = .ok (.aload_n 0, 1) := by decide +kernel
theorem dX8_step_81 : decode cX8_step 81 = .ok (.getfield 100, 3) := by decide +kernel
theorem dX8_step_84 : decode cX8_step 84 = .ok (.bipush 99, 2) := by decide +kernel
theorem dX8_step_86 : decode cX8_step 86 = .ok (.if_icmp .le 10, 3) := by decide +kernel
theorem dX8_step_89 : decode cX8_step 89 = .ok (.aload_n 0, 1) := by decide +kernel
theorem dX8_step_90 : decode cX8_step 90 = .ok (.getfield 100, 3) := by decide +kernel
theorem dX8_step_93 : decode cX8_step 93 = .ok (.goto 18, 3) := by decide +kernel
theorem dX8_step_96 : decode cX8_step 96 = .ok (.bipush 10, 2) := by decide +kernel
theorem dX8_step_98 : decode cX8_step 98 = .ok (.aload_n 0, 1) := by decide +kernel
theorem dX8_step_99 : decode cX8_step 99 = .ok (.getfield 100, 3) := by decide +kernel
theorem dX8_step_102 : decode cX8_step 102 = .ok (.imul, 1) := by decide +kernel
theorem dX8_step_103 : decode cX8_step 103 = .ok (.aload_n 0, 1) := by decide +kernel
theorem dX8_step_104 : decode cX8_step 104 = .ok (.invokevirtual 97, 3) := by decide +kernel
theorem dX8_step_107 : decode cX8_step 107 = .ok (.iadd, 1) := by decide +kernel
theorem dX8_step_108 : decode cX8_step 108 = .ok (.bipush 48, 2) := by decide +kernel
theorem dX8_step_110 : decode cX8_step 110 = .ok (.isub, 1) := by decide +kernel
theorem dX8_step_111 : decode cX8_step 111 = .ok (.putfield 100, 3) := by decide +kernel
theorem dX8_step_114 : decode cX8_step 114 = .ok (.aload_n 0, 1) := by decide +kernel
theorem dX8_step_115 : decode cX8_step 115 = .ok (.dup, 1) := by decide +kernel
theorem dX8_step_116 : decode cX8_step 116 = .ok (.getfield 87, 3) := by decide +kernel
theorem dX8_step_119 : decode cX8_step 119 = .ok (.iconst 1, 1) := by decide +kernel
theorem dX8_step_120 : decode cX8_step 120 = .ok (.iadd, 1) := by decide +kernel
theorem dX8_step_121 : decode cX8_step 121 = .ok (.putfield 87, 3) := by decide +kernel
theorem dX8_step_124 : decode cX8_step 124 = .ok (.goto (-59), 3) := by decide +kernel
theorem dX8_step_127 : decode cX8_step 127 = .ok (.aload_n 0, 1) := by decide +kernel
theorem dX8_step_128 : decode cX8_step 128 = .ok (.aload_n 0, 1) := by decide +kernel
theorem dX8_step_129 : decode cX8_step 129 = .ok (.getfield 87, 3) := by decide +kernel
theorem dX8_step_132 : decode cX8_step 132 = .ok (.aload_n 0, 1) := by decide +kernel
theorem dX8_step_133 : decode cX8_step 133 = .ok (.getfield 90, 3) := by decide +kernel
theorem dX8_step_136 : decode cX8_step 136 = .ok (.isub, 1) := by decide +kernel
theorem dX8_step_137 : decode cX8_step 137 = .ok (.iconst 2, 1) := by decide +kernel
theorem dX8_step_138 : decode cX8_step 138 = .ok (.if_icmp .le 8, 3) := by decide +kernel
theorem dX8_step_141 : decode cX8_step 141 = .ok (.bipush 9, 2) := by decide +kernel
theorem dX8_step_143 : decode cX8_step 143 = .ok (.goto 5, 3) := by decide +kernel
theorem dX8_step_146 : decode cX8_step 146 = .ok (.bipush 6, 2) := by decide +kernel
theorem dX8_step_148 : decode cX8_step 148 = .ok (.putfield 103, 3) := by decide +kernel
theorem dX8_step_151 : decode cX8_step 151 = .ok (.goto 79, 3) := by decide +kernel
theorem dX8_step_154 : decode cX8_step 154 = .ok (.iload_n 1, 1) := by decide +kernel
theorem dX8_step_155 : decode cX8_step 155 = .ok (.bipush 97, 2) := by decide +kernel
theorem dX8_step_157 : decode cX8_step 157 = .ok (.bipush 122, 2) := by decide +kernel
theorem dX8_step_159 : decode cX8_step 159 = .ok (.invokestatic 44, 3) := by decide +kernel
theorem dX8_step_162 : decode cX8_step 162 = .ok (.ifCond .eq 41, 3) := by decide +kernel
theorem dX8_step_165 : decode cX8_step 165 = .ok (.aload_n 0, 1) := by decide +kernel
theorem dX8_step_166 : decode cX8_step 166 = .ok (.invokevirtual 97, 3) := by decide +kernel
theorem dX8_step_169 : decode cX8_step 169 = .ok (.bipush 97, 2) := by decide +kernel
theorem dX8_step_171 : decode cX8_step 171 = .ok (.bipush 122, 2) := by decide +kernel
theorem dX8_step_173 : decode cX8_step 173 = .ok (.invokestatic 44, 3) := by decide +kernel
theorem dX8_step_176 : decode cX8_step 176 = .ok (.ifCond .eq 16, 3) := by decide +kernel
theorem dX8_step_179 : decode cX8_step 179 = .ok (.aload_n 0, 1) := by decide +kernel
theorem dX8_step_180 : decode cX8_step 180 = .ok (.dup, 1) := by decide +kernel
theorem dX8_step_181 : decode cX8_step 181 = .ok (.getfield 87, 3) := by decide +kernel
theorem dX8_step_184 : decode cX8_step 184 = .ok (.iconst 1, 1) := by decide +kernel
theorem dX8_step_185 : decode cX8_step 185 = .ok (.iadd, 1) := by decide +kernel
theorem dX8_step_186 : decode cX8_step 186 = .ok (.putfield 87, 3) := by decide +kernel
theorem dX8_step_189 : decode cX8_step 189 = .ok (.goto (-24), 3) := by decide +kernel
theorem dX8_step_192 : decode cX8_step 192 = .ok (.aload_n 0, 1) := by decide +kernel
theorem dX8_step_193 : decode cX8_step 193 = .ok (.aload_n 0, 1) := by decide +kernel
theorem dX8_step_194 : decode cX8_step 194 = .ok (.invokevirtual 106, 3) := by decide +kernel
theorem dX8_step_197 : decode cX8_step 197 = .ok (.putfield 103, 3) := by decide +kernel
theorem dX8_step_200 : decode cX8_step 200 = .ok (.goto 30, 3) := by decide +kernel
theorem dX8_step_203 : decode cX8_step 203 = .ok (.aload_n 0, 1) := by decide +kernel
theorem dX8_step_204 : decode cX8_step 204 = .ok (.dup, 1) := by decide +kernel
theorem dX8_step_205 : decode cX8_step 205 = .ok (.getfield 87, 3) := by decide +kernel
theorem dX8_step_208 : decode cX8_step 208 = .ok (.iconst 1, 1) := by decide +kernel
theorem dX8_step_209 : decode cX8_step 209 = .ok (.iadd, 1) := by decide +kernel
theorem dX8_step_210 : decode cX8_step 210 = .ok (.putfield 87, 3) := by decide +kernel
theorem dX8_step_213 : decode cX8_step 213 = .ok (.aload_n 0, 1) := by decide +kernel
theorem dX8_step_214 : decode cX8_step 214 = .ok (.iload_n 1, 1) := by decide +kernel
theorem dX8_step_215 : decode cX8_step 215 = .ok (.bipush 59, 2) := by decide +kernel
theorem dX8_step_217 : decode cX8_step 217 = .ok (.if_icmp .ne 8, 3) := by decide +kernel
theorem dX8_step_220 : decode cX8_step 220 = .ok (.bipush 7, 2) := by decide +kernel
theorem dX8_step_222 : decode cX8_step 222 = .ok (.goto 5, 3) := by decide +kernel
theorem dX8_step_225 : decode cX8_step 225 = .ok (.bipush 9, 2) := by decide +kernel
theorem dX8_step_227 : decode cX8_step 227 = .ok (.putfield 103, 3) := by decide +kernel
theorem dX8_step_230 : decode cX8_step 230 = .ok (.return_, 1) := by decide +kernel
theorem dX8_due_0 : decode cX8_due 0 = .ok (.aload_n 0, 1) := by decide +kernel
theorem dX8_due_1 : decode cX8_due 1 = .ok (.getfield 109, 3) := by decide +kernel
theorem dX8_due_4 : decode cX8_due 4 = .ok (.ifCond .eq 4, 3) := by decide +kernel
theorem dX8_due_7 : decode cX8_due 7 = .ok (.return_, 1) := by decide +kernel
theorem dX8_due_8 : decode cX8_due 8 = .ok (.iload_n 1, 1) := by decide +kernel
theorem dX8_due_9 : decode cX8_due 9 = .ok (.ifCond .eq 10, 3) := by decide +kernel
theorem dX8_due_12 : decode cX8_due 12 = .ok (.aload_n 0, 1) := by decide +kernel
theorem dX8_due_13 : decode cX8_due 13 = .ok (.invokevirtual 113, 3) := by decide +kernel
theorem dX8_due_16 : decode cX8_due 16 = .ok (.goto 8, 3) := by decide +kernel
theorem dX8_due_19 : decode cX8_due 19 = .ok (.aload_n 0, 1) := by decide +kernel
theorem dX8_due_20 : decode cX8_due 20 = .ok (.iconst 1, 1) := by decide +kernel
theorem dX8_due_21 : decode cX8_due 21 = .ok (.putfield 109, 3) := by decide +kernel
theorem dX8_due_24 : decode cX8_due 24 = .ok (.return_, 1) := by decide +kernel
theorem dX8_number_0 : decode cX8_number 0 = .ok (.aload_n 0, 1) := by decide +kernel
theorem dX8_number_1 : decode cX8_number 1 = .ok (.getfield 100, 3) := by decide +kernel
theorem dX8_number_4 : decode cX8_number 4 = .ok (.istore_n 3, 1) := by decide +kernel
theorem dX8_number_5 : decode cX8_number 5 = .ok (.aload_n 0, 1) := by decide +kernel
theorem dX8_number_6 : decode cX8_number 6 = .ok (.aload_n 0, 1) := by decide +kernel
theorem dX8_number_7 : decode cX8_number 7 = .ok (.getfield 103, 3) := by decide +kernel
theorem dX8_number_10 : decode cX8_number 10 = .ok (.bipush 6, 2) := by decide +kernel
theorem dX8_number_12 : decode cX8_number 12 = .ok (.if_icmp .ne 16, 3) := by decide +kernel
theorem dX8_number_15 : decode cX8_number 15 = .ok (.iload_n 3, 1) := by decide +kernel
theorem dX8_number_16 : decode cX8_number 16 = .ok (.iload_n 1, 1) := by decide +kernel
theorem dX8_number_17 : decode cX8_number 17 = .ok (.iload_n 2, 1) := by decide +kernel
theorem dX8_number_18 : decode cX8_number 18 = .ok (.invokestatic 44, 3) := by decide +kernel
theorem dX8_number_21 : decode cX8_number 21 = .ok (.ifCond .eq 7, 3) := by decide +kernel
theorem dX8_number_24 : decode cX8_number 24 = .ok (.iconst 1, 1) := by decide +kernel
theorem dX8_number_25 : decode cX8_number 25 = .ok (.goto 4, 3) := by decide +kernel
theorem dX8_number_28 : decode cX8_number 28 = .ok (.iconst 0, 1) := by decide +kernel
theorem dX8_number_29 : decode cX8_number 29 = .ok (.invokevirtual 116, 3) := by decide +kernel
theorem dX8_number_32 : decode cX8_number 32 = .ok (.iload_n 3, 1) := by decide +kernel
theorem dX8_number_33 : decode cX8_number 33 = .ok (.ireturn, 1) := by decide +kernel
theorem dX8_readThing_0 : decode cX8_readThing 0 = .ok (.aload_n 0, 1) := by decide +kernel
theorem dX8_readThing_1 : decode cX8_readThing 1 = .ok (.iconst 0, 1) := by decide +kernel
theorem dX8_readThing_2 : decode cX8_readThing 2 = .ok (.iconst 5, 1) := by decide +kernel
theorem dX8_readThing_3 : decode cX8_readThing 3 = .ok (.invokevirtual 120, 3) := by decide +kernel
theorem dX8_readThing_6 : decode cX8_readThing 6 = .ok (.istore_n 1, 1) := by decide +kernel
theorem dX8_readThing_7 : decode cX8_readThing 7 = .ok (.aload_n 0, 1) := by decide +kernel
theorem dX8_readThing_8 : decode cX8_readThing 8 = .ok (.iconst 1, 1) := by decide +kernel
theorem dX8_readThing_9 : decode cX8_readThing 9 = .ok (.bipush 30, 2) := by decide +kernel
theorem dX8_readThing_11 : decode cX8_readThing 11 = .ok (.invokevirtual 120, 3) := by decide +kernel
theorem dX8_readThing_14 : decode cX8_readThing 14 = .ok (.istore_n 2, 1) := by decide +kernel
theorem dX8_readThing_15 : decode cX8_readThing 15 = .ok (.aload_n 0, 1) := by decide +kernel
theorem dX8_readThing_16 : decode cX8_readThing 16 = .ok (.getfield 109, 3) := by decide +kernel
theorem dX8_readThing_19 : decode cX8_readThing 19 = .ok (.ifCond .ne 13, 3) := by decide +kernel
theorem dX8_readThing_22 : decode cX8_readThing 22 = .ok (.aload_n 0, 1) := by decide +kernel
theorem dX8_readThing_23 : decode cX8_readThing 23 = .ok (.sipush 738, 3) := by decide +kernel
theorem dX8_readThing_26 : decode cX8_readThing 26 = .ok (.iload_n 1, 1) := by decide +kernel
theorem dX8_readThing_27 : decode cX8_readThing 27 = .ok (.iload_n 2, 1) := by decide +kernel
theorem dX8_readThing_28 : decode cX8_readThing 28 = .ok (.invokevirtual 76, 3) := by decide +kernel
theorem dX8_readThing_31 : decode cX8_readThing 31 = .ok (.pop, 1) := by decide +kernel
theorem dX8_readThing_32 : decode cX8_readThing 32 = .ok (.return_, 1) := by decide +kernel
theorem dX8_readOne_0 : decode cX8_readOne 0 = .ok (.aload_n 0, 1) := by decide +kernel
theorem dX8_readOne_1 : decode cX8_readOne 1 = .ok (.iconst 0, 1) := by decide +kernel
theorem dX8_readOne_2 : decode cX8_readOne 2 = .ok (.iconst 5, 1) := by decide +kernel
theorem dX8_readOne_3 : decode cX8_readOne 3 = .ok (.invokevirtual 120, 3) := by decide +kernel
theorem dX8_readOne_6 : decode cX8_readOne 6 = .ok (.istore_n 1, 1) := by decide +kernel
theorem dX8_readOne_7 : decode cX8_readOne 7 = .ok (.aload_n 0, 1) := by decide +kernel
theorem dX8_readOne_8 : decode cX8_readOne 8 = .ok (.iconst 1, 1) := by decide +kernel
theorem dX8_readOne_9 : decode cX8_readOne 9 = .ok (.bipush 9, 2) := by decide +kernel
theorem dX8_readOne_11 : decode cX8_readOne 11 = .ok (.invokevirtual 120, 3) := by decide +kernel
theorem dX8_readOne_14 : decode cX8_readOne 14 = .ok (.istore_n 2, 1) := by decide +kernel
theorem dX8_readOne_15 : decode cX8_readOne 15 = .ok (.aload_n 0, 1) := by decide +kernel
theorem dX8_readOne_16 : decode cX8_readOne 16 = .ok (.iconst 0, 1) := by decide +kernel
theorem dX8_readOne_17 : decode cX8_readOne 17 = .ok (.bipush 99, 2) := by decide +kernel
theorem dX8_readOne_19 : decode cX8_readOne 19 = .ok (.invokevirtual 120, 3) := by decide +kernel
theorem dX8_readOne_22 : decode cX8_readOne 22 = .ok (.istore_n 3, 1) := by decide +kernel
theorem dX8_readOne_23 : decode cX8_readOne 23 = .ok (.aload_n 0, 1) := by decide +kernel
theorem dX8_readOne_24 : decode cX8_readOne 24 = .ok (.getfield 109, 3) := by decide +kernel
theorem dX8_readOne_27 : decode cX8_readOne 27 = .ok (.ifCond .ne 14, 3) := by decide +kernel
theorem dX8_readOne_30 : decode cX8_readOne 30 = .ok (.aload_n 0, 1) := by decide +kernel
theorem dX8_readOne_31 : decode cX8_readOne 31 = .ok (.sipush 738, 3) := by decide +kernel
theorem dX8_readOne_34 : decode cX8_readOne 34 = .ok (.iload_n 1, 1) := by decide +kernel
theorem dX8_readOne_35 : decode cX8_readOne 35 = .ok (.iload_n 2, 1) := by decide +kernel
theorem dX8_readOne_36 : decode cX8_readOne 36 = .ok (.iload_n 3, 1) := by decide +kernel
theorem dX8_readOne_37 : decode cX8_readOne 37 = .ok (.invokevirtual 79, 3) := by decide +kernel
theorem dX8_readOne_40 : decode cX8_readOne 40 = .ok (.pop, 1) := by decide +kernel
theorem dX8_readOne_41 : decode cX8_readOne 41 = .ok (.return_, 1) := by decide +kernel
theorem dX8_readOwn_0 : decode cX8_readOwn 0 = .ok (.aload_n 0, 1) := by decide +kernel
theorem dX8_readOwn_1 : decode cX8_readOwn 1 = .ok (.getfield 100, 3) := by decide +kernel
theorem dX8_readOwn_4 : decode cX8_readOwn 4 = .ok (.istore_n 1, 1) := by decide +kernel
theorem dX8_readOwn_5 : decode cX8_readOwn 5 = .ok (.aload_n 0, 1) := by decide +kernel
theorem dX8_readOwn_6 : decode cX8_readOwn 6 = .ok (.getfield 103, 3) := by decide +kernel
theorem dX8_readOwn_9 : decode cX8_readOwn 9 = .ok (.bipush 6, 2) := by decide +kernel
theorem dX8_readOwn_11 : decode cX8_readOwn 11 = .ok (.if_icmp .ne 34, 3) := by decide +kernel
theorem dX8_readOwn_14 : decode cX8_readOwn 14 = .ok (.iload_n 1, 1) := by decide +kernel
theorem dX8_readOwn_15 : decode cX8_readOwn 15 = .ok (.aload_n 0, 1) := by decide +kernel
theorem dX8_readOwn_16 : decode cX8_readOwn 16 = .ok (.getfield 13, 3) := by decide +kernel
theorem dX8_readOwn_19 : decode cX8_readOwn 19 = .ok (.sipush 739, 3) := by decide +kernel
theorem dX8_readOwn_22 : decode cX8_readOwn 22 = .ok (.iaload, 1) := by decide +kernel
theorem dX8_readOwn_23 : decode cX8_readOwn 23 = .ok (.if_icmp .ge 22, 3) := by decide +kernel
theorem dX8_readOwn_26 : decode cX8_readOwn 26 = .ok (.aload_n 0, 1) := by decide +kernel
theorem dX8_readOwn_27 : decode cX8_readOwn 27 = .ok (.getfield 13, 3) := by decide +kernel
theorem dX8_readOwn_30 : decode cX8_readOwn 30 = .ok (.sipush 773, 3) := by decide +kernel
theorem dX8_readOwn_33 : decode cX8_readOwn 33 = .ok (.iaload, 1) := by decide +kernel
theorem dX8_readOwn_34 : decode cX8_readOwn 34 = .ok (.iload_n 1, 1) := by decide +kernel
theorem dX8_readOwn_35 : decode cX8_readOwn 35 = .ok (.invokestatic 61, 3) := by decide +kernel
theorem dX8_readOwn_38 : decode cX8_readOwn 38 = .ok (.ifCond .ne 7, 3) := by decide +kernel
theorem dX8_readOwn_41 : decode cX8_readOwn 41 = .ok (.iconst 1, 1) := by decide +kernel
theorem dX8_readOwn_42 : decode cX8_readOwn 42 = .ok (.goto 4, 3) := by decide +kernel
theorem dX8_readOwn_45 : decode cX8_readOwn 45 = .ok (.iconst 0, 1) := by decide +kernel
theorem dX8_readOwn_46 : decode cX8_readOwn 46 = .ok (.istore_n 2, 1) := by decide +kernel
theorem dX8_readOwn_47 : decode cX8_readOwn 47 = .ok (.aload_n 0, 1) := by decide +kernel
theorem dX8_readOwn_48 : decode cX8_readOwn 48 = .ok (.iload_n 2, 1) := by decide +kernel
theorem dX8_readOwn_49 : decode cX8_readOwn 49 = .ok (.ifCond .eq 21, 3) := by decide +kernel
theorem dX8_readOwn_52 : decode cX8_readOwn 52 = .ok (.aload_n 0, 1) := by decide +kernel
theorem dX8_readOwn_53 : decode cX8_readOwn 53 = .ok (.getfield 13, 3) := by decide +kernel
theorem dX8_readOwn_56 : decode cX8_readOwn 56 = .ok (.sipush 781, 3) := by decide +kernel
theorem dX8_readOwn_59 : decode cX8_readOwn 59 = .ok (.iload_n 1, 1) := by decide +kernel
theorem dX8_readOwn_60 : decode cX8_readOwn 60 = .ok (.iadd, 1) := by decide +kernel
theorem dX8_readOwn_61 : decode cX8_readOwn 61 = .ok (.iaload, 1) := by decide +kernel
theorem dX8_readOwn_62 : decode cX8_readOwn 62 = .ok (.iconst (-1), 1) := by decide +kernel
theorem dX8_readOwn_63 : decode cX8_readOwn 63 = .ok (.if_icmp .ne 7, 3) := by decide +kernel
theorem dX8_readOwn_66 : decode cX8_readOwn 66 = .ok (.iconst 1, 1) := by decide +kernel
theorem dX8_readOwn_67 : decode cX8_readOwn 67 = .ok (.goto 4, 3) := by decide +kernel
theorem dX8_readOwn_70 : decode cX8_readOwn 70 = .ok (.iconst 0, 1) := by decide +kernel
theorem dX8_readOwn_71 : decode cX8_readOwn 71 = .ok (.invokevirtual 116, 3) := by decide +kernel
theorem dX8_readOwn_74 : decode cX8_readOwn 74 = .ok (.aload_n 0, 1) := by decide +kernel
theorem dX8_readOwn_75 : decode cX8_readOwn 75 = .ok (.getfield 100, 3) := by decide +kernel
theorem dX8_readOwn_78 : decode cX8_readOwn 78 = .ok (.istore_n 3, 1) := by decide +kernel
theorem dX8_readOwn_79 : decode cX8_readOwn 79 = .ok (.aload_n 0, 1) := by decide +kernel
theorem dX8_readOwn_80 : decode cX8_readOwn 80 = .ok (.aload_n 0, 1) := by decide +kernel
theorem dX8_readOwn_81 : decode cX8_readOwn 81 = .ok (.getfield 103, 3) := by decide +kernel
theorem dX8_readOwn_84 : decode cX8_readOwn 84 = .ok (.bipush 6, 2) := by decide +kernel
theorem dX8_readOwn_86 : decode cX8_readOwn 86 = .ok (.if_icmp .ne 38, 3) := by decide +kernel
theorem dX8_readOwn_89 : decode cX8_readOwn 89 = .ok (.iload_n 3, 1) := by decide +kernel
theorem dX8_readOwn_90 : decode cX8_readOwn 90 = .ok (.aload_n 0, 1) := by decide +kernel
theorem dX8_readOwn_91 : decode cX8_readOwn 91 = .ok (.getfield 13, 3) := by decide +kernel
theorem dX8_readOwn_94 : decode cX8_readOwn 94 = .ok (.sipush 738, 3) := by decide +kernel
theorem dX8_readOwn_97 : decode cX8_readOwn 97 = .ok (.iaload, 1) := by decide +kernel
theorem dX8_readOwn_98 : decode cX8_readOwn 98 = .ok (.if_icmp .ge 26, 3) := by decide +kernel
theorem dX8_readOwn_101 : decode cX8_readOwn 101 = .ok (.aload_n 0, 1) := by decide +kernel
theorem dX8_readOwn_102 : decode cX8_readOwn 102 = .ok (.sipush 738, 3) := by decide +kernel
theorem dX8_readOwn_105 : decode cX8_readOwn 105 = .ok (.aload_n 0, 1) := by decide +kernel
theorem dX8_readOwn_106 : decode cX8_readOwn 106 = .ok (.getfield 13, 3) := by decide +kernel
theorem dX8_readOwn_109 : decode cX8_readOwn 109 = .ok (.sipush 772, 3) := by decide +kernel
theorem dX8_readOwn_112 : decode cX8_readOwn 112 = .ok (.iload_n 3, 1) := by decide +kernel
theorem dX8_readOwn_113 : decode cX8_readOwn 113 = .ok (.invokevirtual 124, 3) := by decide +kernel
theorem dX8_readOwn_116 : decode cX8_readOwn 116 = .ok (.iconst (-1), 1) := by decide +kernel
theorem dX8_readOwn_117 : decode cX8_readOwn 117 = .ok (.if_icmp .ne 7, 3) := by decide +kernel
theorem dX8_readOwn_120 : decode cX8_readOwn 120 = .ok (.iconst 1, 1) := by decide +kernel
theorem dX8_readOwn_121 : decode cX8_readOwn 121 = .ok (.goto 4, 3) := by decide +kernel
theorem dX8_readOwn_124 : decode cX8_readOwn 124 = .ok (.iconst 0, 1) := by decide +kernel
theorem dX8_readOwn_125 : decode cX8_readOwn 125 = .ok (.invokevirtual 116, 3) := by decide +kernel
theorem dX8_readOwn_128 : decode cX8_readOwn 128 = .ok (.aload_n 0, 1) := by decide +kernel
theorem dX8_readOwn_129 : decode cX8_readOwn 129 = .ok (.getfield 109, 3) := by decide +kernel
theorem dX8_readOwn_132 : decode cX8_readOwn 132 = .ok (.ifCond .ne 14, 3) := by decide +kernel
theorem dX8_readOwn_135 : decode cX8_readOwn 135 = .ok (.aload_n 0, 1) := by decide +kernel
theorem dX8_readOwn_136 : decode cX8_readOwn 136 = .ok (.getfield 13, 3) := by decide +kernel
theorem dX8_readOwn_139 : decode cX8_readOwn 139 = .ok (.sipush 781, 3) := by decide +kernel
theorem dX8_readOwn_142 : decode cX8_readOwn 142 = .ok (.iload_n 1, 1) := by decide +kernel
theorem dX8_readOwn_143 : decode cX8_readOwn 143 = .ok (.iadd, 1) := by decide +kernel
theorem dX8_readOwn_144 : decode cX8_readOwn 144 = .ok (.iload_n 3, 1) := by decide +kernel
theorem dX8_readOwn_145 : decode cX8_readOwn 145 = .ok (.iastore, 1) := by decide +kernel
theorem dX8_readOwn_146 : decode cX8_readOwn 146 = .ok (.return_, 1) := by decide +kernel
theorem dX8_readLeave_0 : decode cX8_readLeave 0 = .ok (.aload_n 0, 1) := by decide +kernel
theorem dX8_readLeave_1 : decode cX8_readLeave 1 = .ok (.getfield 100, 3) := by decide +kernel
theorem dX8_readLeave_4 : decode cX8_readLeave 4 = .ok (.istore_n 1, 1) := by decide +kernel
theorem dX8_readLeave_5 : decode cX8_readLeave 5 = .ok (.aload_n 0, 1) := by decide +kernel
theorem dX8_readLeave_6 : decode cX8_readLeave 6 = .ok (.aload_n 0, 1) := by decide +kernel
theorem dX8_readLeave_7 : decode cX8_readLeave 7 = .ok (.getfield 103, 3) := by decide +kernel
theorem dX8_readLeave_10 : decode cX8_readLeave 10 = .ok (.bipush 6, 2) := by decide +kernel
theorem dX8_readLeave_12 : decode cX8_readLeave 12 = .ok (.if_icmp .ne 33, 3) := by decide +kernel
theorem dX8_readLeave_15 : decode cX8_readLeave 15 = .ok (.iload_n 1, 1) := by decide +kernel
theorem dX8_readLeave_16 : decode cX8_readLeave 16 = .ok (.aload_n 0, 1) := by decide +kernel
theorem dX8_readLeave_17 : decode cX8_readLeave 17 = .ok (.getfield 13, 3) := by decide +kernel
theorem dX8_readLeave_20 : decode cX8_readLeave 20 = .ok (.sipush 739, 3) := by decide +kernel
theorem dX8_readLeave_23 : decode cX8_readLeave 23 = .ok (.iaload, 1) := by decide +kernel
theorem dX8_readLeave_24 : decode cX8_readLeave 24 = .ok (.if_icmp .ge 21, 3) := by decide +kernel
theorem dX8_readLeave_27 : decode cX8_readLeave 27 = .ok (.aload_n 0, 1) := by decide +kernel
theorem dX8_readLeave_28 : decode cX8_readLeave 28 = .ok (.getfield 13, 3) := by decide +kernel
theorem dX8_readLeave_31 : decode cX8_readLeave 31 = .ok (.sipush 781, 3) := by decide +kernel
theorem dX8_readLeave_34 : decode cX8_readLeave 34 = .ok (.iload_n 1, 1) := by decide +kernel
theorem dX8_readLeave_35 : decode cX8_readLeave 35 = .ok (.iadd, 1) := by decide +kernel
theorem dX8_readLeave_36 : decode cX8_readLeave 36 = .ok (.iaload, 1) := by decide +kernel
theorem dX8_readLeave_37 : decode cX8_readLeave 37 = .ok (.iconst (-1), 1) := by decide +kernel
theorem dX8_readLeave_38 : decode cX8_readLeave 38 = .ok (.if_icmp .eq 7, 3) := by decide +kernel
theorem dX8_readLeave_41 : decode cX8_readLeave 41 = .ok (.iconst 1, 1) := by decide +kernel
theorem dX8_readLeave_42 : decode cX8_readLeave 42 = .ok (.goto 4, 3) := by decide +kernel
theorem dX8_readLeave_45 : decode cX8_readLeave 45 = .ok (.iconst 0, 1) := by decide +kernel
theorem dX8_readLeave_46 : decode cX8_readLeave 46 = .ok (.invokevirtual 116, 3) := by decide +kernel
theorem dX8_readLeave_49 : decode cX8_readLeave 49 = .ok (.aload_n 0, 1) := by decide +kernel
theorem dX8_readLeave_50 : decode cX8_readLeave 50 = .ok (.getfield 109, 3) := by decide +kernel
theorem dX8_readLeave_53 : decode cX8_readLeave 53 = .ok (.ifCond .ne 14, 3) := by decide +kernel
theorem dX8_readLeave_56 : decode cX8_readLeave 56 = .ok (.aload_n 0, 1) := by decide +kernel
theorem dX8_readLeave_57 : decode cX8_readLeave 57 = .ok (.getfield 13, 3) := by decide +kernel
theorem dX8_readLeave_60 : decode cX8_readLeave 60 = .ok (.sipush 781, 3) := by decide +kernel
theorem dX8_readLeave_63 : decode cX8_readLeave 63 = .ok (.iload_n 1, 1) := by decide +kernel
theorem dX8_readLeave_64 : decode cX8_readLeave 64 = .ok (.iadd, 1) := by decide +kernel
theorem dX8_readLeave_65 : decode cX8_readLeave 65 = .ok (.iconst (-1), 1) := by decide +kernel
theorem dX8_readLeave_66 : decode cX8_readLeave 66 = .ok (.iastore, 1) := by decide +kernel
theorem dX8_readLeave_67 : decode cX8_readLeave 67 = .ok (.return_, 1) := by decide +kernel
theorem dX8_readYears_0 : decode cX8_readYears 0 = .ok (.aload_n 0, 1) := by decide +kernel
theorem dX8_readYears_1 : decode cX8_readYears 1 = .ok (.iconst 1, 1) := by decide +kernel
theorem dX8_readYears_2 : decode cX8_readYears 2 = .ok (.bipush 99, 2) := by decide +kernel
theorem dX8_readYears_4 : decode cX8_readYears 4 = .ok (.invokevirtual 120, 3) := by decide +kernel
theorem dX8_readYears_7 : decode cX8_readYears 7 = .ok (.istore_n 1, 1) := by decide +kernel
theorem dX8_readYears_8 : decode cX8_readYears 8 = .ok (.iconst 0, 1) := by decide +kernel
theorem dX8_readYears_9 : decode cX8_readYears 9 = .ok (.istore_n 2, 1) := by decide +kernel
theorem dX8_readYears_10 : decode cX8_readYears 10 = .ok (.iload_n 2, 1) := by decide +kernel
theorem dX8_readYears_11 : decode cX8_readYears 11 = .ok (.iload_n 1, 1) := by decide +kernel
theorem dX8_readYears_12 : decode cX8_readYears 12 = .ok (.if_icmp .ge 44, 3) := by decide +kernel
theorem dX8_readYears_15 : decode cX8_readYears 15 = .ok (.aload_n 0, 1) := by decide +kernel
theorem dX8_readYears_16 : decode cX8_readYears 16 = .ok (.getfield 109, 3) := by decide +kernel
theorem dX8_readYears_19 : decode cX8_readYears 19 = .ok (.ifCond .ne 37, 3) := by decide +kernel
theorem dX8_readYears_22 : decode cX8_readYears 22 = .ok (.aload_n 0, 1) := by decide +kernel
theorem dX8_readYears_23 : decode cX8_readYears 23 = .ok (.getfield 13, 3) := by decide +kernel
theorem dX8_readYears_26 : decode cX8_readYears 26 = .ok (.sipush 772, 3) := by decide +kernel
theorem dX8_readYears_29 : decode cX8_readYears 29 = .ok (.iaload, 1) := by decide +kernel
theorem dX8_readYears_30 : decode cX8_readYears 30 = .ok (.sipush 999, 3) := by decide +kernel
theorem dX8_readYears_33 : decode cX8_readYears 33 = .ok (.if_icmp .ge 23, 3) := by decide +kernel
theorem dX8_readYears_36 : decode cX8_readYears 36 = .ok (.aload_n 0, 1) := by decide +kernel
theorem dX8_readYears_37 : decode cX8_readYears 37 = .ok (.sipush 738, 3) := by decide +kernel
theorem dX8_readYears_40 : decode cX8_readYears 40 = .ok (.aload_n 0, 1) := by decide +kernel
theorem dX8_readYears_41 : decode cX8_readYears 41 = .ok (.getfield 13, 3) := by decide +kernel
theorem dX8_readYears_44 : decode cX8_readYears 44 = .ok (.sipush 772, 3) := by decide +kernel
theorem dX8_readYears_47 : decode cX8_readYears 47 = .ok (.invokevirtual 128, 3) := by decide +kernel
theorem dX8_readYears_50 : decode cX8_readYears 50 = .ok (.iinc 2 1, 3) := by decide +kernel
theorem dX8_readYears_53 : decode cX8_readYears 53 = .ok (.goto (-43), 3) := by decide +kernel
theorem dX8_readYears_56 : decode cX8_readYears 56 = .ok (.return_, 1) := by decide +kernel
theorem dX8_item_0 : decode cX8_item 0 = .ok (.iload_n 1, 1) := by decide +kernel
theorem dX8_item_1 : decode cX8_item 1 = .ok (.tableswitch 66 0 4 #[35, 38, 45, 52, 59], 35) := by decide +kernel
theorem dX8_item_36 : decode cX8_item 36 = .ok (.goto 35, 3) := by decide +kernel
theorem dX8_item_39 : decode cX8_item 39 = .ok (.aload_n 0, 1) := by decide +kernel
theorem dX8_item_40 : decode cX8_item 40 = .ok (.invokevirtual 132, 3) := by decide +kernel
theorem dX8_item_43 : decode cX8_item 43 = .ok (.goto 28, 3) := by decide +kernel
theorem dX8_item_46 : decode cX8_item 46 = .ok (.aload_n 0, 1) := by decide +kernel
theorem dX8_item_47 : decode cX8_item 47 = .ok (.invokevirtual 135, 3) := by decide +kernel
theorem dX8_item_50 : decode cX8_item 50 = .ok (.goto 21, 3) := by decide +kernel
theorem dX8_item_53 : decode cX8_item 53 = .ok (.aload_n 0, 1) := by decide +kernel
theorem dX8_item_54 : decode cX8_item 54 = .ok (.invokevirtual 138, 3) := by decide +kernel
theorem dX8_item_57 : decode cX8_item 57 = .ok (.goto 14, 3) := by decide +kernel
theorem dX8_item_60 : decode cX8_item 60 = .ok (.aload_n 0, 1) := by decide +kernel
theorem dX8_item_61 : decode cX8_item 61 = .ok (.invokevirtual 141, 3) := by decide +kernel
theorem dX8_item_64 : decode cX8_item 64 = .ok (.goto 7, 3) := by decide +kernel
theorem dX8_item_67 : decode cX8_item 67 = .ok (.aload_n 0, 1) := by decide +kernel
theorem dX8_item_68 : decode cX8_item 68 = .ok (.invokevirtual 144, 3) := by decide +kernel
theorem dX8_item_71 : decode cX8_item 71 = .ok (.return_, 1) := by decide +kernel
theorem dX8_may_0 : decode cX8_may 0 = .ok (.iload_n 1, 1) := by decide +kernel
theorem dX8_may_1 : decode cX8_may 1 = .ok (.iconst 5, 1) := by decide +kernel
theorem dX8_may_2 : decode cX8_may 2 = .ok (.if_icmp .gt 27, 3) := by decide +kernel
theorem dX8_may_5 : decode cX8_may 5 = .ok (.iload_n 1, 1) := by decide +kernel
theorem dX8_may_6 : decode cX8_may 6 = .ok (.ifCond .ne 7, 3) := by decide +kernel
theorem dX8_may_9 : decode cX8_may 9 = .ok (.iconst 1, 1) := by decide +kernel
theorem dX8_may_10 : decode cX8_may 10 = .ok (.goto 4, 3) := by decide +kernel
theorem dX8_may_13 : decode cX8_may 13 = .ok (.iconst 0, 1) := by decide +kernel
theorem dX8_may_14 : decode cX8_may 14 = .ok (.aload_n 0, 1) := by decide +kernel
theorem dX8_may_15 : decode cX8_may 15 = .ok (.getfield 147, 3) := by decide +kernel
theorem dX8_may_18 : decode cX8_may 18 = .ok (.ifCond .ne 7, 3) := by decide +kernel
theorem dX8_may_21 : decode cX8_may 21 = .ok (.iconst 1, 1) := by decide +kernel
theorem dX8_may_22 : decode cX8_may 22 = .ok (.goto 4, 3) := by decide +kernel
theorem dX8_may_25 : decode cX8_may 25 = .ok (.iconst 0, 1) := by decide +kernel
theorem dX8_may_26 : decode cX8_may 26 = .ok (.if_icmp .eq 5, 3) := by decide +kernel
theorem dX8_may_29 : decode cX8_may 29 = .ok (.iconst 0, 1) := by decide +kernel
theorem dX8_may_30 : decode cX8_may 30 = .ok (.ireturn, 1) := by decide +kernel
theorem dX8_may_31 : decode cX8_may 31 = .ok (.iload_n 1, 1) := by decide +kernel
theorem dX8_may_32 : decode cX8_may 32 = .ok (.iconst 1, 1) := by decide +kernel
theorem dX8_may_33 : decode cX8_may 33 = .ok (.if_icmp .ne 16, 3) := by decide +kernel
theorem dX8_may_36 : decode cX8_may 36 = .ok (.aload_n 0, 1) := by decide +kernel
theorem dX8_may_37 : decode cX8_may 37 = .ok (.getfield 13, 3) := by decide +kernel
theorem dX8_may_40 : decode cX8_may 40 = .ok (.sipush 738, 3) := by decide +kernel
theorem dX8_may_43 : decode cX8_may 43 = .ok (.iaload, 1) := by decide +kernel
theorem dX8_may_44 : decode cX8_may 44 = .ok (.bipush 7, 2) := by decide +kernel
theorem dX8_may_46 : decode cX8_may 46 = .ok (.if_icmp .ge 25, 3) := by decide +kernel
theorem dX8_may_49 : decode cX8_may 49 = .ok (.iload_n 1, 1) := by decide +kernel
theorem dX8_may_50 : decode cX8_may 50 = .ok (.iconst 2, 1) := by decide +kernel
theorem dX8_may_51 : decode cX8_may 51 = .ok (.if_icmp .ne 16, 3) := by decide +kernel
theorem dX8_may_54 : decode cX8_may 54 = .ok (.aload_n 0, 1) := by decide +kernel
theorem dX8_may_55 : decode cX8_may 55 = .ok (.getfield 13, 3) := by decide +kernel
theorem dX8_may_58 : decode cX8_may 58 = .ok (.sipush 739, 3) := by decide +kernel
theorem dX8_may_61 : decode cX8_may 61 = .ok (.iaload, 1) := by decide +kernel
theorem dX8_may_62 : decode cX8_may 62 = .ok (.bipush 7, 2) := by decide +kernel
theorem dX8_may_64 : decode cX8_may 64 = .ok (.if_icmp .ge 7, 3) := by decide +kernel
theorem dX8_may_67 : decode cX8_may 67 = .ok (.iconst 1, 1) := by decide +kernel
theorem dX8_may_68 : decode cX8_may 68 = .ok (.goto 4, 3) := by decide +kernel
theorem dX8_may_71 : decode cX8_may 71 = .ok (.iconst 0, 1) := by decide +kernel
theorem dX8_may_72 : decode cX8_may 72 = .ok (.ireturn, 1) := by decide +kernel
theorem dX8_read_0 : decode cX8_read 0 = .ok (.aload_n 0, 1) := by decide +kernel
theorem dX8_read_1 : decode cX8_read 1 = .ok (.iconst 0, 1) := by decide +kernel
theorem dX8_read_2 : decode cX8_read 2 = .ok (.putfield 87, 3) := by decide +kernel
theorem dX8_read_5 : decode cX8_read 5 = .ok (.aload_n 0, 1) := by decide +kernel
theorem dX8_read_6 : decode cX8_read 6 = .ok (.iconst 0, 1) := by decide +kernel
theorem dX8_read_7 : decode cX8_read 7 = .ok (.putfield 109, 3) := by decide +kernel
theorem dX8_read_10 : decode cX8_read 10 = .ok (.aload_n 0, 1) := by decide +kernel
theorem dX8_read_11 : decode cX8_read 11 = .ok (.iconst 0, 1) := by decide +kernel
theorem dX8_read_12 : decode cX8_read 12 = .ok (.putfield 147, 3) := by decide +kernel
theorem dX8_read_15 : decode cX8_read 15 = .ok (.aload_n 0, 1) := by decide +kernel
theorem dX8_read_16 : decode cX8_read 16 = .ok (.sipush 738, 3) := by decide +kernel
theorem dX8_read_19 : decode cX8_read 19 = .ok (.invokevirtual 40, 3) := by decide +kernel
theorem dX8_read_22 : decode cX8_read 22 = .ok (.aload_n 0, 1) := by decide +kernel
theorem dX8_read_23 : decode cX8_read 23 = .ok (.invokevirtual 113, 3) := by decide +kernel
theorem dX8_read_26 : decode cX8_read 26 = .ok (.aload_n 0, 1) := by decide +kernel
theorem dX8_read_27 : decode cX8_read 27 = .ok (.getfield 109, 3) := by decide +kernel
theorem dX8_read_30 : decode cX8_read 30 = .ok (.ifCond .ne 76, 3) := by decide +kernel
theorem dX8_read_33 : decode cX8_read 33 = .ok (.aload_n 0, 1) := by decide +kernel
theorem dX8_read_34 : decode cX8_read 34 = .ok (.getfield 103, 3) := by decide +kernel
theorem dX8_read_37 : decode cX8_read 37 = .ok (.bipush 8, 2) := by decide +kernel
theorem dX8_read_39 : decode cX8_read 39 = .ok (.if_icmp .ne 10, 3) := by decide +kernel
theorem dX8_read_42 : decode cX8_read 42 = .ok (.aload_n 0, 1) := by decide +kernel
theorem dX8_read_43 : decode cX8_read 43 = .ok (.getfield 147, 3) := by decide +kernel
theorem dX8_read_46 : decode cX8_read 46 = .ok (.ifCond .ne 60, 3) := by decide +kernel
theorem dX8_read_49 : decode cX8_read 49 = .ok (.aload_n 0, 1) := by decide +kernel
theorem dX8_read_50 : decode cX8_read 50 = .ok (.getfield 103, 3) := by decide +kernel
theorem dX8_read_53 : decode cX8_read 53 = .ok (.istore_n 1, 1) := by decide +kernel
theorem dX8_read_54 : decode cX8_read 54 = .ok (.aload_n 0, 1) := by decide +kernel
theorem dX8_read_55 : decode cX8_read 55 = .ok (.aload_n 0, 1) := by decide +kernel
theorem dX8_read_56 : decode cX8_read 56 = .ok (.iload_n 1, 1) := by decide +kernel
theorem dX8_read_57 : decode cX8_read 57 = .ok (.invokevirtual 150, 3) := by decide +kernel
theorem dX8_read_60 : decode cX8_read 60 = .ok (.invokevirtual 116, 3) := by decide +kernel
theorem dX8_read_63 : decode cX8_read 63 = .ok (.aload_n 0, 1) := by decide +kernel
theorem dX8_read_64 : decode cX8_read 64 = .ok (.getfield 109, 3) := by decide +kernel
theorem dX8_read_67 : decode cX8_read 67 = .ok (.ifCond .ne 36, 3) := by decide +kernel
theorem dX8_read_70 : decode cX8_read 70 = .ok (.aload_n 0, 1) := by decide +kernel
theorem dX8_read_71 : decode cX8_read 71 = .ok (.iload_n 1, 1) := by decide +kernel
theorem dX8_read_72 : decode cX8_read 72 = .ok (.invokevirtual 154, 3) := by decide +kernel
theorem dX8_read_75 : decode cX8_read 75 = .ok (.aload_n 0, 1) := by decide +kernel
theorem dX8_read_76 : decode cX8_read 76 = .ok (.aload_n 0, 1) := by decide +kernel
theorem dX8_read_77 : decode cX8_read 77 = .ok (.getfield 103, 3) := by decide +kernel
theorem dX8_read_80 : decode cX8_read 80 = .ok (.bipush 7, 2) := by decide +kernel
theorem dX8_read_82 : decode cX8_read 82 = .ok (.if_icmp .ne 7, 3) := by decide +kernel
theorem dX8_read_85 : decode cX8_read 85 = .ok (.iconst 1, 1) := by decide +kernel
theorem dX8_read_86 : decode cX8_read 86 = .ok (.goto 4, 3) := by decide +kernel
theorem dX8_read_89 : decode cX8_read 89 = .ok (.iconst 0, 1) := by decide +kernel
theorem dX8_read_90 : decode cX8_read 90 = .ok (.invokevirtual 116, 3) := by decide +kernel
theorem dX8_read_93 : decode cX8_read 93 = .ok (.aload_n 0, 1) := by decide +kernel
theorem dX8_read_94 : decode cX8_read 94 = .ok (.dup, 1) := by decide +kernel
theorem dX8_read_95 : decode cX8_read 95 = .ok (.getfield 147, 3) := by decide +kernel
theorem dX8_read_98 : decode cX8_read 98 = .ok (.iconst 1, 1) := by decide +kernel
theorem dX8_read_99 : decode cX8_read 99 = .ok (.iadd, 1) := by decide +kernel
theorem dX8_read_100 : decode cX8_read 100 = .ok (.putfield 147, 3) := by decide +kernel
theorem dX8_read_103 : decode cX8_read 103 = .ok (.goto (-77), 3) := by decide +kernel
theorem dX8_read_106 : decode cX8_read 106 = .ok (.aload_n 0, 1) := by decide +kernel
theorem dX8_read_107 : decode cX8_read 107 = .ok (.getfield 109, 3) := by decide +kernel
theorem dX8_read_110 : decode cX8_read 110 = .ok (.ifCond .eq 11, 3) := by decide +kernel
theorem dX8_read_113 : decode cX8_read 113 = .ok (.bipush (-10), 2) := by decide +kernel
theorem dX8_read_115 : decode cX8_read 115 = .ok (.aload_n 0, 1) := by decide +kernel
theorem dX8_read_116 : decode cX8_read 116 = .ok (.getfield 90, 3) := by decide +kernel
theorem dX8_read_119 : decode cX8_read 119 = .ok (.isub, 1) := by decide +kernel
theorem dX8_read_120 : decode cX8_read 120 = .ok (.ireturn, 1) := by decide +kernel
theorem dX8_read_121 : decode cX8_read 121 = .ok (.aload_n 0, 1) := by decide +kernel
theorem dX8_read_122 : decode cX8_read 122 = .ok (.sipush 738, 3) := by decide +kernel
theorem dX8_read_125 : decode cX8_read 125 = .ok (.iconst 0, 1) := by decide +kernel
theorem dX8_read_126 : decode cX8_read 126 = .ok (.invokevirtual 157, 3) := by decide +kernel
theorem dX8_read_129 : decode cX8_read 129 = .ok (.aload_n 0, 1) := by decide +kernel
theorem dX8_read_130 : decode cX8_read 130 = .ok (.getfield 13, 3) := by decide +kernel
theorem dX8_read_133 : decode cX8_read 133 = .ok (.iconst 5, 1) := by decide +kernel
theorem dX8_read_134 : decode cX8_read 134 = .ok (.iconst 0, 1) := by decide +kernel
theorem dX8_read_135 : decode cX8_read 135 = .ok (.iastore, 1) := by decide +kernel
theorem dX8_read_136 : decode cX8_read 136 = .ok (.aload_n 0, 1) := by decide +kernel
theorem dX8_read_137 : decode cX8_read 137 = .ok (.getfield 147, 3) := by decide +kernel
theorem dX8_read_140 : decode cX8_read 140 = .ok (.ireturn, 1) := by decide +kernel
theorem dX8_know_0 : decode cX8_know 0 = .ok (.aload_n 0, 1) := by decide +kernel
theorem dX8_know_1 : decode cX8_know 1 = .ok (.getfield 13, 3) := by decide +kernel
theorem dX8_know_4 : decode cX8_know 4 = .ok (.iconst 5, 1) := by decide +kernel
theorem dX8_know_5 : decode cX8_know 5 = .ok (.iaload, 1) := by decide +kernel
theorem dX8_know_6 : decode cX8_know 6 = .ok (.bipush 8, 2) := by decide +kernel
theorem dX8_know_8 : decode cX8_know 8 = .ok (.if_icmp .ne 46, 3) := by decide +kernel
theorem dX8_know_11 : decode cX8_know 11 = .ok (.iconst 0, 1) := by decide +kernel
theorem dX8_know_12 : decode cX8_know 12 = .ok (.istore_n 1, 1) := by decide +kernel
theorem dX8_know_13 : decode cX8_know 13 = .ok (.iload_n 1, 1) := by decide +kernel
theorem dX8_know_14 : decode cX8_know 14 = .ok (.bipush 112, 2) := by decide +kernel
theorem dX8_know_16 : decode cX8_know 16 = .ok (.if_icmp .ge 28, 3) := by decide +kernel
theorem dX8_know_19 : decode cX8_know 19 = .ok (.aload_n 0, 1) := by decide +kernel
theorem dX8_know_20 : decode cX8_know 20 = .ok (.getfield 13, 3) := by decide +kernel
theorem dX8_know_23 : decode cX8_know 23 = .ok (.bipush 118, 2) := by decide +kernel
end
section
theorem dX8_know_25 : decode cX8_know 25 = .ok (.iload_n 1, 1) := by decide +kernel
theorem dX8_know_26 : decode cX8_know 26 = .ok (.iadd, 1) := by decide +kernel
theorem dX8_know_27 : decode cX8_know 27 = .ok (.aload_n 0, 1) := by decide +kernel
theorem dX8_know_28 : decode cX8_know 28 = .ok (.getfield 13, 3) := by decide +kernel
theorem dX8_know_31 : decode cX8_know 31 = .ok (.sipush 134, 3) := by decide +kernel
theorem dX8_know_34 : decode cX8_know 34 = .ok (.iload_n 1, 1) := by decide +kernel
theorem dX8_know_35 : decode cX8_know 35 = .ok (.iadd, 1) := by decide +kernel
theorem dX8_know_36 : decode cX8_know 36 = .ok (.iaload, 1) := by decide +kernel
theorem dX8_know_37 : decode cX8_know 37 = .ok (.iastore, 1) := by decide +kernel
theorem dX8_know_38 : decode cX8_know 38 = .ok (.iinc 1 1, 3) := by decide +kernel
theorem dX8_know_41 : decode cX8_know 41 = .ok (.goto (-28), 3) := by decide +kernel
theorem dX8_know_44 : decode cX8_know 44 = .ok (.aload_n 0, 1) := by decide +kernel
theorem dX8_know_45 : decode cX8_know 45 = .ok (.getfield 13, 3) := by decide +kernel
theorem dX8_know_48 : decode cX8_know 48 = .ok (.iconst 5, 1) := by decide +kernel
theorem dX8_know_49 : decode cX8_know 49 = .ok (.dup2, 1) := by decide +kernel
theorem dX8_know_50 : decode cX8_know 50 = .ok (.iaload, 1) := by decide +kernel
theorem dX8_know_51 : decode cX8_know 51 = .ok (.iconst 1, 1) := by decide +kernel
theorem dX8_know_52 : decode cX8_know 52 = .ok (.isub, 1) := by decide +kernel
theorem dX8_know_53 : decode cX8_know 53 = .ok (.iastore, 1) := by decide +kernel
theorem dX8_know_54 : decode cX8_know 54 = .ok (.iconst 0, 1) := by decide +kernel
theorem dX8_know_55 : decode cX8_know 55 = .ok (.istore_n 1, 1) := by decide +kernel
theorem dX8_know_56 : decode cX8_know 56 = .ok (.iload_n 1, 1) := by decide +kernel
theorem dX8_know_57 : decode cX8_know 57 = .ok (.bipush 16, 2) := by decide +kernel
theorem dX8_know_59 : decode cX8_know 59 = .ok (.if_icmp .ge 37, 3) := by decide +kernel
theorem dX8_know_62 : decode cX8_know 62 = .ok (.aload_n 0, 1) := by decide +kernel
theorem dX8_know_63 : decode cX8_know 63 = .ok (.getfield 13, 3) := by decide +kernel
theorem dX8_know_66 : decode cX8_know 66 = .ok (.bipush 118, 2) := by decide +kernel
theorem dX8_know_68 : decode cX8_know 68 = .ok (.bipush 16, 2) := by decide +kernel
theorem dX8_know_70 : decode cX8_know 70 = .ok (.aload_n 0, 1) := by decide +kernel
theorem dX8_know_71 : decode cX8_know 71 = .ok (.getfield 13, 3) := by decide +kernel
theorem dX8_know_74 : decode cX8_know 74 = .ok (.iconst 5, 1) := by decide +kernel
theorem dX8_know_75 : decode cX8_know 75 = .ok (.iaload, 1) := by decide +kernel
theorem dX8_know_76 : decode cX8_know 76 = .ok (.imul, 1) := by decide +kernel
theorem dX8_know_77 : decode cX8_know 77 = .ok (.iadd, 1) := by decide +kernel
theorem dX8_know_78 : decode cX8_know 78 = .ok (.iload_n 1, 1) := by decide +kernel
theorem dX8_know_79 : decode cX8_know 79 = .ok (.iadd, 1) := by decide +kernel
theorem dX8_know_80 : decode cX8_know 80 = .ok (.aload_n 0, 1) := by decide +kernel
theorem dX8_know_81 : decode cX8_know 81 = .ok (.getfield 13, 3) := by decide +kernel
theorem dX8_know_84 : decode cX8_know 84 = .ok (.bipush 34, 2) := by decide +kernel
theorem dX8_know_86 : decode cX8_know 86 = .ok (.iload_n 1, 1) := by decide +kernel
theorem dX8_know_87 : decode cX8_know 87 = .ok (.iadd, 1) := by decide +kernel
theorem dX8_know_88 : decode cX8_know 88 = .ok (.iaload, 1) := by decide +kernel
theorem dX8_know_89 : decode cX8_know 89 = .ok (.iastore, 1) := by decide +kernel
theorem dX8_know_90 : decode cX8_know 90 = .ok (.iinc 1 1, 3) := by decide +kernel
theorem dX8_know_93 : decode cX8_know 93 = .ok (.goto (-37), 3) := by decide +kernel
theorem dX8_know_96 : decode cX8_know 96 = .ok (.aload_n 0, 1) := by decide +kernel
theorem dX8_know_97 : decode cX8_know 97 = .ok (.getfield 13, 3) := by decide +kernel
theorem dX8_know_100 : decode cX8_know 100 = .ok (.iconst 5, 1) := by decide +kernel
theorem dX8_know_101 : decode cX8_know 101 = .ok (.dup2, 1) := by decide +kernel
theorem dX8_know_102 : decode cX8_know 102 = .ok (.iaload, 1) := by decide +kernel
theorem dX8_know_103 : decode cX8_know 103 = .ok (.iconst 1, 1) := by decide +kernel
theorem dX8_know_104 : decode cX8_know 104 = .ok (.iadd, 1) := by decide +kernel
theorem dX8_know_105 : decode cX8_know 105 = .ok (.iastore, 1) := by decide +kernel
theorem dX8_know_106 : decode cX8_know 106 = .ok (.return_, 1) := by decide +kernel
theorem dX8_isLost_0 : decode cX8_isLost 0 = .ok (.aload_n 0, 1) := by decide +kernel
theorem dX8_isLost_1 : decode cX8_isLost 1 = .ok (.getfield 13, 3) := by decide +kernel
theorem dX8_isLost_4 : decode cX8_isLost 4 = .ok (.bipush 35, 2) := by decide +kernel
theorem dX8_isLost_6 : decode cX8_isLost 6 = .ok (.iaload, 1) := by decide +kernel
theorem dX8_isLost_7 : decode cX8_isLost 7 = .ok (.iload_n 1, 1) := by decide +kernel
theorem dX8_isLost_8 : decode cX8_isLost 8 = .ok (.invokestatic 61, 3) := by decide +kernel
theorem dX8_isLost_11 : decode cX8_isLost 11 = .ok (.ireturn, 1) := by decide +kernel
theorem dX8_owns_0 : decode cX8_owns 0 = .ok (.aload_n 0, 1) := by decide +kernel
theorem dX8_owns_1 : decode cX8_owns 1 = .ok (.iload_n 1, 1) := by decide +kernel
theorem dX8_owns_2 : decode cX8_owns 2 = .ok (.invokevirtual 161, 3) := by decide +kernel
theorem dX8_owns_5 : decode cX8_owns 5 = .ok (.ifCond .eq 11, 3) := by decide +kernel
theorem dX8_owns_8 : decode cX8_owns 8 = .ok (.aload_n 0, 1) := by decide +kernel
theorem dX8_owns_9 : decode cX8_owns 9 = .ok (.iload_n 2, 1) := by decide +kernel
theorem dX8_owns_10 : decode cX8_owns 10 = .ok (.invokevirtual 164, 3) := by decide +kernel
theorem dX8_owns_13 : decode cX8_owns 13 = .ok (.ifCond .ne 8, 3) := by decide +kernel
theorem dX8_owns_16 : decode cX8_owns 16 = .ok (.aload_n 0, 1) := by decide +kernel
theorem dX8_owns_17 : decode cX8_owns 17 = .ok (.invokevirtual 69, 3) := by decide +kernel
theorem dX8_owns_20 : decode cX8_owns 20 = .ok (.ireturn, 1) := by decide +kernel
theorem dX8_owns_21 : decode cX8_owns 21 = .ok (.aload_n 0, 1) := by decide +kernel
theorem dX8_owns_22 : decode cX8_owns 22 = .ok (.iload_n 1, 1) := by decide +kernel
theorem dX8_owns_23 : decode cX8_owns 23 = .ok (.invokevirtual 167, 3) := by decide +kernel
theorem dX8_owns_26 : decode cX8_owns 26 = .ok (.ifCond .ne 32, 3) := by decide +kernel
theorem dX8_owns_29 : decode cX8_owns 29 = .ok (.aload_n 0, 1) := by decide +kernel
theorem dX8_owns_30 : decode cX8_owns 30 = .ok (.getfield 13, 3) := by decide +kernel
theorem dX8_owns_33 : decode cX8_owns 33 = .ok (.bipush 43, 2) := by decide +kernel
theorem dX8_owns_35 : decode cX8_owns 35 = .ok (.iload_n 1, 1) := by decide +kernel
theorem dX8_owns_36 : decode cX8_owns 36 = .ok (.iadd, 1) := by decide +kernel
theorem dX8_owns_37 : decode cX8_owns 37 = .ok (.iaload, 1) := by decide +kernel
theorem dX8_owns_38 : decode cX8_owns 38 = .ok (.iconst (-1), 1) := by decide +kernel
theorem dX8_owns_39 : decode cX8_owns 39 = .ok (.if_icmp .ne 19, 3) := by decide +kernel
theorem dX8_owns_42 : decode cX8_owns 42 = .ok (.aload_n 0, 1) := by decide +kernel
theorem dX8_owns_43 : decode cX8_owns 43 = .ok (.iconst 0, 1) := by decide +kernel
theorem dX8_owns_44 : decode cX8_owns 44 = .ok (.aload_n 0, 1) := by decide +kernel
theorem dX8_owns_45 : decode cX8_owns 45 = .ok (.getfield 13, 3) := by decide +kernel
theorem dX8_owns_48 : decode cX8_owns 48 = .ok (.bipush 34, 2) := by decide +kernel
theorem dX8_owns_50 : decode cX8_owns 50 = .ok (.iload_n 2, 1) := by decide +kernel
theorem dX8_owns_51 : decode cX8_owns 51 = .ok (.invokevirtual 124, 3) := by decide +kernel
theorem dX8_owns_54 : decode cX8_owns 54 = .ok (.iconst (-1), 1) := by decide +kernel
theorem dX8_owns_55 : decode cX8_owns 55 = .ok (.if_icmp .eq 8, 3) := by decide +kernel
theorem dX8_owns_58 : decode cX8_owns 58 = .ok (.aload_n 0, 1) := by decide +kernel
theorem dX8_owns_59 : decode cX8_owns 59 = .ok (.invokevirtual 170, 3) := by decide +kernel
theorem dX8_owns_62 : decode cX8_owns 62 = .ok (.ireturn, 1) := by decide +kernel
theorem dX8_owns_63 : decode cX8_owns 63 = .ok (.aload_n 0, 1) := by decide +kernel
theorem dX8_owns_64 : decode cX8_owns 64 = .ok (.invokevirtual 173, 3) := by decide +kernel
theorem dX8_owns_67 : decode cX8_owns 67 = .ok (.aload_n 0, 1) := by decide +kernel
theorem dX8_owns_68 : decode cX8_owns 68 = .ok (.getfield 13, 3) := by decide +kernel
theorem dX8_owns_71 : decode cX8_owns 71 = .ok (.bipush 43, 2) := by decide +kernel
theorem dX8_owns_73 : decode cX8_owns 73 = .ok (.iload_n 1, 1) := by decide +kernel
theorem dX8_owns_74 : decode cX8_owns 74 = .ok (.iadd, 1) := by decide +kernel
theorem dX8_owns_75 : decode cX8_owns 75 = .ok (.iload_n 2, 1) := by decide +kernel
theorem dX8_owns_76 : decode cX8_owns 76 = .ok (.iastore, 1) := by decide +kernel
theorem dX8_owns_77 : decode cX8_owns 77 = .ok (.aload_n 0, 1) := by decide +kernel
theorem dX8_owns_78 : decode cX8_owns 78 = .ok (.iconst 0, 1) := by decide +kernel
theorem dX8_owns_79 : decode cX8_owns 79 = .ok (.aload_n 0, 1) := by decide +kernel
theorem dX8_owns_80 : decode cX8_owns 80 = .ok (.getfield 13, 3) := by decide +kernel
theorem dX8_owns_83 : decode cX8_owns 83 = .ok (.bipush 34, 2) := by decide +kernel
theorem dX8_owns_85 : decode cX8_owns 85 = .ok (.iload_n 1, 1) := by decide +kernel
theorem dX8_owns_86 : decode cX8_owns 86 = .ok (.invokevirtual 65, 3) := by decide +kernel
theorem dX8_owns_89 : decode cX8_owns 89 = .ok (.ifCond .eq 7, 3) := by decide +kernel
theorem dX8_owns_92 : decode cX8_owns 92 = .ok (.iconst 1, 1) := by decide +kernel
theorem dX8_owns_93 : decode cX8_owns 93 = .ok (.goto 4, 3) := by decide +kernel
theorem dX8_owns_96 : decode cX8_owns 96 = .ok (.iconst 0, 1) := by decide +kernel
theorem dX8_owns_97 : decode cX8_owns 97 = .ok (.ireturn, 1) := by decide +kernel
theorem dX8_leaves_0 : decode cX8_leaves 0 = .ok (.aload_n 0, 1) := by decide +kernel
theorem dX8_leaves_1 : decode cX8_leaves 1 = .ok (.iload_n 1, 1) := by decide +kernel
theorem dX8_leaves_2 : decode cX8_leaves 2 = .ok (.invokevirtual 161, 3) := by decide +kernel
theorem dX8_leaves_5 : decode cX8_leaves 5 = .ok (.ifCond .ne 8, 3) := by decide +kernel
theorem dX8_leaves_8 : decode cX8_leaves 8 = .ok (.aload_n 0, 1) := by decide +kernel
theorem dX8_leaves_9 : decode cX8_leaves 9 = .ok (.invokevirtual 69, 3) := by decide +kernel
theorem dX8_leaves_12 : decode cX8_leaves 12 = .ok (.ireturn, 1) := by decide +kernel
theorem dX8_leaves_13 : decode cX8_leaves 13 = .ok (.aload_n 0, 1) := by decide +kernel
theorem dX8_leaves_14 : decode cX8_leaves 14 = .ok (.getfield 13, 3) := by decide +kernel
theorem dX8_leaves_17 : decode cX8_leaves 17 = .ok (.bipush 43, 2) := by decide +kernel
theorem dX8_leaves_19 : decode cX8_leaves 19 = .ok (.iload_n 1, 1) := by decide +kernel
theorem dX8_leaves_20 : decode cX8_leaves 20 = .ok (.iadd, 1) := by decide +kernel
theorem dX8_leaves_21 : decode cX8_leaves 21 = .ok (.iaload, 1) := by decide +kernel
theorem dX8_leaves_22 : decode cX8_leaves 22 = .ok (.istore_n 2, 1) := by decide +kernel
theorem dX8_leaves_23 : decode cX8_leaves 23 = .ok (.iload_n 2, 1) := by decide +kernel
theorem dX8_leaves_24 : decode cX8_leaves 24 = .ok (.iconst (-1), 1) := by decide +kernel
theorem dX8_leaves_25 : decode cX8_leaves 25 = .ok (.if_icmp .ne 8, 3) := by decide +kernel
theorem dX8_leaves_28 : decode cX8_leaves 28 = .ok (.aload_n 0, 1) := by decide +kernel
theorem dX8_leaves_29 : decode cX8_leaves 29 = .ok (.invokevirtual 170, 3) := by decide +kernel
theorem dX8_leaves_32 : decode cX8_leaves 32 = .ok (.ireturn, 1) := by decide +kernel
theorem dX8_leaves_33 : decode cX8_leaves 33 = .ok (.aload_n 0, 1) := by decide +kernel
theorem dX8_leaves_34 : decode cX8_leaves 34 = .ok (.invokevirtual 173, 3) := by decide +kernel
theorem dX8_leaves_37 : decode cX8_leaves 37 = .ok (.aload_n 0, 1) := by decide +kernel
theorem dX8_leaves_38 : decode cX8_leaves 38 = .ok (.getfield 13, 3) := by decide +kernel
theorem dX8_leaves_41 : decode cX8_leaves 41 = .ok (.bipush 43, 2) := by decide +kernel
theorem dX8_leaves_43 : decode cX8_leaves 43 = .ok (.iload_n 1, 1) := by decide +kernel
theorem dX8_leaves_44 : decode cX8_leaves 44 = .ok (.iadd, 1) := by decide +kernel
theorem dX8_leaves_45 : decode cX8_leaves 45 = .ok (.iconst (-1), 1) := by decide +kernel
theorem dX8_leaves_46 : decode cX8_leaves 46 = .ok (.iastore, 1) := by decide +kernel
theorem dX8_leaves_47 : decode cX8_leaves 47 = .ok (.iload_n 2, 1) := by decide +kernel
theorem dX8_leaves_48 : decode cX8_leaves 48 = .ok (.ireturn, 1) := by decide +kernel
theorem dX8_years_0 : decode cX8_years 0 = .ok (.iload_n 1, 1) := by decide +kernel
theorem dX8_years_1 : decode cX8_years 1 = .ok (.iconst 1, 1) := by decide +kernel
theorem dX8_years_2 : decode cX8_years 2 = .ok (.bipush 60, 2) := by decide +kernel
theorem dX8_years_4 : decode cX8_years 4 = .ok (.invokestatic 44, 3) := by decide +kernel
theorem dX8_years_7 : decode cX8_years 7 = .ok (.ifCond .ne 8, 3) := by decide +kernel
theorem dX8_years_10 : decode cX8_years 10 = .ok (.aload_n 0, 1) := by decide +kernel
theorem dX8_years_11 : decode cX8_years 11 = .ok (.invokevirtual 69, 3) := by decide +kernel
theorem dX8_years_14 : decode cX8_years 14 = .ok (.ireturn, 1) := by decide +kernel
theorem dX8_years_15 : decode cX8_years 15 = .ok (.aload_n 0, 1) := by decide +kernel
theorem dX8_years_16 : decode cX8_years 16 = .ok (.invokevirtual 173, 3) := by decide +kernel
theorem dX8_years_19 : decode cX8_years 19 = .ok (.iconst 0, 1) := by decide +kernel
theorem dX8_years_20 : decode cX8_years 20 = .ok (.istore_n 2, 1) := by decide +kernel
theorem dX8_years_21 : decode cX8_years 21 = .ok (.iload_n 2, 1) := by decide +kernel
theorem dX8_years_22 : decode cX8_years 22 = .ok (.iload_n 1, 1) := by decide +kernel
theorem dX8_years_23 : decode cX8_years 23 = .ok (.if_icmp .ge 33, 3) := by decide +kernel
theorem dX8_years_26 : decode cX8_years 26 = .ok (.aload_n 0, 1) := by decide +kernel
theorem dX8_years_27 : decode cX8_years 27 = .ok (.getfield 13, 3) := by decide +kernel
theorem dX8_years_30 : decode cX8_years 30 = .ok (.bipush 34, 2) := by decide +kernel
theorem dX8_years_32 : decode cX8_years 32 = .ok (.iaload, 1) := by decide +kernel
theorem dX8_years_33 : decode cX8_years 33 = .ok (.sipush 999, 3) := by decide +kernel
theorem dX8_years_36 : decode cX8_years 36 = .ok (.if_icmp .ge 20, 3) := by decide +kernel
theorem dX8_years_39 : decode cX8_years 39 = .ok (.aload_n 0, 1) := by decide +kernel
theorem dX8_years_40 : decode cX8_years 40 = .ok (.iconst 0, 1) := by decide +kernel
theorem dX8_years_41 : decode cX8_years 41 = .ok (.aload_n 0, 1) := by decide +kernel
theorem dX8_years_42 : decode cX8_years 42 = .ok (.getfield 13, 3) := by decide +kernel
theorem dX8_years_45 : decode cX8_years 45 = .ok (.bipush 34, 2) := by decide +kernel
theorem dX8_years_47 : decode cX8_years 47 = .ok (.invokevirtual 128, 3) := by decide +kernel
theorem dX8_years_50 : decode cX8_years 50 = .ok (.iinc 2 1, 3) := by decide +kernel
theorem dX8_years_53 : decode cX8_years 53 = .ok (.goto (-32), 3) := by decide +kernel
theorem dX8_years_56 : decode cX8_years 56 = .ok (.aload_n 0, 1) := by decide +kernel
theorem dX8_years_57 : decode cX8_years 57 = .ok (.aload_n 0, 1) := by decide +kernel
theorem dX8_years_58 : decode cX8_years 58 = .ok (.getfield 13, 3) := by decide +kernel
theorem dX8_years_61 : decode cX8_years 61 = .ok (.bipush 34, 2) := by decide +kernel
theorem dX8_years_63 : decode cX8_years 63 = .ok (.invokevirtual 176, 3) := by decide +kernel
theorem dX8_years_66 : decode cX8_years 66 = .ok (.invokestatic 180, 3) := by decide +kernel
theorem dX8_years_69 : decode cX8_years 69 = .ok (.ireturn, 1) := by decide +kernel
theorem dX8_undo_0 : decode cX8_undo 0 = .ok (.aload_n 0, 1) := by decide +kernel
theorem dX8_undo_1 : decode cX8_undo 1 = .ok (.getfield 13, 3) := by decide +kernel
theorem dX8_undo_4 : decode cX8_undo 4 = .ok (.iconst 5, 1) := by decide +kernel
theorem dX8_undo_5 : decode cX8_undo 5 = .ok (.iaload, 1) := by decide +kernel
theorem dX8_undo_6 : decode cX8_undo 6 = .ok (.ifCond .ne 8, 3) := by decide +kernel
theorem dX8_undo_9 : decode cX8_undo 9 = .ok (.aload_n 0, 1) := by decide +kernel
theorem dX8_undo_10 : decode cX8_undo 10 = .ok (.invokevirtual 170, 3) := by decide +kernel
theorem dX8_undo_13 : decode cX8_undo 13 = .ok (.ireturn, 1) := by decide +kernel
theorem dX8_undo_14 : decode cX8_undo 14 = .ok (.aload_n 0, 1) := by decide +kernel
theorem dX8_undo_15 : decode cX8_undo 15 = .ok (.getfield 13, 3) := by decide +kernel
theorem dX8_undo_18 : decode cX8_undo 18 = .ok (.iconst 5, 1) := by decide +kernel
theorem dX8_undo_19 : decode cX8_undo 19 = .ok (.dup2, 1) := by decide +kernel
theorem dX8_undo_20 : decode cX8_undo 20 = .ok (.iaload, 1) := by decide +kernel
theorem dX8_undo_21 : decode cX8_undo 21 = .ok (.iconst 1, 1) := by decide +kernel
theorem dX8_undo_22 : decode cX8_undo 22 = .ok (.isub, 1) := by decide +kernel
theorem dX8_undo_23 : decode cX8_undo 23 = .ok (.iastore, 1) := by decide +kernel
theorem dX8_undo_24 : decode cX8_undo 24 = .ok (.iconst 0, 1) := by decide +kernel
theorem dX8_undo_25 : decode cX8_undo 25 = .ok (.istore_n 1, 1) := by decide +kernel
theorem dX8_undo_26 : decode cX8_undo 26 = .ok (.iload_n 1, 1) := by decide +kernel
theorem dX8_undo_27 : decode cX8_undo 27 = .ok (.bipush 16, 2) := by decide +kernel
theorem dX8_undo_29 : decode cX8_undo 29 = .ok (.if_icmp .ge 37, 3) := by decide +kernel
theorem dX8_undo_32 : decode cX8_undo 32 = .ok (.aload_n 0, 1) := by decide +kernel
theorem dX8_undo_33 : decode cX8_undo 33 = .ok (.getfield 13, 3) := by decide +kernel
theorem dX8_undo_36 : decode cX8_undo 36 = .ok (.bipush 34, 2) := by decide +kernel
theorem dX8_undo_38 : decode cX8_undo 38 = .ok (.iload_n 1, 1) := by decide +kernel
theorem dX8_undo_39 : decode cX8_undo 39 = .ok (.iadd, 1) := by decide +kernel
theorem dX8_undo_40 : decode cX8_undo 40 = .ok (.aload_n 0, 1) := by decide +kernel
theorem dX8_undo_41 : decode cX8_undo 41 = .ok (.getfield 13, 3) := by decide +kernel
theorem dX8_undo_44 : decode cX8_undo 44 = .ok (.bipush 118, 2) := by decide +kernel
theorem dX8_undo_46 : decode cX8_undo 46 = .ok (.bipush 16, 2) := by decide +kernel
theorem dX8_undo_48 : decode cX8_undo 48 = .ok (.aload_n 0, 1) := by decide +kernel
theorem dX8_undo_49 : decode cX8_undo 49 = .ok (.getfield 13, 3) := by decide +kernel
theorem dX8_undo_52 : decode cX8_undo 52 = .ok (.iconst 5, 1) := by decide +kernel
theorem dX8_undo_53 : decode cX8_undo 53 = .ok (.iaload, 1) := by decide +kernel
theorem dX8_undo_54 : decode cX8_undo 54 = .ok (.imul, 1) := by decide +kernel
theorem dX8_undo_55 : decode cX8_undo 55 = .ok (.iadd, 1) := by decide +kernel
theorem dX8_undo_56 : decode cX8_undo 56 = .ok (.iload_n 1, 1) := by decide +kernel
theorem dX8_undo_57 : decode cX8_undo 57 = .ok (.iadd, 1) := by decide +kernel
theorem dX8_undo_58 : decode cX8_undo 58 = .ok (.iaload, 1) := by decide +kernel
theorem dX8_undo_59 : decode cX8_undo 59 = .ok (.iastore, 1) := by decide +kernel
theorem dX8_undo_60 : decode cX8_undo 60 = .ok (.iinc 1 1, 3) := by decide +kernel
theorem dX8_undo_63 : decode cX8_undo 63 = .ok (.goto (-37), 3) := by decide +kernel
theorem dX8_undo_66 : decode cX8_undo 66 = .ok (.aload_n 0, 1) := by decide +kernel
theorem dX8_undo_67 : decode cX8_undo 67 = .ok (.getfield 13, 3) := by decide +kernel
theorem dX8_undo_70 : decode cX8_undo 70 = .ok (.bipush 34, 2) := by decide +kernel
theorem dX8_undo_72 : decode cX8_undo 72 = .ok (.iaload, 1) := by decide +kernel
theorem dX8_undo_73 : decode cX8_undo 73 = .ok (.ireturn, 1) := by decide +kernel
theorem dX8_told_0 : decode cX8_told 0 = .ok (.iload_n 2, 1) := by decide +kernel
theorem dX8_told_1 : decode cX8_told 1 = .ok (.tableswitch 71 0 3 #[31, 41, 51, 61], 31) := by decide +kernel
theorem dX8_told_32 : decode cX8_told 32 = .ok (.aload_n 0, 1) := by decide +kernel
theorem dX8_told_33 : decode cX8_told 33 = .ok (.getfield 13, 3) := by decide +kernel
theorem dX8_told_36 : decode cX8_told 36 = .ok (.bipush 20, 2) := by decide +kernel
theorem dX8_told_38 : decode cX8_told 38 = .ok (.iload_n 1, 1) := by decide +kernel
theorem dX8_told_39 : decode cX8_told 39 = .ok (.iadd, 1) := by decide +kernel
theorem dX8_told_40 : decode cX8_told 40 = .ok (.iaload, 1) := by decide +kernel
theorem dX8_told_41 : decode cX8_told 41 = .ok (.ireturn, 1) := by decide +kernel
theorem dX8_told_42 : decode cX8_told 42 = .ok (.aload_n 0, 1) := by decide +kernel
theorem dX8_told_43 : decode cX8_told 43 = .ok (.getfield 13, 3) := by decide +kernel
theorem dX8_told_46 : decode cX8_told 46 = .ok (.bipush 27, 2) := by decide +kernel
theorem dX8_told_48 : decode cX8_told 48 = .ok (.iload_n 1, 1) := by decide +kernel
theorem dX8_told_49 : decode cX8_told 49 = .ok (.iadd, 1) := by decide +kernel
theorem dX8_told_50 : decode cX8_told 50 = .ok (.iaload, 1) := by decide +kernel
theorem dX8_told_51 : decode cX8_told 51 = .ok (.ireturn, 1) := by decide +kernel
theorem dX8_told_52 : decode cX8_told 52 = .ok (.aload_n 0, 1) := by decide +kernel
theorem dX8_told_53 : decode cX8_told 53 = .ok (.getfield 13, 3) := by decide +kernel
theorem dX8_told_56 : decode cX8_told 56 = .ok (.bipush 36, 2) := by decide +kernel
theorem dX8_told_58 : decode cX8_told 58 = .ok (.iload_n 1, 1) := by decide +kernel
theorem dX8_told_59 : decode cX8_told 59 = .ok (.iadd, 1) := by decide +kernel
theorem dX8_told_60 : decode cX8_told 60 = .ok (.iaload, 1) := by decide +kernel
theorem dX8_told_61 : decode cX8_told 61 = .ok (.ireturn, 1) := by decide +kernel
theorem dX8_told_62 : decode cX8_told 62 = .ok (.aload_n 0, 1) := by decide +kernel
theorem dX8_told_63 : decode cX8_told 63 = .ok (.getfield 13, 3) := by decide +kernel
theorem dX8_told_66 : decode cX8_told 66 = .ok (.bipush 43, 2) := by decide +kernel
theorem dX8_told_68 : decode cX8_told 68 = .ok (.iload_n 1, 1) := by decide +kernel
theorem dX8_told_69 : decode cX8_told 69 = .ok (.iadd, 1) := by decide +kernel
theorem dX8_told_70 : decode cX8_told 70 = .ok (.iaload, 1) := by decide +kernel
theorem dX8_told_71 : decode cX8_told 71 = .ok (.ireturn, 1) := by decide +kernel
theorem dX8_told_72 : decode cX8_told 72 = .ok (.aload_n 0, 1) := by decide +kernel
theorem dX8_told_73 : decode cX8_told 73 = .ok (.iload_n 1, 1) := by decide +kernel
theorem dX8_told_74 : decode cX8_told 74 = .ok (.invokevirtual 167, 3) := by decide +kernel
theorem dX8_told_77 : decode cX8_told 77 = .ok (.ifCond .eq 7, 3) := by decide +kernel
theorem dX8_told_80 : decode cX8_told 80 = .ok (.iconst 0, 1) := by decide +kernel
theorem dX8_told_81 : decode cX8_told 81 = .ok (.goto 4, 3) := by decide +kernel
theorem dX8_told_84 : decode cX8_told 84 = .ok (.iconst 1, 1) := by decide +kernel
theorem dX8_told_85 : decode cX8_told 85 = .ok (.ireturn, 1) := by decide +kernel
theorem dX8_of_0 : decode cX8_of 0 = .ok (.aload_n 0, 1) := by decide +kernel
theorem dX8_of_1 : decode cX8_of 1 = .ok (.iload_n 1, 1) := by decide +kernel
theorem dX8_of_2 : decode cX8_of 2 = .ok (.invokevirtual 161, 3) := by decide +kernel
theorem dX8_of_5 : decode cX8_of 5 = .ok (.ifCond .eq 21, 3) := by decide +kernel
theorem dX8_of_8 : decode cX8_of 8 = .ok (.iload_n 2, 1) := by decide +kernel
theorem dX8_of_9 : decode cX8_of 9 = .ok (.iconst 0, 1) := by decide +kernel
theorem dX8_of_10 : decode cX8_of 10 = .ok (.iconst 4, 1) := by decide +kernel
theorem dX8_of_11 : decode cX8_of 11 = .ok (.invokestatic 44, 3) := by decide +kernel
theorem dX8_of_14 : decode cX8_of 14 = .ok (.ifCond .eq 12, 3) := by decide +kernel
theorem dX8_of_17 : decode cX8_of 17 = .ok (.aload_n 0, 1) := by decide +kernel
theorem dX8_of_18 : decode cX8_of 18 = .ok (.iload_n 1, 1) := by decide +kernel
theorem dX8_of_19 : decode cX8_of 19 = .ok (.iload_n 2, 1) := by decide +kernel
theorem dX8_of_20 : decode cX8_of 20 = .ok (.invokevirtual 184, 3) := by decide +kernel
theorem dX8_of_23 : decode cX8_of 23 = .ok (.goto 7, 3) := by decide +kernel
theorem dX8_of_26 : decode cX8_of 26 = .ok (.aload_n 0, 1) := by decide +kernel
theorem dX8_of_27 : decode cX8_of 27 = .ok (.invokevirtual 69, 3) := by decide +kernel
theorem dX8_of_30 : decode cX8_of 30 = .ok (.ireturn, 1) := by decide +kernel
theorem dX8_about_0 : decode cX8_about 0 = .ok (.aload_n 0, 1) := by decide +kernel
theorem dX8_about_1 : decode cX8_about 1 = .ok (.iload_n 1, 1) := by decide +kernel
theorem dX8_about_2 : decode cX8_about 2 = .ok (.invokevirtual 164, 3) := by decide +kernel
theorem dX8_about_5 : decode cX8_about 5 = .ok (.ifCond .eq 12, 3) := by decide +kernel
theorem dX8_about_8 : decode cX8_about 8 = .ok (.iload_n 2, 1) := by decide +kernel
theorem dX8_about_9 : decode cX8_about 9 = .ok (.iconst 0, 1) := by decide +kernel
theorem dX8_about_10 : decode cX8_about 10 = .ok (.iconst 2, 1) := by decide +kernel
theorem dX8_about_11 : decode cX8_about 11 = .ok (.invokestatic 44, 3) := by decide +kernel
theorem dX8_about_14 : decode cX8_about 14 = .ok (.ifCond .ne 8, 3) := by decide +kernel
theorem dX8_about_17 : decode cX8_about 17 = .ok (.aload_n 0, 1) := by decide +kernel
theorem dX8_about_18 : decode cX8_about 18 = .ok (.invokevirtual 69, 3) := by decide +kernel
theorem dX8_about_21 : decode cX8_about 21 = .ok (.ireturn, 1) := by decide +kernel
theorem dX8_about_22 : decode cX8_about 22 = .ok (.iload_n 2, 1) := by decide +kernel
theorem dX8_about_23 : decode cX8_about 23 = .ok (.ifCond .ne 15, 3) := by decide +kernel
theorem dX8_about_26 : decode cX8_about 26 = .ok (.aload_n 0, 1) := by decide +kernel
theorem dX8_about_27 : decode cX8_about 27 = .ok (.getfield 13, 3) := by decide +kernel
theorem dX8_about_30 : decode cX8_about 30 = .ok (.bipush 6, 2) := by decide +kernel
theorem dX8_about_32 : decode cX8_about 32 = .ok (.iload_n 1, 1) := by decide +kernel
theorem dX8_about_33 : decode cX8_about 33 = .ok (.iadd, 1) := by decide +kernel
theorem dX8_about_34 : decode cX8_about 34 = .ok (.iaload, 1) := by decide +kernel
theorem dX8_about_35 : decode cX8_about 35 = .ok (.goto 32, 3) := by decide +kernel
theorem dX8_about_38 : decode cX8_about 38 = .ok (.iload_n 2, 1) := by decide +kernel
theorem dX8_about_39 : decode cX8_about 39 = .ok (.iconst 1, 1) := by decide +kernel
theorem dX8_about_40 : decode cX8_about 40 = .ok (.if_icmp .ne 15, 3) := by decide +kernel
theorem dX8_about_43 : decode cX8_about 43 = .ok (.aload_n 0, 1) := by decide +kernel
theorem dX8_about_44 : decode cX8_about 44 = .ok (.getfield 13, 3) := by decide +kernel
theorem dX8_about_47 : decode cX8_about 47 = .ok (.bipush 13, 2) := by decide +kernel
theorem dX8_about_49 : decode cX8_about 49 = .ok (.iload_n 1, 1) := by decide +kernel
theorem dX8_about_50 : decode cX8_about 50 = .ok (.iadd, 1) := by decide +kernel
theorem dX8_about_51 : decode cX8_about 51 = .ok (.iaload, 1) := by decide +kernel
theorem dX8_about_52 : decode cX8_about 52 = .ok (.goto 15, 3) := by decide +kernel
theorem dX8_about_55 : decode cX8_about 55 = .ok (.aload_n 0, 1) := by decide +kernel
theorem dX8_about_56 : decode cX8_about 56 = .ok (.iconst 0, 1) := by decide +kernel
theorem dX8_about_57 : decode cX8_about 57 = .ok (.aload_n 0, 1) := by decide +kernel
theorem dX8_about_58 : decode cX8_about 58 = .ok (.getfield 13, 3) := by decide +kernel
theorem dX8_about_61 : decode cX8_about 61 = .ok (.bipush 34, 2) := by decide +kernel
theorem dX8_about_63 : decode cX8_about 63 = .ok (.iload_n 1, 1) := by decide +kernel
theorem dX8_about_64 : decode cX8_about 64 = .ok (.invokevirtual 124, 3) := by decide +kernel
theorem dX8_about_67 : decode cX8_about 67 = .ok (.ireturn, 1) := by decide +kernel
theorem dX8_ageIn_0 : decode cX8_ageIn 0 = .ok (.aload_n 0, 1) := by decide +kernel
theorem dX8_ageIn_1 : decode cX8_ageIn 1 = .ok (.getfield 13, 3) := by decide +kernel
theorem dX8_ageIn_4 : decode cX8_ageIn 4 = .ok (.bipush 36, 2) := by decide +kernel
theorem dX8_ageIn_6 : decode cX8_ageIn 6 = .ok (.iload_n 1, 1) := by decide +kernel
theorem dX8_ageIn_7 : decode cX8_ageIn 7 = .ok (.iadd, 1) := by decide +kernel
theorem dX8_ageIn_8 : decode cX8_ageIn 8 = .ok (.iaload, 1) := by decide +kernel
theorem dX8_ageIn_9 : decode cX8_ageIn 9 = .ok (.aload_n 0, 1) := by decide +kernel
theorem dX8_ageIn_10 : decode cX8_ageIn 10 = .ok (.iload_n 1, 1) := by decide +kernel
theorem dX8_ageIn_11 : decode cX8_ageIn 11 = .ok (.invokevirtual 167, 3) := by decide +kernel
theorem dX8_ageIn_14 : decode cX8_ageIn 14 = .ok (.ifCond .eq 7, 3) := by decide +kernel
theorem dX8_ageIn_17 : decode cX8_ageIn 17 = .ok (.iconst 0, 1) := by decide +kernel
theorem dX8_ageIn_18 : decode cX8_ageIn 18 = .ok (.goto 4, 3) := by decide +kernel
theorem dX8_ageIn_21 : decode cX8_ageIn 21 = .ok (.iload_n 2, 1) := by decide +kernel
theorem dX8_ageIn_22 : decode cX8_ageIn 22 = .ok (.iadd, 1) := by decide +kernel
theorem dX8_ageIn_23 : decode cX8_ageIn 23 = .ok (.istore_n 3, 1) := by decide +kernel
theorem dX8_ageIn_24 : decode cX8_ageIn 24 = .ok (.iload_n 3, 1) := by decide +kernel
theorem dX8_ageIn_25 : decode cX8_ageIn 25 = .ok (.bipush 99, 2) := by decide +kernel
theorem dX8_ageIn_27 : decode cX8_ageIn 27 = .ok (.if_icmp .le 8, 3) := by decide +kernel
theorem dX8_ageIn_30 : decode cX8_ageIn 30 = .ok (.bipush 99, 2) := by decide +kernel
theorem dX8_ageIn_32 : decode cX8_ageIn 32 = .ok (.goto 4, 3) := by decide +kernel
theorem dX8_ageIn_35 : decode cX8_ageIn 35 = .ok (.iload_n 3, 1) := by decide +kernel
theorem dX8_ageIn_36 : decode cX8_ageIn 36 = .ok (.ireturn, 1) := by decide +kernel
theorem dX8_liftsIn_0 : decode cX8_liftsIn 0 = .ok (.aload_n 0, 1) := by decide +kernel
theorem dX8_liftsIn_1 : decode cX8_liftsIn 1 = .ok (.iconst 0, 1) := by decide +kernel
theorem dX8_liftsIn_2 : decode cX8_liftsIn 2 = .ok (.iload_n 1, 1) := by decide +kernel
theorem dX8_liftsIn_3 : decode cX8_liftsIn 3 = .ok (.aload_n 0, 1) := by decide +kernel
theorem dX8_liftsIn_4 : decode cX8_liftsIn 4 = .ok (.iload_n 1, 1) := by decide +kernel
theorem dX8_liftsIn_5 : decode cX8_liftsIn 5 = .ok (.iload_n 2, 1) := by decide +kernel
theorem dX8_liftsIn_6 : decode cX8_liftsIn 6 = .ok (.invokevirtual 187, 3) := by decide +kernel
theorem dX8_liftsIn_9 : decode cX8_liftsIn 9 = .ok (.invokevirtual 58, 3) := by decide +kernel
theorem dX8_liftsIn_12 : decode cX8_liftsIn 12 = .ok (.ireturn, 1) := by decide +kernel
theorem dX8_weighsIn_0 : decode cX8_weighsIn 0 = .ok (.aload_n 0, 1) := by decide +kernel
theorem dX8_weighsIn_1 : decode cX8_weighsIn 1 = .ok (.iconst 0, 1) := by decide +kernel
theorem dX8_weighsIn_2 : decode cX8_weighsIn 2 = .ok (.iload_n 1, 1) := by decide +kernel
theorem dX8_weighsIn_3 : decode cX8_weighsIn 3 = .ok (.aload_n 0, 1) := by decide +kernel
theorem dX8_weighsIn_4 : decode cX8_weighsIn 4 = .ok (.getfield 13, 3) := by decide +kernel
theorem dX8_weighsIn_7 : decode cX8_weighsIn 7 = .ok (.bipush 34, 2) := by decide +kernel
theorem dX8_weighsIn_9 : decode cX8_weighsIn 9 = .ok (.iaload, 1) := by decide +kernel
theorem dX8_weighsIn_10 : decode cX8_weighsIn 10 = .ok (.iload_n 2, 1) := by decide +kernel
theorem dX8_weighsIn_11 : decode cX8_weighsIn 11 = .ok (.iadd, 1) := by decide +kernel
theorem dX8_weighsIn_12 : decode cX8_weighsIn 12 = .ok (.invokevirtual 55, 3) := by decide +kernel
theorem dX8_weighsIn_15 : decode cX8_weighsIn 15 = .ok (.ireturn, 1) := by decide +kernel
theorem dX8_lifts_0 : decode cX8_lifts 0 = .ok (.aload_n 0, 1) := by decide +kernel
theorem dX8_lifts_1 : decode cX8_lifts 1 = .ok (.iload_n 1, 1) := by decide +kernel
theorem dX8_lifts_2 : decode cX8_lifts 2 = .ok (.invokevirtual 161, 3) := by decide +kernel
theorem dX8_lifts_5 : decode cX8_lifts 5 = .ok (.ifCond .eq 22, 3) := by decide +kernel
theorem dX8_lifts_8 : decode cX8_lifts 8 = .ok (.iload_n 2, 1) := by decide +kernel
theorem dX8_lifts_9 : decode cX8_lifts 9 = .ok (.iconst 0, 1) := by decide +kernel
theorem dX8_lifts_10 : decode cX8_lifts 10 = .ok (.bipush 60, 2) := by decide +kernel
theorem dX8_lifts_12 : decode cX8_lifts 12 = .ok (.invokestatic 44, 3) := by decide +kernel
theorem dX8_lifts_15 : decode cX8_lifts 15 = .ok (.ifCond .eq 12, 3) := by decide +kernel
theorem dX8_lifts_18 : decode cX8_lifts 18 = .ok (.aload_n 0, 1) := by decide +kernel
theorem dX8_lifts_19 : decode cX8_lifts 19 = .ok (.iload_n 1, 1) := by decide +kernel
theorem dX8_lifts_20 : decode cX8_lifts 20 = .ok (.iload_n 2, 1) := by decide +kernel
theorem dX8_lifts_21 : decode cX8_lifts 21 = .ok (.invokevirtual 190, 3) := by decide +kernel
theorem dX8_lifts_24 : decode cX8_lifts 24 = .ok (.goto 7, 3) := by decide +kernel
theorem dX8_lifts_27 : decode cX8_lifts 27 = .ok (.aload_n 0, 1) := by decide +kernel
theorem dX8_lifts_28 : decode cX8_lifts 28 = .ok (.invokevirtual 69, 3) := by decide +kernel
theorem dX8_lifts_31 : decode cX8_lifts 31 = .ok (.ireturn, 1) := by decide +kernel
theorem dX8_weighs_0 : decode cX8_weighs 0 = .ok (.aload_n 0, 1) := by decide +kernel
theorem dX8_weighs_1 : decode cX8_weighs 1 = .ok (.iload_n 1, 1) := by decide +kernel
theorem dX8_weighs_2 : decode cX8_weighs 2 = .ok (.invokevirtual 164, 3) := by decide +kernel
theorem dX8_weighs_5 : decode cX8_weighs 5 = .ok (.ifCond .eq 22, 3) := by decide +kernel
theorem dX8_weighs_8 : decode cX8_weighs 8 = .ok (.iload_n 2, 1) := by decide +kernel
theorem dX8_weighs_9 : decode cX8_weighs 9 = .ok (.iconst 0, 1) := by decide +kernel
theorem dX8_weighs_10 : decode cX8_weighs 10 = .ok (.bipush 60, 2) := by decide +kernel
theorem dX8_weighs_12 : decode cX8_weighs 12 = .ok (.invokestatic 44, 3) := by decide +kernel
theorem dX8_weighs_15 : decode cX8_weighs 15 = .ok (.ifCond .eq 12, 3) := by decide +kernel
theorem dX8_weighs_18 : decode cX8_weighs 18 = .ok (.aload_n 0, 1) := by decide +kernel
theorem dX8_weighs_19 : decode cX8_weighs 19 = .ok (.iload_n 1, 1) := by decide +kernel
theorem dX8_weighs_20 : decode cX8_weighs 20 = .ok (.iload_n 2, 1) := by decide +kernel
theorem dX8_weighs_21 : decode cX8_weighs 21 = .ok (.invokevirtual 193, 3) := by decide +kernel
theorem dX8_weighs_24 : decode cX8_weighs 24 = .ok (.goto 7, 3) := by decide +kernel
theorem dX8_weighs_27 : decode cX8_weighs 27 = .ok (.aload_n 0, 1) := by decide +kernel
theorem dX8_weighs_28 : decode cX8_weighs 28 = .ok (.invokevirtual 69, 3) := by decide +kernel
theorem dX8_weighs_31 : decode cX8_weighs 31 = .ok (.ireturn, 1) := by decide +kernel
theorem dX8_held_0 : decode cX8_held 0 = .ok (.iconst 0, 1) := by decide +kernel
theorem dX8_held_1 : decode cX8_held 1 = .ok (.istore_n 1, 1) := by decide +kernel
theorem dX8_held_2 : decode cX8_held 2 = .ok (.iconst 0, 1) := by decide +kernel
theorem dX8_held_3 : decode cX8_held 3 = .ok (.istore_n 2, 1) := by decide +kernel
theorem dX8_held_4 : decode cX8_held 4 = .ok (.iload_n 2, 1) := by decide +kernel
theorem dX8_held_5 : decode cX8_held 5 = .ok (.aload_n 0, 1) := by decide +kernel
theorem dX8_held_6 : decode cX8_held 6 = .ok (.getfield 13, 3) := by decide +kernel
theorem dX8_held_9 : decode cX8_held 9 = .ok (.iconst 1, 1) := by decide +kernel
theorem dX8_held_10 : decode cX8_held 10 = .ok (.iaload, 1) := by decide +kernel
theorem dX8_held_11 : decode cX8_held 11 = .ok (.if_icmp .ge 42, 3) := by decide +kernel
theorem dX8_held_14 : decode cX8_held 14 = .ok (.iload_n 1, 1) := by decide +kernel
theorem dX8_held_15 : decode cX8_held 15 = .ok (.aload_n 0, 1) := by decide +kernel
theorem dX8_held_16 : decode cX8_held 16 = .ok (.iload_n 2, 1) := by decide +kernel
theorem dX8_held_17 : decode cX8_held 17 = .ok (.invokevirtual 167, 3) := by decide +kernel
theorem dX8_held_20 : decode cX8_held 20 = .ok (.ifCond .ne 24, 3) := by decide +kernel
theorem dX8_held_23 : decode cX8_held 23 = .ok (.aload_n 0, 1) := by decide +kernel
theorem dX8_held_24 : decode cX8_held 24 = .ok (.iconst 0, 1) := by decide +kernel
theorem dX8_held_25 : decode cX8_held 25 = .ok (.aload_n 0, 1) := by decide +kernel
theorem dX8_held_26 : decode cX8_held 26 = .ok (.getfield 13, 3) := by decide +kernel
theorem dX8_held_29 : decode cX8_held 29 = .ok (.bipush 34, 2) := by decide +kernel
theorem dX8_held_31 : decode cX8_held 31 = .ok (.iload_n 2, 1) := by decide +kernel
theorem dX8_held_32 : decode cX8_held 32 = .ok (.invokevirtual 65, 3) := by decide +kernel
theorem dX8_held_35 : decode cX8_held 35 = .ok (.ifCond .eq 9, 3) := by decide +kernel
theorem dX8_held_38 : decode cX8_held 38 = .ok (.iconst 1, 1) := by decide +kernel
theorem dX8_held_39 : decode cX8_held 39 = .ok (.iload_n 2, 1) := by decide +kernel
theorem dX8_held_40 : decode cX8_held 40 = .ok (.ishl, 1) := by decide +kernel
theorem dX8_held_41 : decode cX8_held 41 = .ok (.goto 4, 3) := by decide +kernel
theorem dX8_held_44 : decode cX8_held 44 = .ok (.iconst 0, 1) := by decide +kernel
theorem dX8_held_45 : decode cX8_held 45 = .ok (.ior, 1) := by decide +kernel
theorem dX8_held_46 : decode cX8_held 46 = .ok (.istore_n 1, 1) := by decide +kernel
theorem dX8_held_47 : decode cX8_held 47 = .ok (.iinc 2 1, 3) := by decide +kernel
theorem dX8_held_50 : decode cX8_held 50 = .ok (.goto (-46), 3) := by decide +kernel
theorem dX8_held_53 : decode cX8_held 53 = .ok (.iload_n 1, 1) := by decide +kernel
theorem dX8_held_54 : decode cX8_held 54 = .ok (.ireturn, 1) := by decide +kernel
theorem dX8_left_0 : decode cX8_left 0 = .ok (.iload_n 1, 1) := by decide +kernel
theorem dX8_left_1 : decode cX8_left 1 = .ok (.iconst 0, 1) := by decide +kernel
theorem dX8_left_2 : decode cX8_left 2 = .ok (.bipush 60, 2) := by decide +kernel
theorem dX8_left_4 : decode cX8_left 4 = .ok (.invokestatic 44, 3) := by decide +kernel
theorem dX8_left_7 : decode cX8_left 7 = .ok (.ifCond .ne 8, 3) := by decide +kernel
theorem dX8_left_10 : decode cX8_left 10 = .ok (.aload_n 0, 1) := by decide +kernel
theorem dX8_left_11 : decode cX8_left 11 = .ok (.invokevirtual 69, 3) := by decide +kernel
theorem dX8_left_14 : decode cX8_left 14 = .ok (.ireturn, 1) := by decide +kernel
theorem dX8_left_15 : decode cX8_left 15 = .ok (.aload_n 0, 1) := by decide +kernel
theorem dX8_left_16 : decode cX8_left 16 = .ok (.invokevirtual 196, 3) := by decide +kernel
theorem dX8_left_19 : decode cX8_left 19 = .ok (.iconst 0, 1) := by decide +kernel
theorem dX8_left_20 : decode cX8_left 20 = .ok (.istore_n 2, 1) := by decide +kernel
theorem dX8_left_21 : decode cX8_left 21 = .ok (.iload_n 2, 1) := by decide +kernel
theorem dX8_left_22 : decode cX8_left 22 = .ok (.iload_n 1, 1) := by decide +kernel
theorem dX8_left_23 : decode cX8_left 23 = .ok (.if_icmp .ge 19, 3) := by decide +kernel
theorem dX8_left_26 : decode cX8_left 26 = .ok (.aload_n 0, 1) := by decide +kernel
theorem dX8_left_27 : decode cX8_left 27 = .ok (.iconst 0, 1) := by decide +kernel
theorem dX8_left_28 : decode cX8_left 28 = .ok (.aload_n 0, 1) := by decide +kernel
theorem dX8_left_29 : decode cX8_left 29 = .ok (.getfield 20, 3) := by decide +kernel
theorem dX8_left_32 : decode cX8_left 32 = .ok (.iconst 0, 1) := by decide +kernel
theorem dX8_left_33 : decode cX8_left 33 = .ok (.invokevirtual 128, 3) := by decide +kernel
theorem dX8_left_36 : decode cX8_left 36 = .ok (.iinc 2 1, 3) := by decide +kernel
theorem dX8_left_39 : decode cX8_left 39 = .ok (.goto (-18), 3) := by decide +kernel
theorem dX8_left_42 : decode cX8_left 42 = .ok (.aload_n 0, 1) := by decide +kernel
theorem dX8_left_43 : decode cX8_left 43 = .ok (.aload_n 0, 1) := by decide +kernel
theorem dX8_left_44 : decode cX8_left 44 = .ok (.getfield 20, 3) := by decide +kernel
theorem dX8_left_47 : decode cX8_left 47 = .ok (.iconst 0, 1) := by decide +kernel
theorem dX8_left_48 : decode cX8_left 48 = .ok (.invokevirtual 176, 3) := by decide +kernel
theorem dX8_left_51 : decode cX8_left 51 = .ok (.ireturn, 1) := by decide +kernel
theorem dX8_when_0 : decode cX8_when 0 = .ok (.aload_n 0, 1) := by decide +kernel
theorem dX8_when_1 : decode cX8_when 1 = .ok (.iload_n 1, 1) := by decide +kernel
theorem dX8_when_2 : decode cX8_when 2 = .ok (.invokevirtual 161, 3) := by decide +kernel
theorem dX8_when_5 : decode cX8_when 5 = .ok (.ifCond .ne 8, 3) := by decide +kernel
theorem dX8_when_8 : decode cX8_when 8 = .ok (.aload_n 0, 1) := by decide +kernel
theorem dX8_when_9 : decode cX8_when 9 = .ok (.invokevirtual 69, 3) := by decide +kernel
theorem dX8_when_12 : decode cX8_when 12 = .ok (.ireturn, 1) := by decide +kernel
theorem dX8_when_13 : decode cX8_when 13 = .ok (.aload_n 0, 1) := by decide +kernel
theorem dX8_when_14 : decode cX8_when 14 = .ok (.invokevirtual 196, 3) := by decide +kernel
theorem dX8_when_17 : decode cX8_when 17 = .ok (.iconst 1, 1) := by decide +kernel
theorem dX8_when_18 : decode cX8_when 18 = .ok (.istore_n 2, 1) := by decide +kernel
theorem dX8_when_19 : decode cX8_when 19 = .ok (.iload_n 2, 1) := by decide +kernel
theorem dX8_when_20 : decode cX8_when 20 = .ok (.bipush 60, 2) := by decide +kernel
theorem dX8_when_22 : decode cX8_when 22 = .ok (.if_icmp .gt 42, 3) := by decide +kernel
theorem dX8_when_25 : decode cX8_when 25 = .ok (.aload_n 0, 1) := by decide +kernel
theorem dX8_when_26 : decode cX8_when 26 = .ok (.iload_n 1, 1) := by decide +kernel
theorem dX8_when_27 : decode cX8_when 27 = .ok (.invokevirtual 167, 3) := by decide +kernel
theorem dX8_when_30 : decode cX8_when 30 = .ok (.ifCond .ne 34, 3) := by decide +kernel
theorem dX8_when_33 : decode cX8_when 33 = .ok (.aload_n 0, 1) := by decide +kernel
theorem dX8_when_34 : decode cX8_when 34 = .ok (.iconst 0, 1) := by decide +kernel
theorem dX8_when_35 : decode cX8_when 35 = .ok (.aload_n 0, 1) := by decide +kernel
theorem dX8_when_36 : decode cX8_when 36 = .ok (.getfield 20, 3) := by decide +kernel
theorem dX8_when_39 : decode cX8_when 39 = .ok (.iconst 0, 1) := by decide +kernel
theorem dX8_when_40 : decode cX8_when 40 = .ok (.invokevirtual 128, 3) := by decide +kernel
theorem dX8_when_43 : decode cX8_when 43 = .ok (.aload_n 0, 1) := by decide +kernel
theorem dX8_when_44 : decode cX8_when 44 = .ok (.getfield 20, 3) := by decide +kernel
theorem dX8_when_47 : decode cX8_when 47 = .ok (.iconst 1, 1) := by decide +kernel
theorem dX8_when_48 : decode cX8_when 48 = .ok (.iaload, 1) := by decide +kernel
theorem dX8_when_49 : decode cX8_when 49 = .ok (.iload_n 1, 1) := by decide +kernel
theorem dX8_when_50 : decode cX8_when 50 = .ok (.invokestatic 61, 3) := by decide +kernel
theorem dX8_when_53 : decode cX8_when 53 = .ok (.ifCond .eq 5, 3) := by decide +kernel
theorem dX8_when_56 : decode cX8_when 56 = .ok (.iload_n 2, 1) := by decide +kernel
theorem dX8_when_57 : decode cX8_when 57 = .ok (.ireturn, 1) := by decide +kernel
theorem dX8_when_58 : decode cX8_when 58 = .ok (.iinc 2 1, 3) := by decide +kernel
theorem dX8_when_61 : decode cX8_when 61 = .ok (.goto (-42), 3) := by decide +kernel
theorem dX8_when_64 : decode cX8_when 64 = .ok (.iconst (-1), 1) := by decide +kernel
theorem dX8_when_65 : decode cX8_when 65 = .ok (.ireturn, 1) := by decide +kernel
theorem dX8_longOf_0 : decode cX8_longOf 0 = .ok (.iconst 0, 1) := by decide +kernel
theorem dX8_longOf_1 : decode cX8_longOf 1 = .ok (.istore_n 3, 1) := by decide +kernel
theorem dX8_longOf_2 : decode cX8_longOf 2 = .ok (.iload_n 3, 1) := by decide +kernel
theorem dX8_longOf_3 : decode cX8_longOf 3 = .ok (.bipush 60, 2) := by decide +kernel
theorem dX8_longOf_5 : decode cX8_longOf 5 = .ok (.if_icmp .ge 24, 3) := by decide +kernel
theorem dX8_longOf_8 : decode cX8_longOf 8 = .ok (.aload_n 0, 1) := by decide +kernel
theorem dX8_longOf_9 : decode cX8_longOf 9 = .ok (.iload_n 2, 1) := by decide +kernel
theorem dX8_longOf_10 : decode cX8_longOf 10 = .ok (.iload_n 3, 1) := by decide +kernel
theorem dX8_longOf_11 : decode cX8_longOf 11 = .ok (.invokevirtual 193, 3) := by decide +kernel
theorem dX8_longOf_14 : decode cX8_longOf 14 = .ok (.aload_n 0, 1) := by decide +kernel
theorem dX8_longOf_15 : decode cX8_longOf 15 = .ok (.iload_n 1, 1) := by decide +kernel
theorem dX8_longOf_16 : decode cX8_longOf 16 = .ok (.iload_n 3, 1) := by decide +kernel
theorem dX8_longOf_17 : decode cX8_longOf 17 = .ok (.invokevirtual 190, 3) := by decide +kernel
theorem dX8_longOf_20 : decode cX8_longOf 20 = .ok (.if_icmp .le 9, 3) := by decide +kernel
theorem dX8_longOf_23 : decode cX8_longOf 23 = .ok (.iinc 3 1, 3) := by decide +kernel
theorem dX8_longOf_26 : decode cX8_longOf 26 = .ok (.goto (-24), 3) := by decide +kernel
theorem dX8_longOf_29 : decode cX8_longOf 29 = .ok (.iload_n 3, 1) := by decide +kernel
theorem dX8_longOf_30 : decode cX8_longOf 30 = .ok (.ireturn, 1) := by decide +kernel
theorem dX8_lasts_0 : decode cX8_lasts 0 = .ok (.aload_n 0, 1) := by decide +kernel
theorem dX8_lasts_1 : decode cX8_lasts 1 = .ok (.iload_n 1, 1) := by decide +kernel
theorem dX8_lasts_2 : decode cX8_lasts 2 = .ok (.invokevirtual 161, 3) := by decide +kernel
theorem dX8_lasts_5 : decode cX8_lasts 5 = .ok (.ifCond .eq 11, 3) := by decide +kernel
theorem dX8_lasts_8 : decode cX8_lasts 8 = .ok (.aload_n 0, 1) := by decide +kernel
theorem dX8_lasts_9 : decode cX8_lasts 9 = .ok (.iload_n 2, 1) := by decide +kernel
theorem dX8_lasts_10 : decode cX8_lasts 10 = .ok (.invokevirtual 164, 3) := by decide +kernel
theorem dX8_lasts_13 : decode cX8_lasts 13 = .ok (.ifCond .ne 8, 3) := by decide +kernel
theorem dX8_lasts_16 : decode cX8_lasts 16 = .ok (.aload_n 0, 1) := by decide +kernel
theorem dX8_lasts_17 : decode cX8_lasts 17 = .ok (.invokevirtual 69, 3) := by decide +kernel
theorem dX8_lasts_20 : decode cX8_lasts 20 = .ok (.ireturn, 1) := by decide +kernel
theorem dX8_lasts_21 : decode cX8_lasts 21 = .ok (.aload_n 0, 1) := by decide +kernel
theorem dX8_lasts_22 : decode cX8_lasts 22 = .ok (.iload_n 1, 1) := by decide +kernel
theorem dX8_lasts_23 : decode cX8_lasts 23 = .ok (.invokevirtual 167, 3) := by decide +kernel
theorem dX8_lasts_26 : decode cX8_lasts 26 = .ok (.ifCond .eq 10, 3) := by decide +kernel
theorem dX8_lasts_29 : decode cX8_lasts 29 = .ok (.aload_n 0, 1) := by decide +kernel
theorem dX8_lasts_30 : decode cX8_lasts 30 = .ok (.invokevirtual 170, 3) := by decide +kernel
theorem dX8_lasts_33 : decode cX8_lasts 33 = .ok (.goto 9, 3) := by decide +kernel
theorem dX8_lasts_36 : decode cX8_lasts 36 = .ok (.aload_n 0, 1) := by decide +kernel
theorem dX8_lasts_37 : decode cX8_lasts 37 = .ok (.iload_n 1, 1) := by decide +kernel
theorem dX8_lasts_38 : decode cX8_lasts 38 = .ok (.iload_n 2, 1) := by decide +kernel
theorem dX8_lasts_39 : decode cX8_lasts 39 = .ok (.invokevirtual 199, 3) := by decide +kernel
theorem dX8_lasts_42 : decode cX8_lasts 42 = .ok (.ireturn, 1) := by decide +kernel
theorem dX8_tellMost_0 : decode cX8_tellMost 0 = .ok (.iconst 1, 1) := by decide +kernel
theorem dX8_tellMost_1 : decode cX8_tellMost 1 = .ok (.aload_n 0, 1) := by decide +kernel
theorem dX8_tellMost_2 : decode cX8_tellMost 2 = .ok (.getfield 13, 3) := by decide +kernel
theorem dX8_tellMost_5 : decode cX8_tellMost 5 = .ok (.iconst 0, 1) := by decide +kernel
theorem dX8_tellMost_6 : decode cX8_tellMost 6 = .ok (.iaload, 1) := by decide +kernel
theorem dX8_tellMost_7 : decode cX8_tellMost 7 = .ok (.ishl, 1) := by decide +kernel
theorem dX8_tellMost_8 : decode cX8_tellMost 8 = .ok (.istore_n 2, 1) := by decide +kernel
theorem dX8_tellMost_9 : decode cX8_tellMost 9 = .ok (.iconst 0, 1) := by decide +kernel
theorem dX8_tellMost_10 : decode cX8_tellMost 10 = .ok (.istore_n 3, 1) := by decide +kernel
theorem dX8_tellMost_11 : decode cX8_tellMost 11 = .ok (.iload_n 3, 1) := by decide +kernel
theorem dX8_tellMost_12 : decode cX8_tellMost 12 = .ok (.aload_n 0, 1) := by decide +kernel
theorem dX8_tellMost_13 : decode cX8_tellMost 13 = .ok (.getfield 13, 3) := by decide +kernel
theorem dX8_tellMost_16 : decode cX8_tellMost 16 = .ok (.iconst 1, 1) := by decide +kernel
theorem dX8_tellMost_17 : decode cX8_tellMost 17 = .ok (.iaload, 1) := by decide +kernel
theorem dX8_tellMost_18 : decode cX8_tellMost 18 = .ok (.if_icmp .ge 72, 3) := by decide +kernel
theorem dX8_tellMost_21 : decode cX8_tellMost 21 = .ok (.aload_n 0, 1) := by decide +kernel
theorem dX8_tellMost_22 : decode cX8_tellMost 22 = .ok (.getfield 33, 3) := by decide +kernel
theorem dX8_tellMost_25 : decode cX8_tellMost 25 = .ok (.iload_n 3, 1) := by decide +kernel
theorem dX8_tellMost_26 : decode cX8_tellMost 26 = .ok (.iconst 0, 1) := by decide +kernel
theorem dX8_tellMost_27 : decode cX8_tellMost 27 = .ok (.iastore, 1) := by decide +kernel
theorem dX8_tellMost_28 : decode cX8_tellMost 28 = .ok (.iconst 0, 1) := by decide +kernel
theorem dX8_tellMost_29 : decode cX8_tellMost 29 = .ok (.istore 4, 2) := by decide +kernel
theorem dX8_tellMost_31 : decode cX8_tellMost 31 = .ok (.iload 4, 2) := by decide +kernel
theorem dX8_tellMost_33 : decode cX8_tellMost 33 = .ok (.aload_n 0, 1) := by decide +kernel
theorem dX8_tellMost_34 : decode cX8_tellMost 34 = .ok (.getfield 13, 3) := by decide +kernel
theorem dX8_tellMost_37 : decode cX8_tellMost 37 = .ok (.iconst 0, 1) := by decide +kernel
theorem dX8_tellMost_38 : decode cX8_tellMost 38 = .ok (.iaload, 1) := by decide +kernel
theorem dX8_tellMost_39 : decode cX8_tellMost 39 = .ok (.if_icmp .ge 45, 3) := by decide +kernel
theorem dX8_tellMost_42 : decode cX8_tellMost 42 = .ok (.aload_n 0, 1) := by decide +kernel
theorem dX8_tellMost_43 : decode cX8_tellMost 43 = .ok (.getfield 33, 3) := by decide +kernel
theorem dX8_tellMost_46 : decode cX8_tellMost 46 = .ok (.iload_n 3, 1) := by decide +kernel
theorem dX8_tellMost_47 : decode cX8_tellMost 47 = .ok (.dup2, 1) := by decide +kernel
theorem dX8_tellMost_48 : decode cX8_tellMost 48 = .ok (.iaload, 1) := by decide +kernel
theorem dX8_tellMost_49 : decode cX8_tellMost 49 = .ok (.aload_n 0, 1) := by decide +kernel
theorem dX8_tellMost_50 : decode cX8_tellMost 50 = .ok (.iload_n 3, 1) := by decide +kernel
theorem dX8_tellMost_51 : decode cX8_tellMost 51 = .ok (.invokevirtual 167, 3) := by decide +kernel
theorem dX8_tellMost_54 : decode cX8_tellMost 54 = .ok (.ifCond .ne 21, 3) := by decide +kernel
theorem dX8_tellMost_57 : decode cX8_tellMost 57 = .ok (.aload_n 0, 1) := by decide +kernel
theorem dX8_tellMost_58 : decode cX8_tellMost 58 = .ok (.iload_n 3, 1) := by decide +kernel
theorem dX8_tellMost_59 : decode cX8_tellMost 59 = .ok (.iload 4, 2) := by decide +kernel
theorem dX8_tellMost_61 : decode cX8_tellMost 61 = .ok (.invokevirtual 199, 3) := by decide +kernel
theorem dX8_tellMost_64 : decode cX8_tellMost 64 = .ok (.iload_n 1, 1) := by decide +kernel
theorem dX8_tellMost_65 : decode cX8_tellMost 65 = .ok (.if_icmp .lt 10, 3) := by decide +kernel
theorem dX8_tellMost_68 : decode cX8_tellMost 68 = .ok (.iconst 1, 1) := by decide +kernel
theorem dX8_tellMost_69 : decode cX8_tellMost 69 = .ok (.iload 4, 2) := by decide +kernel
theorem dX8_tellMost_71 : decode cX8_tellMost 71 = .ok (.ishl, 1) := by decide +kernel
theorem dX8_tellMost_72 : decode cX8_tellMost 72 = .ok (.goto 4, 3) := by decide +kernel
theorem dX8_tellMost_75 : decode cX8_tellMost 75 = .ok (.iconst 0, 1) := by decide +kernel
theorem dX8_tellMost_76 : decode cX8_tellMost 76 = .ok (.ior, 1) := by decide +kernel
theorem dX8_tellMost_77 : decode cX8_tellMost 77 = .ok (.iastore, 1) := by decide +kernel
theorem dX8_tellMost_78 : decode cX8_tellMost 78 = .ok (.iinc 4 1, 3) := by decide +kernel
theorem dX8_tellMost_81 : decode cX8_tellMost 81 = .ok (.goto (-50), 3) := by decide +kernel
theorem dX8_tellMost_84 : decode cX8_tellMost 84 = .ok (.iinc 3 1, 3) := by decide +kernel
theorem dX8_tellMost_87 : decode cX8_tellMost 87 = .ok (.goto (-76), 3) := by decide +kernel
theorem dX8_tellMost_90 : decode cX8_tellMost 90 = .ok (.iconst 0, 1) := by decide +kernel
theorem dX8_tellMost_91 : decode cX8_tellMost 91 = .ok (.istore_n 3, 1) := by decide +kernel
theorem dX8_tellMost_92 : decode cX8_tellMost 92 = .ok (.iload_n 3, 1) := by decide +kernel
theorem dX8_tellMost_93 : decode cX8_tellMost 93 = .ok (.iload_n 2, 1) := by decide +kernel
theorem dX8_tellMost_94 : decode cX8_tellMost 94 = .ok (.if_icmp .ge 45, 3) := by decide +kernel
theorem dX8_tellMost_97 : decode cX8_tellMost 97 = .ok (.aload_n 0, 1) := by decide +kernel
theorem dX8_tellMost_98 : decode cX8_tellMost 98 = .ok (.getfield 27, 3) := by decide +kernel
theorem dX8_tellMost_101 : decode cX8_tellMost 101 = .ok (.sipush 128, 3) := by decide +kernel
theorem dX8_tellMost_104 : decode cX8_tellMost 104 = .ok (.aload_n 0, 1) := by decide +kernel
theorem dX8_tellMost_105 : decode cX8_tellMost 105 = .ok (.getfield 13, 3) := by decide +kernel
theorem dX8_tellMost_108 : decode cX8_tellMost 108 = .ok (.iconst 1, 1) := by decide +kernel
theorem dX8_tellMost_109 : decode cX8_tellMost 109 = .ok (.iaload, 1) := by decide +kernel
theorem dX8_tellMost_110 : decode cX8_tellMost 110 = .ok (.imul, 1) := by decide +kernel
theorem dX8_tellMost_111 : decode cX8_tellMost 111 = .ok (.iload_n 3, 1) := by decide +kernel
theorem dX8_tellMost_112 : decode cX8_tellMost 112 = .ok (.iadd, 1) := by decide +kernel
theorem dX8_tellMost_113 : decode cX8_tellMost 113 = .ok (.iconst 0, 1) := by decide +kernel
theorem dX8_tellMost_114 : decode cX8_tellMost 114 = .ok (.iastore, 1) := by decide +kernel
theorem dX8_tellMost_115 : decode cX8_tellMost 115 = .ok (.aload_n 0, 1) := by decide +kernel
theorem dX8_tellMost_116 : decode cX8_tellMost 116 = .ok (.getfield 30, 3) := by decide +kernel
theorem dX8_tellMost_119 : decode cX8_tellMost 119 = .ok (.sipush 128, 3) := by decide +kernel
theorem dX8_tellMost_122 : decode cX8_tellMost 122 = .ok (.aload_n 0, 1) := by decide +kernel
theorem dX8_tellMost_123 : decode cX8_tellMost 123 = .ok (.getfield 13, 3) := by decide +kernel
theorem dX8_tellMost_126 : decode cX8_tellMost 126 = .ok (.iconst 1, 1) := by decide +kernel
theorem dX8_tellMost_127 : decode cX8_tellMost 127 = .ok (.iaload, 1) := by decide +kernel
theorem dX8_tellMost_128 : decode cX8_tellMost 128 = .ok (.imul, 1) := by decide +kernel
theorem dX8_tellMost_129 : decode cX8_tellMost 129 = .ok (.iload_n 3, 1) := by decide +kernel
theorem dX8_tellMost_130 : decode cX8_tellMost 130 = .ok (.iadd, 1) := by decide +kernel
theorem dX8_tellMost_131 : decode cX8_tellMost 131 = .ok (.iconst 0, 1) := by decide +kernel
theorem dX8_tellMost_132 : decode cX8_tellMost 132 = .ok (.iastore, 1) := by decide +kernel
theorem dX8_tellMost_133 : decode cX8_tellMost 133 = .ok (.iinc 3 1, 3) := by decide +kernel
theorem dX8_tellMost_136 : decode cX8_tellMost 136 = .ok (.goto (-44), 3) := by decide +kernel
theorem dX8_tellMost_139 : decode cX8_tellMost 139 = .ok (.aload_n 0, 1) := by decide +kernel
theorem dX8_tellMost_140 : decode cX8_tellMost 140 = .ok (.getfield 13, 3) := by decide +kernel
theorem dX8_tellMost_143 : decode cX8_tellMost 143 = .ok (.iconst 1, 1) := by decide +kernel
theorem dX8_tellMost_144 : decode cX8_tellMost 144 = .ok (.iaload, 1) := by decide +kernel
theorem dX8_tellMost_145 : decode cX8_tellMost 145 = .ok (.iconst 1, 1) := by decide +kernel
theorem dX8_tellMost_146 : decode cX8_tellMost 146 = .ok (.isub, 1) := by decide +kernel
theorem dX8_tellMost_147 : decode cX8_tellMost 147 = .ok (.istore_n 3, 1) := by decide +kernel
theorem dX8_tellMost_148 : decode cX8_tellMost 148 = .ok (.iload_n 3, 1) := by decide +kernel
theorem dX8_tellMost_149 : decode cX8_tellMost 149 = .ok (.ifCond .lt 252, 3) := by decide +kernel
theorem dX8_tellMost_152 : decode cX8_tellMost 152 = .ok (.iconst 0, 1) := by decide +kernel
theorem dX8_tellMost_153 : decode cX8_tellMost 153 = .ok (.istore 4, 2) := by decide +kernel
theorem dX8_tellMost_155 : decode cX8_tellMost 155 = .ok (.iload 4, 2) := by decide +kernel
theorem dX8_tellMost_157 : decode cX8_tellMost 157 = .ok (.iload_n 2, 1) := by decide +kernel
theorem dX8_tellMost_158 : decode cX8_tellMost 158 = .ok (.if_icmp .ge 237, 3) := by decide +kernel
theorem dX8_tellMost_161 : decode cX8_tellMost 161 = .ok (.aload_n 0, 1) := by decide +kernel
theorem dX8_tellMost_162 : decode cX8_tellMost 162 = .ok (.getfield 27, 3) := by decide +kernel
theorem dX8_tellMost_165 : decode cX8_tellMost 165 = .ok (.sipush 128, 3) := by decide +kernel
theorem dX8_tellMost_168 : decode cX8_tellMost 168 = .ok (.iload_n 3, 1) := by decide +kernel
theorem dX8_tellMost_169 : decode cX8_tellMost 169 = .ok (.iconst 1, 1) := by decide +kernel
theorem dX8_tellMost_170 : decode cX8_tellMost 170 = .ok (.iadd, 1) := by decide +kernel
theorem dX8_tellMost_171 : decode cX8_tellMost 171 = .ok (.imul, 1) := by decide +kernel
theorem dX8_tellMost_172 : decode cX8_tellMost 172 = .ok (.iload 4, 2) := by decide +kernel
theorem dX8_tellMost_174 : decode cX8_tellMost 174 = .ok (.iadd, 1) := by decide +kernel
theorem dX8_tellMost_175 : decode cX8_tellMost 175 = .ok (.iaload, 1) := by decide +kernel
theorem dX8_tellMost_176 : decode cX8_tellMost 176 = .ok (.istore 5, 2) := by decide +kernel
theorem dX8_tellMost_178 : decode cX8_tellMost 178 = .ok (.aload_n 0, 1) := by decide +kernel
theorem dX8_tellMost_179 : decode cX8_tellMost 179 = .ok (.iload_n 3, 1) := by decide +kernel
theorem dX8_tellMost_180 : decode cX8_tellMost 180 = .ok (.invokevirtual 167, 3) := by decide +kernel
theorem dX8_tellMost_183 : decode cX8_tellMost 183 = .ok (.ifCond .eq 21, 3) := by decide +kernel
theorem dX8_tellMost_186 : decode cX8_tellMost 186 = .ok (.aload_n 0, 1) := by decide +kernel
theorem dX8_tellMost_187 : decode cX8_tellMost 187 = .ok (.getfield 30, 3) := by decide +kernel
theorem dX8_tellMost_190 : decode cX8_tellMost 190 = .ok (.sipush 128, 3) := by decide +kernel
theorem dX8_tellMost_193 : decode cX8_tellMost 193 = .ok (.iload_n 3, 1) := by decide +kernel
theorem dX8_tellMost_194 : decode cX8_tellMost 194 = .ok (.iconst 1, 1) := by decide +kernel
theorem dX8_tellMost_195 : decode cX8_tellMost 195 = .ok (.iadd, 1) := by decide +kernel
theorem dX8_tellMost_196 : decode cX8_tellMost 196 = .ok (.imul, 1) := by decide +kernel
theorem dX8_tellMost_197 : decode cX8_tellMost 197 = .ok (.iload 4, 2) := by decide +kernel
theorem dX8_tellMost_199 : decode cX8_tellMost 199 = .ok (.iadd, 1) := by decide +kernel
theorem dX8_tellMost_200 : decode cX8_tellMost 200 = .ok (.iaload, 1) := by decide +kernel
theorem dX8_tellMost_201 : decode cX8_tellMost 201 = .ok (.goto 5, 3) := by decide +kernel
theorem dX8_tellMost_204 : decode cX8_tellMost 204 = .ok (.ldc 202, 2) := by decide +kernel
theorem dX8_tellMost_206 : decode cX8_tellMost 206 = .ok (.istore 6, 2) := by decide +kernel
theorem dX8_tellMost_208 : decode cX8_tellMost 208 = .ok (.iconst 0, 1) := by decide +kernel
theorem dX8_tellMost_209 : decode cX8_tellMost 209 = .ok (.istore 7, 2) := by decide +kernel
theorem dX8_tellMost_211 : decode cX8_tellMost 211 = .ok (.iload 7, 2) := by decide +kernel
theorem dX8_tellMost_213 : decode cX8_tellMost 213 = .ok (.aload_n 0, 1) := by decide +kernel
theorem dX8_tellMost_214 : decode cX8_tellMost 214 = .ok (.getfield 13, 3) := by decide +kernel
theorem dX8_tellMost_217 : decode cX8_tellMost 217 = .ok (.iconst 0, 1) := by decide +kernel
theorem dX8_tellMost_218 : decode cX8_tellMost 218 = .ok (.iaload, 1) := by decide +kernel
theorem dX8_tellMost_219 : decode cX8_tellMost 219 = .ok (.if_icmp .ge 128, 3) := by decide +kernel
theorem dX8_tellMost_222 : decode cX8_tellMost 222 = .ok (.aload_n 0, 1) := by decide +kernel
theorem dX8_tellMost_223 : decode cX8_tellMost 223 = .ok (.getfield 33, 3) := by decide +kernel
theorem dX8_tellMost_226 : decode cX8_tellMost 226 = .ok (.iload_n 3, 1) := by decide +kernel
theorem dX8_tellMost_227 : decode cX8_tellMost 227 = .ok (.iaload, 1) := by decide +kernel
theorem dX8_tellMost_228 : decode cX8_tellMost 228 = .ok (.iload 7, 2) := by decide +kernel
theorem dX8_tellMost_230 : decode cX8_tellMost 230 = .ok (.invokestatic 61, 3) := by decide +kernel
theorem dX8_tellMost_233 : decode cX8_tellMost 233 = .ok (.ifCond .eq 108, 3) := by decide +kernel
theorem dX8_tellMost_236 : decode cX8_tellMost 236 = .ok (.iload 4, 2) := by decide +kernel
theorem dX8_tellMost_238 : decode cX8_tellMost 238 = .ok (.iload 7, 2) := by decide +kernel
theorem dX8_tellMost_240 : decode cX8_tellMost 240 = .ok (.invokestatic 61, 3) := by decide +kernel
theorem dX8_tellMost_243 : decode cX8_tellMost 243 = .ok (.ifCond .ne 98, 3) := by decide +kernel
theorem dX8_tellMost_246 : decode cX8_tellMost 246 = .ok (.sipush 128, 3) := by decide +kernel
theorem dX8_tellMost_249 : decode cX8_tellMost 249 = .ok (.iload_n 3, 1) := by decide +kernel
theorem dX8_tellMost_250 : decode cX8_tellMost 250 = .ok (.iconst 1, 1) := by decide +kernel
theorem dX8_tellMost_251 : decode cX8_tellMost 251 = .ok (.iadd, 1) := by decide +kernel
theorem dX8_tellMost_252 : decode cX8_tellMost 252 = .ok (.imul, 1) := by decide +kernel
theorem dX8_tellMost_253 : decode cX8_tellMost 253 = .ok (.iload 4, 2) := by decide +kernel
theorem dX8_tellMost_255 : decode cX8_tellMost 255 = .ok (.iconst 1, 1) := by decide +kernel
theorem dX8_tellMost_256 : decode cX8_tellMost 256 = .ok (.iload 7, 2) := by decide +kernel
theorem dX8_tellMost_258 : decode cX8_tellMost 258 = .ok (.ishl, 1) := by decide +kernel
theorem dX8_tellMost_259 : decode cX8_tellMost 259 = .ok (.ior, 1) := by decide +kernel
theorem dX8_tellMost_260 : decode cX8_tellMost 260 = .ok (.iadd, 1) := by decide +kernel
theorem dX8_tellMost_261 : decode cX8_tellMost 261 = .ok (.istore 8, 2) := by decide +kernel
theorem dX8_tellMost_263 : decode cX8_tellMost 263 = .ok (.iconst 1, 1) := by decide +kernel
theorem dX8_tellMost_264 : decode cX8_tellMost 264 = .ok (.aload_n 0, 1) := by decide +kernel
theorem dX8_tellMost_265 : decode cX8_tellMost 265 = .ok (.getfield 27, 3) := by decide +kernel
theorem dX8_tellMost_268 : decode cX8_tellMost 268 = .ok (.iload 8, 2) := by decide +kernel
theorem dX8_tellMost_270 : decode cX8_tellMost 270 = .ok (.iaload, 1) := by decide +kernel
theorem dX8_tellMost_271 : decode cX8_tellMost 271 = .ok (.iadd, 1) := by decide +kernel
theorem dX8_tellMost_272 : decode cX8_tellMost 272 = .ok (.iload 5, 2) := by decide +kernel
theorem dX8_tellMost_274 : decode cX8_tellMost 274 = .ok (.if_icmp .le 15, 3) := by decide +kernel
theorem dX8_tellMost_277 : decode cX8_tellMost 277 = .ok (.iconst 1, 1) := by decide +kernel
theorem dX8_tellMost_278 : decode cX8_tellMost 278 = .ok (.aload_n 0, 1) := by decide +kernel
theorem dX8_tellMost_279 : decode cX8_tellMost 279 = .ok (.getfield 27, 3) := by decide +kernel
theorem dX8_tellMost_282 : decode cX8_tellMost 282 = .ok (.iload 8, 2) := by decide +kernel
theorem dX8_tellMost_284 : decode cX8_tellMost 284 = .ok (.iaload, 1) := by decide +kernel
theorem dX8_tellMost_285 : decode cX8_tellMost 285 = .ok (.iadd, 1) := by decide +kernel
theorem dX8_tellMost_286 : decode cX8_tellMost 286 = .ok (.goto 5, 3) := by decide +kernel
theorem dX8_tellMost_289 : decode cX8_tellMost 289 = .ok (.iload 5, 2) := by decide +kernel
theorem dX8_tellMost_291 : decode cX8_tellMost 291 = .ok (.istore 5, 2) := by decide +kernel
theorem dX8_tellMost_293 : decode cX8_tellMost 293 = .ok (.aload_n 0, 1) := by decide +kernel
theorem dX8_tellMost_294 : decode cX8_tellMost 294 = .ok (.getfield 13, 3) := by decide +kernel
theorem dX8_tellMost_297 : decode cX8_tellMost 297 = .ok (.bipush 13, 2) := by decide +kernel
theorem dX8_tellMost_299 : decode cX8_tellMost 299 = .ok (.iload 7, 2) := by decide +kernel
theorem dX8_tellMost_301 : decode cX8_tellMost 301 = .ok (.iadd, 1) := by decide +kernel
theorem dX8_tellMost_302 : decode cX8_tellMost 302 = .ok (.iaload, 1) := by decide +kernel
theorem dX8_tellMost_303 : decode cX8_tellMost 303 = .ok (.aload_n 0, 1) := by decide +kernel
theorem dX8_tellMost_304 : decode cX8_tellMost 304 = .ok (.getfield 30, 3) := by decide +kernel
theorem dX8_tellMost_307 : decode cX8_tellMost 307 = .ok (.iload 8, 2) := by decide +kernel
theorem dX8_tellMost_309 : decode cX8_tellMost 309 = .ok (.iaload, 1) := by decide +kernel
theorem dX8_tellMost_310 : decode cX8_tellMost 310 = .ok (.iadd, 1) := by decide +kernel
theorem dX8_tellMost_311 : decode cX8_tellMost 311 = .ok (.iload 6, 2) := by decide +kernel
theorem dX8_tellMost_313 : decode cX8_tellMost 313 = .ok (.if_icmp .ge 24, 3) := by decide +kernel
theorem dX8_tellMost_316 : decode cX8_tellMost 316 = .ok (.aload_n 0, 1) := by decide +kernel
theorem dX8_tellMost_317 : decode cX8_tellMost 317 = .ok (.getfield 13, 3) := by decide +kernel
theorem dX8_tellMost_320 : decode cX8_tellMost 320 = .ok (.bipush 13, 2) := by decide +kernel
theorem dX8_tellMost_322 : decode cX8_tellMost 322 = .ok (.iload 7, 2) := by decide +kernel
theorem dX8_tellMost_324 : decode cX8_tellMost 324 = .ok (.iadd, 1) := by decide +kernel
theorem dX8_tellMost_325 : decode cX8_tellMost 325 = .ok (.iaload, 1) := by decide +kernel
theorem dX8_tellMost_326 : decode cX8_tellMost 326 = .ok (.aload_n 0, 1) := by decide +kernel
theorem dX8_tellMost_327 : decode cX8_tellMost 327 = .ok (.getfield 30, 3) := by decide +kernel
theorem dX8_tellMost_330 : decode cX8_tellMost 330 = .ok (.iload 8, 2) := by decide +kernel
theorem dX8_tellMost_332 : decode cX8_tellMost 332 = .ok (.iaload, 1) := by decide +kernel
theorem dX8_tellMost_333 : decode cX8_tellMost 333 = .ok (.iadd, 1) := by decide +kernel
theorem dX8_tellMost_334 : decode cX8_tellMost 334 = .ok (.goto 5, 3) := by decide +kernel
theorem dX8_tellMost_337 : decode cX8_tellMost 337 = .ok (.iload 6, 2) := by decide +kernel
theorem dX8_tellMost_339 : decode cX8_tellMost 339 = .ok (.istore 6, 2) := by decide +kernel
theorem dX8_tellMost_341 : decode cX8_tellMost 341 = .ok (.iinc 7 1, 3) := by decide +kernel
theorem dX8_tellMost_344 : decode cX8_tellMost 344 = .ok (.goto (-133), 3) := by decide +kernel
theorem dX8_tellMost_347 : decode cX8_tellMost 347 = .ok (.aload_n 0, 1) := by decide +kernel
theorem dX8_tellMost_348 : decode cX8_tellMost 348 = .ok (.getfield 27, 3) := by decide +kernel
theorem dX8_tellMost_351 : decode cX8_tellMost 351 = .ok (.sipush 128, 3) := by decide +kernel
theorem dX8_tellMost_354 : decode cX8_tellMost 354 = .ok (.iload_n 3, 1) := by decide +kernel
theorem dX8_tellMost_355 : decode cX8_tellMost 355 = .ok (.imul, 1) := by decide +kernel
theorem dX8_tellMost_356 : decode cX8_tellMost 356 = .ok (.iload 4, 2) := by decide +kernel
theorem dX8_tellMost_358 : decode cX8_tellMost 358 = .ok (.iadd, 1) := by decide +kernel
theorem dX8_tellMost_359 : decode cX8_tellMost 359 = .ok (.iload 5, 2) := by decide +kernel
theorem dX8_tellMost_361 : decode cX8_tellMost 361 = .ok (.iastore, 1) := by decide +kernel
theorem dX8_tellMost_362 : decode cX8_tellMost 362 = .ok (.aload_n 0, 1) := by decide +kernel
theorem dX8_tellMost_363 : decode cX8_tellMost 363 = .ok (.getfield 30, 3) := by decide +kernel
theorem dX8_tellMost_366 : decode cX8_tellMost 366 = .ok (.sipush 128, 3) := by decide +kernel
theorem dX8_tellMost_369 : decode cX8_tellMost 369 = .ok (.iload_n 3, 1) := by decide +kernel
theorem dX8_tellMost_370 : decode cX8_tellMost 370 = .ok (.imul, 1) := by decide +kernel
theorem dX8_tellMost_371 : decode cX8_tellMost 371 = .ok (.iload 4, 2) := by decide +kernel
theorem dX8_tellMost_373 : decode cX8_tellMost 373 = .ok (.iadd, 1) := by decide +kernel
theorem dX8_tellMost_374 : decode cX8_tellMost 374 = .ok (.iload 6, 2) := by decide +kernel
theorem dX8_tellMost_376 : decode cX8_tellMost 376 = .ok (.ldc 202, 2) := by decide +kernel
theorem dX8_tellMost_378 : decode cX8_tellMost 378 = .ok (.if_icmp .le 8, 3) := by decide +kernel
theorem dX8_tellMost_381 : decode cX8_tellMost 381 = .ok (.ldc 202, 2) := by decide +kernel
theorem dX8_tellMost_383 : decode cX8_tellMost 383 = .ok (.goto 5, 3) := by decide +kernel
theorem dX8_tellMost_386 : decode cX8_tellMost 386 = .ok (.iload 6, 2) := by decide +kernel
theorem dX8_tellMost_388 : decode cX8_tellMost 388 = .ok (.iastore, 1) := by decide +kernel
theorem dX8_tellMost_389 : decode cX8_tellMost 389 = .ok (.iinc 4 1, 3) := by decide +kernel
theorem dX8_tellMost_392 : decode cX8_tellMost 392 = .ok (.goto (-237), 3) := by decide +kernel
theorem dX8_tellMost_395 : decode cX8_tellMost 395 = .ok (.iinc 3 (-1), 3) := by decide +kernel
theorem dX8_tellMost_398 : decode cX8_tellMost 398 = .ok (.goto (-250), 3) := by decide +kernel
theorem dX8_tellMost_401 : decode cX8_tellMost 401 = .ok (.return_, 1) := by decide +kernel
theorem dX8_match_0 : decode cX8_match 0 = .ok (.iload_n 1, 1) := by decide +kernel
theorem dX8_match_1 : decode cX8_match 1 = .ok (.iconst 1, 1) := by decide +kernel
theorem dX8_match_2 : decode cX8_match 2 = .ok (.bipush 60, 2) := by decide +kernel
theorem dX8_match_4 : decode cX8_match 4 = .ok (.invokestatic 44, 3) := by decide +kernel
theorem dX8_match_7 : decode cX8_match 7 = .ok (.ifCond .eq 16, 3) := by decide +kernel
theorem dX8_match_10 : decode cX8_match 10 = .ok (.iload_n 2, 1) := by decide +kernel
theorem dX8_match_11 : decode cX8_match 11 = .ok (.iconst (-1), 1) := by decide +kernel
theorem dX8_match_12 : decode cX8_match 12 = .ok (.if_icmp .eq 19, 3) := by decide +kernel
theorem dX8_match_15 : decode cX8_match 15 = .ok (.aload_n 0, 1) := by decide +kernel
theorem dX8_match_16 : decode cX8_match 16 = .ok (.iload_n 2, 1) := by decide +kernel
theorem dX8_match_17 : decode cX8_match 17 = .ok (.invokevirtual 161, 3) := by decide +kernel
theorem dX8_match_20 : decode cX8_match 20 = .ok (.ifCond .ne 11, 3) := by decide +kernel
theorem dX8_match_23 : decode cX8_match 23 = .ok (.aload_n 0, 1) := by decide +kernel
theorem dX8_match_24 : decode cX8_match 24 = .ok (.invokevirtual 69, 3) := by decide +kernel
theorem dX8_match_27 : decode cX8_match 27 = .ok (.pop, 1) := by decide +kernel
theorem dX8_match_28 : decode cX8_match 28 = .ok (.bipush (-10), 2) := by decide +kernel
theorem dX8_match_30 : decode cX8_match 30 = .ok (.ireturn, 1) := by decide +kernel
theorem dX8_match_31 : decode cX8_match 31 = .ok (.aload_n 0, 1) := by decide +kernel
theorem dX8_match_32 : decode cX8_match 32 = .ok (.iload_n 1, 1) := by decide +kernel
theorem dX8_match_33 : decode cX8_match 33 = .ok (.invokevirtual 203, 3) := by decide +kernel
theorem dX8_match_36 : decode cX8_match 36 = .ok (.iload_n 2, 1) := by decide +kernel
theorem dX8_match_37 : decode cX8_match 37 = .ok (.iconst (-1), 1) := by decide +kernel
theorem dX8_match_38 : decode cX8_match 38 = .ok (.if_icmp .ne 10, 3) := by decide +kernel
theorem dX8_match_41 : decode cX8_match 41 = .ok (.aload_n 0, 1) := by decide +kernel
theorem dX8_match_42 : decode cX8_match 42 = .ok (.getfield 27, 3) := by decide +kernel
theorem dX8_match_45 : decode cX8_match 45 = .ok (.iconst 0, 1) := by decide +kernel
theorem dX8_match_46 : decode cX8_match 46 = .ok (.iaload, 1) := by decide +kernel
theorem dX8_match_47 : decode cX8_match 47 = .ok (.ireturn, 1) := by decide +kernel
theorem dX8_match_48 : decode cX8_match 48 = .ok (.iconst 0, 1) := by decide +kernel
theorem dX8_match_49 : decode cX8_match 49 = .ok (.istore_n 3, 1) := by decide +kernel
theorem dX8_match_50 : decode cX8_match 50 = .ok (.iconst (-1), 1) := by decide +kernel
theorem dX8_match_51 : decode cX8_match 51 = .ok (.istore 4, 2) := by decide +kernel
theorem dX8_match_53 : decode cX8_match 53 = .ok (.iconst 0, 1) := by decide +kernel
theorem dX8_match_54 : decode cX8_match 54 = .ok (.istore 5, 2) := by decide +kernel
theorem dX8_match_56 : decode cX8_match 56 = .ok (.iload 5, 2) := by decide +kernel
theorem dX8_match_58 : decode cX8_match 58 = .ok (.iload_n 2, 1) := by decide +kernel
theorem dX8_match_59 : decode cX8_match 59 = .ok (.if_icmp .gt 165, 3) := by decide +kernel
theorem dX8_match_62 : decode cX8_match 62 = .ok (.iconst (-1), 1) := by decide +kernel
theorem dX8_match_63 : decode cX8_match 63 = .ok (.istore 4, 2) := by decide +kernel
theorem dX8_match_65 : decode cX8_match 65 = .ok (.aload_n 0, 1) := by decide +kernel
theorem dX8_match_66 : decode cX8_match 66 = .ok (.getfield 27, 3) := by decide +kernel
theorem dX8_match_69 : decode cX8_match 69 = .ok (.sipush 128, 3) := by decide +kernel
theorem dX8_match_72 : decode cX8_match 72 = .ok (.iload 5, 2) := by decide +kernel
theorem dX8_match_74 : decode cX8_match 74 = .ok (.imul, 1) := by decide +kernel
theorem dX8_match_75 : decode cX8_match 75 = .ok (.iload_n 3, 1) := by decide +kernel
theorem dX8_match_76 : decode cX8_match 76 = .ok (.iadd, 1) := by decide +kernel
theorem dX8_match_77 : decode cX8_match 77 = .ok (.iaload, 1) := by decide +kernel
theorem dX8_match_78 : decode cX8_match 78 = .ok (.istore 6, 2) := by decide +kernel
theorem dX8_match_80 : decode cX8_match 80 = .ok (.aload_n 0, 1) := by decide +kernel
theorem dX8_match_81 : decode cX8_match 81 = .ok (.getfield 13, 3) := by decide +kernel
theorem dX8_match_84 : decode cX8_match 84 = .ok (.iconst 0, 1) := by decide +kernel
theorem dX8_match_85 : decode cX8_match 85 = .ok (.iaload, 1) := by decide +kernel
theorem dX8_match_86 : decode cX8_match 86 = .ok (.iconst 1, 1) := by decide +kernel
theorem dX8_match_87 : decode cX8_match 87 = .ok (.isub, 1) := by decide +kernel
theorem dX8_match_88 : decode cX8_match 88 = .ok (.istore 7, 2) := by decide +kernel
theorem dX8_match_90 : decode cX8_match 90 = .ok (.iload 7, 2) := by decide +kernel
theorem dX8_match_92 : decode cX8_match 92 = .ok (.ifCond .lt 81, 3) := by decide +kernel
theorem dX8_match_95 : decode cX8_match 95 = .ok (.aload_n 0, 1) := by decide +kernel
theorem dX8_match_96 : decode cX8_match 96 = .ok (.getfield 33, 3) := by decide +kernel
theorem dX8_match_99 : decode cX8_match 99 = .ok (.iload 5, 2) := by decide +kernel
theorem dX8_match_101 : decode cX8_match 101 = .ok (.iaload, 1) := by decide +kernel
theorem dX8_match_102 : decode cX8_match 102 = .ok (.iload 7, 2) := by decide +kernel
theorem dX8_match_104 : decode cX8_match 104 = .ok (.invokestatic 61, 3) := by decide +kernel
theorem dX8_match_107 : decode cX8_match 107 = .ok (.ifCond .eq 16, 3) := by decide +kernel
theorem dX8_match_110 : decode cX8_match 110 = .ok (.iload_n 3, 1) := by decide +kernel
theorem dX8_match_111 : decode cX8_match 111 = .ok (.iload 7, 2) := by decide +kernel
theorem dX8_match_113 : decode cX8_match 113 = .ok (.invokestatic 61, 3) := by decide +kernel
theorem dX8_match_116 : decode cX8_match 116 = .ok (.ifCond .ne 7, 3) := by decide +kernel
theorem dX8_match_119 : decode cX8_match 119 = .ok (.iconst 1, 1) := by decide +kernel
theorem dX8_match_120 : decode cX8_match 120 = .ok (.goto 4, 3) := by decide +kernel
theorem dX8_match_123 : decode cX8_match 123 = .ok (.iconst 0, 1) := by decide +kernel
theorem dX8_match_124 : decode cX8_match 124 = .ok (.istore 8, 2) := by decide +kernel
theorem dX8_match_126 : decode cX8_match 126 = .ok (.iload 8, 2) := by decide +kernel
theorem dX8_match_128 : decode cX8_match 128 = .ok (.ifCond .eq 35, 3) := by decide +kernel
theorem dX8_match_131 : decode cX8_match 131 = .ok (.iconst 1, 1) := by decide +kernel
theorem dX8_match_132 : decode cX8_match 132 = .ok (.aload_n 0, 1) := by decide +kernel
theorem dX8_match_133 : decode cX8_match 133 = .ok (.getfield 27, 3) := by decide +kernel
theorem dX8_match_136 : decode cX8_match 136 = .ok (.sipush 128, 3) := by decide +kernel
theorem dX8_match_139 : decode cX8_match 139 = .ok (.iload 5, 2) := by decide +kernel
theorem dX8_match_141 : decode cX8_match 141 = .ok (.iconst 1, 1) := by decide +kernel
theorem dX8_match_142 : decode cX8_match 142 = .ok (.iadd, 1) := by decide +kernel
theorem dX8_match_143 : decode cX8_match 143 = .ok (.imul, 1) := by decide +kernel
theorem dX8_match_144 : decode cX8_match 144 = .ok (.iload_n 3, 1) := by decide +kernel
theorem dX8_match_145 : decode cX8_match 145 = .ok (.iconst 1, 1) := by decide +kernel
theorem dX8_match_146 : decode cX8_match 146 = .ok (.iload 7, 2) := by decide +kernel
theorem dX8_match_148 : decode cX8_match 148 = .ok (.ishl, 1) := by decide +kernel
theorem dX8_match_149 : decode cX8_match 149 = .ok (.ior, 1) := by decide +kernel
theorem dX8_match_150 : decode cX8_match 150 = .ok (.iadd, 1) := by decide +kernel
theorem dX8_match_151 : decode cX8_match 151 = .ok (.iaload, 1) := by decide +kernel
theorem dX8_match_152 : decode cX8_match 152 = .ok (.iadd, 1) := by decide +kernel
theorem dX8_match_153 : decode cX8_match 153 = .ok (.iload 6, 2) := by decide +kernel
theorem dX8_match_155 : decode cX8_match 155 = .ok (.if_icmp .ne 8, 3) := by decide +kernel
theorem dX8_match_158 : decode cX8_match 158 = .ok (.iload 7, 2) := by decide +kernel
theorem dX8_match_160 : decode cX8_match 160 = .ok (.goto 5, 3) := by decide +kernel
theorem dX8_match_163 : decode cX8_match 163 = .ok (.iload 4, 2) := by decide +kernel
theorem dX8_match_165 : decode cX8_match 165 = .ok (.istore 4, 2) := by decide +kernel
theorem dX8_match_167 : decode cX8_match 167 = .ok (.iinc 7 (-1), 3) := by decide +kernel
theorem dX8_match_170 : decode cX8_match 170 = .ok (.goto (-80), 3) := by decide +kernel
theorem dX8_match_173 : decode cX8_match 173 = .ok (.aload_n 0, 1) := by decide +kernel
theorem dX8_match_174 : decode cX8_match 174 = .ok (.getfield 27, 3) := by decide +kernel
theorem dX8_match_177 : decode cX8_match 177 = .ok (.sipush 128, 3) := by decide +kernel
theorem dX8_match_180 : decode cX8_match 180 = .ok (.iload 5, 2) := by decide +kernel
theorem dX8_match_182 : decode cX8_match 182 = .ok (.iconst 1, 1) := by decide +kernel
theorem dX8_match_183 : decode cX8_match 183 = .ok (.iadd, 1) := by decide +kernel
theorem dX8_match_184 : decode cX8_match 184 = .ok (.imul, 1) := by decide +kernel
theorem dX8_match_185 : decode cX8_match 185 = .ok (.iload_n 3, 1) := by decide +kernel
theorem dX8_match_186 : decode cX8_match 186 = .ok (.iadd, 1) := by decide +kernel
theorem dX8_match_187 : decode cX8_match 187 = .ok (.iaload, 1) := by decide +kernel
theorem dX8_match_188 : decode cX8_match 188 = .ok (.iload 6, 2) := by decide +kernel
theorem dX8_match_190 : decode cX8_match 190 = .ok (.if_icmp .ne 7, 3) := by decide +kernel
theorem dX8_match_193 : decode cX8_match 193 = .ok (.iconst (-1), 1) := by decide +kernel
theorem dX8_match_194 : decode cX8_match 194 = .ok (.goto 5, 3) := by decide +kernel
theorem dX8_match_197 : decode cX8_match 197 = .ok (.iload 4, 2) := by decide +kernel
theorem dX8_match_199 : decode cX8_match 199 = .ok (.istore 4, 2) := by decide +kernel
theorem dX8_match_201 : decode cX8_match 201 = .ok (.iload_n 3, 1) := by decide +kernel
theorem dX8_match_202 : decode cX8_match 202 = .ok (.iload 4, 2) := by decide +kernel
theorem dX8_match_204 : decode cX8_match 204 = .ok (.iconst (-1), 1) := by decide +kernel
theorem dX8_match_205 : decode cX8_match 205 = .ok (.if_icmp .ne 7, 3) := by decide +kernel
theorem dX8_match_208 : decode cX8_match 208 = .ok (.iconst 0, 1) := by decide +kernel
theorem dX8_match_209 : decode cX8_match 209 = .ok (.goto 7, 3) := by decide +kernel
theorem dX8_match_212 : decode cX8_match 212 = .ok (.iconst 1, 1) := by decide +kernel
theorem dX8_match_213 : decode cX8_match 213 = .ok (.iload 4, 2) := by decide +kernel
theorem dX8_match_215 : decode cX8_match 215 = .ok (.ishl, 1) := by decide +kernel
theorem dX8_match_216 : decode cX8_match 216 = .ok (.ior, 1) := by decide +kernel
theorem dX8_match_217 : decode cX8_match 217 = .ok (.istore_n 3, 1) := by decide +kernel
theorem dX8_match_218 : decode cX8_match 218 = .ok (.iinc 5 1, 3) := by decide +kernel
theorem dX8_match_221 : decode cX8_match 221 = .ok (.goto (-165), 3) := by decide +kernel
theorem dX8_match_224 : decode cX8_match 224 = .ok (.iload 4, 2) := by decide +kernel
theorem dX8_match_226 : decode cX8_match 226 = .ok (.ireturn, 1) := by decide +kernel
theorem dX8_light_0 : decode cX8_light 0 = .ok (.iload_n 1, 1) := by decide +kernel
theorem dX8_light_1 : decode cX8_light 1 = .ok (.iconst 1, 1) := by decide +kernel
theorem dX8_light_2 : decode cX8_light 2 = .ok (.bipush 60, 2) := by decide +kernel
theorem dX8_light_4 : decode cX8_light 4 = .ok (.invokestatic 44, 3) := by decide +kernel
theorem dX8_light_7 : decode cX8_light 7 = .ok (.ifCond .ne 8, 3) := by decide +kernel
theorem dX8_light_10 : decode cX8_light 10 = .ok (.aload_n 0, 1) := by decide +kernel
theorem dX8_light_11 : decode cX8_light 11 = .ok (.invokevirtual 69, 3) := by decide +kernel
theorem dX8_light_14 : decode cX8_light 14 = .ok (.ireturn, 1) := by decide +kernel
theorem dX8_light_15 : decode cX8_light 15 = .ok (.aload_n 0, 1) := by decide +kernel
theorem dX8_light_16 : decode cX8_light 16 = .ok (.iload_n 1, 1) := by decide +kernel
theorem dX8_light_17 : decode cX8_light 17 = .ok (.invokevirtual 203, 3) := by decide +kernel
theorem dX8_light_20 : decode cX8_light 20 = .ok (.aload_n 0, 1) := by decide +kernel
theorem dX8_light_21 : decode cX8_light 21 = .ok (.getfield 30, 3) := by decide +kernel
theorem dX8_light_24 : decode cX8_light 24 = .ok (.iconst 0, 1) := by decide +kernel
theorem dX8_light_25 : decode cX8_light 25 = .ok (.iaload, 1) := by decide +kernel
theorem dX8_light_26 : decode cX8_light 26 = .ok (.ldc 202, 2) := by decide +kernel
theorem dX8_light_28 : decode cX8_light 28 = .ok (.if_icmp .lt 7, 3) := by decide +kernel
theorem dX8_light_31 : decode cX8_light 31 = .ok (.iconst (-1), 1) := by decide +kernel
theorem dX8_light_32 : decode cX8_light 32 = .ok (.goto 9, 3) := by decide +kernel
theorem dX8_light_35 : decode cX8_light 35 = .ok (.aload_n 0, 1) := by decide +kernel
theorem dX8_light_36 : decode cX8_light 36 = .ok (.getfield 30, 3) := by decide +kernel
theorem dX8_light_39 : decode cX8_light 39 = .ok (.iconst 0, 1) := by decide +kernel
theorem dX8_light_40 : decode cX8_light 40 = .ok (.iaload, 1) := by decide +kernel
theorem dX8_light_41 : decode cX8_light 41 = .ok (.ireturn, 1) := by decide +kernel
theorem dX8_doTwo_0 : decode cX8_doTwo 0 = .ok (.aload_n 0, 1) := by decide +kernel
theorem dX8_doTwo_1 : decode cX8_doTwo 1 = .ok (.iload_n 1, 1) := by decide +kernel
theorem dX8_doTwo_2 : decode cX8_doTwo 2 = .ok (.iconst 0, 1) := by decide +kernel
theorem dX8_doTwo_3 : decode cX8_doTwo 3 = .ok (.invokevirtual 193, 3) := by decide +kernel
theorem dX8_doTwo_6 : decode cX8_doTwo 6 = .ok (.istore 4, 2) := by decide +kernel
theorem dX8_doTwo_8 : decode cX8_doTwo 8 = .ok (.aload_n 0, 1) := by decide +kernel
theorem dX8_doTwo_9 : decode cX8_doTwo 9 = .ok (.iload_n 2, 1) := by decide +kernel
theorem dX8_doTwo_10 : decode cX8_doTwo 10 = .ok (.iconst 0, 1) := by decide +kernel
theorem dX8_doTwo_11 : decode cX8_doTwo 11 = .ok (.invokevirtual 190, 3) := by decide +kernel
theorem dX8_doTwo_14 : decode cX8_doTwo 14 = .ok (.istore 5, 2) := by decide +kernel
theorem dX8_doTwo_16 : decode cX8_doTwo 16 = .ok (.aload_n 0, 1) := by decide +kernel
theorem dX8_doTwo_17 : decode cX8_doTwo 17 = .ok (.iload_n 3, 1) := by decide +kernel
theorem dX8_doTwo_18 : decode cX8_doTwo 18 = .ok (.iconst 0, 1) := by decide +kernel
theorem dX8_doTwo_19 : decode cX8_doTwo 19 = .ok (.invokevirtual 190, 3) := by decide +kernel
theorem dX8_doTwo_22 : decode cX8_doTwo 22 = .ok (.istore 6, 2) := by decide +kernel
theorem dX8_doTwo_24 : decode cX8_doTwo 24 = .ok (.aload_n 0, 1) := by decide +kernel
theorem dX8_doTwo_25 : decode cX8_doTwo 25 = .ok (.iload_n 2, 1) := by decide +kernel
theorem dX8_doTwo_26 : decode cX8_doTwo 26 = .ok (.invokevirtual 167, 3) := by decide +kernel
theorem dX8_doTwo_29 : decode cX8_doTwo 29 = .ok (.ifCond .ne 39, 3) := by decide +kernel
theorem dX8_doTwo_32 : decode cX8_doTwo 32 = .ok (.aload_n 0, 1) := by decide +kernel
theorem dX8_doTwo_33 : decode cX8_doTwo 33 = .ok (.iload_n 3, 1) := by decide +kernel
theorem dX8_doTwo_34 : decode cX8_doTwo 34 = .ok (.invokevirtual 167, 3) := by decide +kernel
theorem dX8_doTwo_37 : decode cX8_doTwo 37 = .ok (.ifCond .ne 31, 3) := by decide +kernel
theorem dX8_doTwo_40 : decode cX8_doTwo 40 = .ok (.iload 5, 2) := by decide +kernel
theorem dX8_doTwo_42 : decode cX8_doTwo 42 = .ok (.iload 4, 2) := by decide +kernel
theorem dX8_doTwo_44 : decode cX8_doTwo 44 = .ok (.if_icmp .ge 24, 3) := by decide +kernel
theorem dX8_doTwo_47 : decode cX8_doTwo 47 = .ok (.iload 6, 2) := by decide +kernel
theorem dX8_doTwo_49 : decode cX8_doTwo 49 = .ok (.iload 4, 2) := by decide +kernel
theorem dX8_doTwo_51 : decode cX8_doTwo 51 = .ok (.if_icmp .ge 17, 3) := by decide +kernel
theorem dX8_doTwo_54 : decode cX8_doTwo 54 = .ok (.iload 5, 2) := by decide +kernel
theorem dX8_doTwo_56 : decode cX8_doTwo 56 = .ok (.iload 6, 2) := by decide +kernel
theorem dX8_doTwo_58 : decode cX8_doTwo 58 = .ok (.iadd, 1) := by decide +kernel
theorem dX8_doTwo_59 : decode cX8_doTwo 59 = .ok (.iload 4, 2) := by decide +kernel
theorem dX8_doTwo_61 : decode cX8_doTwo 61 = .ok (.if_icmp .lt 7, 3) := by decide +kernel
theorem dX8_doTwo_64 : decode cX8_doTwo 64 = .ok (.iconst 1, 1) := by decide +kernel
theorem dX8_doTwo_65 : decode cX8_doTwo 65 = .ok (.goto 4, 3) := by decide +kernel
theorem dX8_doTwo_68 : decode cX8_doTwo 68 = .ok (.iconst 0, 1) := by decide +kernel
theorem dX8_doTwo_69 : decode cX8_doTwo 69 = .ok (.ireturn, 1) := by decide +kernel
theorem dX8_two_0 : decode cX8_two 0 = .ok (.aload_n 0, 1) := by decide +kernel
theorem dX8_two_1 : decode cX8_two 1 = .ok (.iload_n 1, 1) := by decide +kernel
theorem dX8_two_2 : decode cX8_two 2 = .ok (.invokevirtual 164, 3) := by decide +kernel
theorem dX8_two_5 : decode cX8_two 5 = .ok (.ifCond .eq 8, 3) := by decide +kernel
theorem dX8_two_8 : decode cX8_two 8 = .ok (.iload_n 2, 1) := by decide +kernel
theorem dX8_two_9 : decode cX8_two 9 = .ok (.iconst (-1), 1) := by decide +kernel
theorem dX8_two_10 : decode cX8_two 10 = .ok (.if_icmp .ge 11, 3) := by decide +kernel
theorem dX8_two_13 : decode cX8_two 13 = .ok (.aload_n 0, 1) := by decide +kernel
theorem dX8_two_14 : decode cX8_two 14 = .ok (.invokevirtual 69, 3) := by decide +kernel
theorem dX8_two_17 : decode cX8_two 17 = .ok (.pop, 1) := by decide +kernel
theorem dX8_two_18 : decode cX8_two 18 = .ok (.bipush (-10), 2) := by decide +kernel
theorem dX8_two_20 : decode cX8_two 20 = .ok (.ireturn, 1) := by decide +kernel
theorem dX8_two_21 : decode cX8_two 21 = .ok (.iconst 0, 1) := by decide +kernel
theorem dX8_two_22 : decode cX8_two 22 = .ok (.istore_n 3, 1) := by decide +kernel
theorem dX8_two_23 : decode cX8_two 23 = .ok (.iconst 0, 1) := by decide +kernel
theorem dX8_two_24 : decode cX8_two 24 = .ok (.istore 4, 2) := by decide +kernel
theorem dX8_two_26 : decode cX8_two 26 = .ok (.iload 4, 2) := by decide +kernel
theorem dX8_two_28 : decode cX8_two 28 = .ok (.aload_n 0, 1) := by decide +kernel
theorem dX8_two_29 : decode cX8_two 29 = .ok (.getfield 13, 3) := by decide +kernel
theorem dX8_two_32 : decode cX8_two 32 = .ok (.iconst 1, 1) := by decide +kernel
theorem dX8_two_33 : decode cX8_two 33 = .ok (.iaload, 1) := by decide +kernel
theorem dX8_two_34 : decode cX8_two 34 = .ok (.if_icmp .ge 61, 3) := by decide +kernel
theorem dX8_two_37 : decode cX8_two 37 = .ok (.iload 4, 2) := by decide +kernel
theorem dX8_two_39 : decode cX8_two 39 = .ok (.iconst 1, 1) := by decide +kernel
theorem dX8_two_40 : decode cX8_two 40 = .ok (.iadd, 1) := by decide +kernel
theorem dX8_two_41 : decode cX8_two 41 = .ok (.istore 5, 2) := by decide +kernel
theorem dX8_two_43 : decode cX8_two 43 = .ok (.iload 5, 2) := by decide +kernel
theorem dX8_two_45 : decode cX8_two 45 = .ok (.aload_n 0, 1) := by decide +kernel
theorem dX8_two_46 : decode cX8_two 46 = .ok (.getfield 13, 3) := by decide +kernel
theorem dX8_two_49 : decode cX8_two 49 = .ok (.iconst 1, 1) := by decide +kernel
theorem dX8_two_50 : decode cX8_two 50 = .ok (.iaload, 1) := by decide +kernel
theorem dX8_two_51 : decode cX8_two 51 = .ok (.if_icmp .ge 38, 3) := by decide +kernel
theorem dX8_two_54 : decode cX8_two 54 = .ok (.aload_n 0, 1) := by decide +kernel
theorem dX8_two_55 : decode cX8_two 55 = .ok (.iload_n 1, 1) := by decide +kernel
theorem dX8_two_56 : decode cX8_two 56 = .ok (.iload 4, 2) := by decide +kernel
theorem dX8_two_58 : decode cX8_two 58 = .ok (.iload 5, 2) := by decide +kernel
theorem dX8_two_60 : decode cX8_two 60 = .ok (.invokevirtual 206, 3) := by decide +kernel
theorem dX8_two_63 : decode cX8_two 63 = .ok (.ifCond .eq 20, 3) := by decide +kernel
theorem dX8_two_66 : decode cX8_two 66 = .ok (.iload_n 3, 1) := by decide +kernel
theorem dX8_two_67 : decode cX8_two 67 = .ok (.iload_n 2, 1) := by decide +kernel
theorem dX8_two_68 : decode cX8_two 68 = .ok (.if_icmp .ne 12, 3) := by decide +kernel
theorem dX8_two_71 : decode cX8_two 71 = .ok (.bipush 10, 2) := by decide +kernel
theorem dX8_two_73 : decode cX8_two 73 = .ok (.iload 4, 2) := by decide +kernel
theorem dX8_two_75 : decode cX8_two 75 = .ok (.imul, 1) := by decide +kernel
theorem dX8_two_76 : decode cX8_two 76 = .ok (.iload 5, 2) := by decide +kernel
theorem dX8_two_78 : decode cX8_two 78 = .ok (.iadd, 1) := by decide +kernel
theorem dX8_two_79 : decode cX8_two 79 = .ok (.ireturn, 1) := by decide +kernel
theorem dX8_two_80 : decode cX8_two 80 = .ok (.iinc 3 1, 3) := by decide +kernel
theorem dX8_two_83 : decode cX8_two 83 = .ok (.iinc 5 1, 3) := by decide +kernel
theorem dX8_two_86 : decode cX8_two 86 = .ok (.goto (-43), 3) := by decide +kernel
theorem dX8_two_89 : decode cX8_two 89 = .ok (.iinc 4 1, 3) := by decide +kernel
theorem dX8_two_92 : decode cX8_two 92 = .ok (.goto (-66), 3) := by decide +kernel
theorem dX8_two_95 : decode cX8_two 95 = .ok (.iload_n 2, 1) := by decide +kernel
theorem dX8_two_96 : decode cX8_two 96 = .ok (.iconst (-1), 1) := by decide +kernel
theorem dX8_two_97 : decode cX8_two 97 = .ok (.if_icmp .ne 7, 3) := by decide +kernel
theorem dX8_two_100 : decode cX8_two 100 = .ok (.iload_n 3, 1) := by decide +kernel
theorem dX8_two_101 : decode cX8_two 101 = .ok (.goto 5, 3) := by decide +kernel
theorem dX8_two_104 : decode cX8_two 104 = .ok (.bipush (-5), 2) := by decide +kernel
theorem dX8_two_106 : decode cX8_two 106 = .ok (.ireturn, 1) := by decide +kernel
theorem dX8_tell4_0 : decode cX8_tell4 0 = .ok (.iload_n 1, 1) := by decide +kernel
theorem dX8_tell4_1 : decode cX8_tell4 1 = .ok (.iconst 4, 1) := by decide +kernel
theorem dX8_tell4_2 : decode cX8_tell4 2 = .ok (.aload_n 0, 1) := by decide +kernel
theorem dX8_tell4_3 : decode cX8_tell4 3 = .ok (.getfield 13, 3) := by decide +kernel
theorem dX8_tell4_6 : decode cX8_tell4 6 = .ok (.iload_n 2, 1) := by decide +kernel
theorem dX8_tell4_7 : decode cX8_tell4 7 = .ok (.iaload, 1) := by decide +kernel
theorem dX8_tell4_8 : decode cX8_tell4 8 = .ok (.imul, 1) := by decide +kernel
theorem dX8_tell4_9 : decode cX8_tell4 9 = .ok (.iadd, 1) := by decide +kernel
theorem dX8_tell4_10 : decode cX8_tell4 10 = .ok (.istore 7, 2) := by decide +kernel
theorem dX8_tell4_12 : decode cX8_tell4 12 = .ok (.aload_n 0, 1) := by decide +kernel
theorem dX8_tell4_13 : decode cX8_tell4 13 = .ok (.getfield 13, 3) := by decide +kernel
theorem dX8_tell4_16 : decode cX8_tell4 16 = .ok (.iload 7, 2) := by decide +kernel
theorem dX8_tell4_18 : decode cX8_tell4 18 = .ok (.iload_n 3, 1) := by decide +kernel
theorem dX8_tell4_19 : decode cX8_tell4 19 = .ok (.iastore, 1) := by decide +kernel
theorem dX8_tell4_20 : decode cX8_tell4 20 = .ok (.aload_n 0, 1) := by decide +kernel
theorem dX8_tell4_21 : decode cX8_tell4 21 = .ok (.getfield 13, 3) := by decide +kernel
theorem dX8_tell4_24 : decode cX8_tell4 24 = .ok (.iload 7, 2) := by decide +kernel
theorem dX8_tell4_26 : decode cX8_tell4 26 = .ok (.iconst 1, 1) := by decide +kernel
theorem dX8_tell4_27 : decode cX8_tell4 27 = .ok (.iadd, 1) := by decide +kernel
theorem dX8_tell4_28 : decode cX8_tell4 28 = .ok (.iload 4, 2) := by decide +kernel
theorem dX8_tell4_30 : decode cX8_tell4 30 = .ok (.iastore, 1) := by decide +kernel
theorem dX8_tell4_31 : decode cX8_tell4 31 = .ok (.aload_n 0, 1) := by decide +kernel
theorem dX8_tell4_32 : decode cX8_tell4 32 = .ok (.getfield 13, 3) := by decide +kernel
theorem dX8_tell4_35 : decode cX8_tell4 35 = .ok (.iload 7, 2) := by decide +kernel
theorem dX8_tell4_37 : decode cX8_tell4 37 = .ok (.iconst 2, 1) := by decide +kernel
theorem dX8_tell4_38 : decode cX8_tell4 38 = .ok (.iadd, 1) := by decide +kernel
theorem dX8_tell4_39 : decode cX8_tell4 39 = .ok (.iload 5, 2) := by decide +kernel
theorem dX8_tell4_41 : decode cX8_tell4 41 = .ok (.iastore, 1) := by decide +kernel
theorem dX8_tell4_42 : decode cX8_tell4 42 = .ok (.aload_n 0, 1) := by decide +kernel
theorem dX8_tell4_43 : decode cX8_tell4 43 = .ok (.getfield 13, 3) := by decide +kernel
theorem dX8_tell4_46 : decode cX8_tell4 46 = .ok (.iload 7, 2) := by decide +kernel
theorem dX8_tell4_48 : decode cX8_tell4 48 = .ok (.iconst 3, 1) := by decide +kernel
theorem dX8_tell4_49 : decode cX8_tell4 49 = .ok (.iadd, 1) := by decide +kernel
theorem dX8_tell4_50 : decode cX8_tell4 50 = .ok (.iload 6, 2) := by decide +kernel
theorem dX8_tell4_52 : decode cX8_tell4 52 = .ok (.iastore, 1) := by decide +kernel
theorem dX8_tell4_53 : decode cX8_tell4 53 = .ok (.aload_n 0, 1) := by decide +kernel
theorem dX8_tell4_54 : decode cX8_tell4 54 = .ok (.getfield 13, 3) := by decide +kernel
theorem dX8_tell4_57 : decode cX8_tell4 57 = .ok (.iload_n 2, 1) := by decide +kernel
theorem dX8_tell4_58 : decode cX8_tell4 58 = .ok (.dup2, 1) := by decide +kernel
theorem dX8_tell4_59 : decode cX8_tell4 59 = .ok (.iaload, 1) := by decide +kernel
theorem dX8_tell4_60 : decode cX8_tell4 60 = .ok (.iconst 1, 1) := by decide +kernel
theorem dX8_tell4_61 : decode cX8_tell4 61 = .ok (.iadd, 1) := by decide +kernel
theorem dX8_tell4_62 : decode cX8_tell4 62 = .ok (.iastore, 1) := by decide +kernel
theorem dX8_tell4_63 : decode cX8_tell4 63 = .ok (.aload_n 0, 1) := by decide +kernel
theorem dX8_tell4_64 : decode cX8_tell4 64 = .ok (.getfield 13, 3) := by decide +kernel
theorem dX8_tell4_67 : decode cX8_tell4 67 = .ok (.iload_n 2, 1) := by decide +kernel
theorem dX8_tell4_68 : decode cX8_tell4 68 = .ok (.iaload, 1) := by decide +kernel
theorem dX8_tell4_69 : decode cX8_tell4 69 = .ok (.ireturn, 1) := by decide +kernel
theorem dX8_seen_0 : decode cX8_seen 0 = .ok (.aload_n 0, 1) := by decide +kernel
theorem dX8_seen_1 : decode cX8_seen 1 = .ok (.iload_n 1, 1) := by decide +kernel
theorem dX8_seen_2 : decode cX8_seen 2 = .ok (.invokevirtual 161, 3) := by decide +kernel
theorem dX8_seen_5 : decode cX8_seen 5 = .ok (.ifCond .eq 33, 3) := by decide +kernel
theorem dX8_seen_8 : decode cX8_seen 8 = .ok (.iload_n 2, 1) := by decide +kernel
theorem dX8_seen_9 : decode cX8_seen 9 = .ok (.iconst 0, 1) := by decide +kernel
theorem dX8_seen_10 : decode cX8_seen 10 = .ok (.bipush 99, 2) := by decide +kernel
theorem dX8_seen_12 : decode cX8_seen 12 = .ok (.invokestatic 44, 3) := by decide +kernel
theorem dX8_seen_15 : decode cX8_seen 15 = .ok (.ifCond .eq 23, 3) := by decide +kernel
theorem dX8_seen_18 : decode cX8_seen 18 = .ok (.iload_n 3, 1) := by decide +kernel
theorem dX8_seen_19 : decode cX8_seen 19 = .ok (.iconst 0, 1) := by decide +kernel
theorem dX8_seen_20 : decode cX8_seen 20 = .ok (.bipush 60, 2) := by decide +kernel
theorem dX8_seen_22 : decode cX8_seen 22 = .ok (.invokestatic 44, 3) := by decide +kernel
theorem dX8_seen_25 : decode cX8_seen 25 = .ok (.ifCond .eq 13, 3) := by decide +kernel
theorem dX8_seen_28 : decode cX8_seen 28 = .ok (.iload 4, 2) := by decide +kernel
theorem dX8_seen_30 : decode cX8_seen 30 = .ok (.iconst 0, 1) := by decide +kernel
theorem dX8_seen_31 : decode cX8_seen 31 = .ok (.iconst 1, 1) := by decide +kernel
theorem dX8_seen_32 : decode cX8_seen 32 = .ok (.invokestatic 44, 3) := by decide +kernel
theorem dX8_seen_35 : decode cX8_seen 35 = .ok (.ifCond .ne 8, 3) := by decide +kernel
theorem dX8_seen_38 : decode cX8_seen 38 = .ok (.aload_n 0, 1) := by decide +kernel
theorem dX8_seen_39 : decode cX8_seen 39 = .ok (.invokevirtual 69, 3) := by decide +kernel
theorem dX8_seen_42 : decode cX8_seen 42 = .ok (.ireturn, 1) := by decide +kernel
theorem dX8_seen_43 : decode cX8_seen 43 = .ok (.aload_n 0, 1) := by decide +kernel
theorem dX8_seen_44 : decode cX8_seen 44 = .ok (.getfield 13, 3) := by decide +kernel
theorem dX8_seen_47 : decode cX8_seen 47 = .ok (.iconst 2, 1) := by decide +kernel
theorem dX8_seen_48 : decode cX8_seen 48 = .ok (.iaload, 1) := by decide +kernel
theorem dX8_seen_49 : decode cX8_seen 49 = .ok (.iconst 5, 1) := by decide +kernel
theorem dX8_seen_50 : decode cX8_seen 50 = .ok (.if_icmp .ne 10, 3) := by decide +kernel
theorem dX8_seen_53 : decode cX8_seen 53 = .ok (.aload_n 0, 1) := by decide +kernel
theorem dX8_seen_54 : decode cX8_seen 54 = .ok (.invokevirtual 73, 3) := by decide +kernel
theorem dX8_seen_57 : decode cX8_seen 57 = .ok (.goto 15, 3) := by decide +kernel
theorem dX8_seen_60 : decode cX8_seen 60 = .ok (.aload_n 0, 1) := by decide +kernel
theorem dX8_seen_61 : decode cX8_seen 61 = .ok (.bipush 50, 2) := by decide +kernel
theorem dX8_seen_63 : decode cX8_seen 63 = .ok (.iconst 2, 1) := by decide +kernel
theorem dX8_seen_64 : decode cX8_seen 64 = .ok (.iload_n 1, 1) := by decide +kernel
theorem dX8_seen_65 : decode cX8_seen 65 = .ok (.iload_n 2, 1) := by decide +kernel
theorem dX8_seen_66 : decode cX8_seen 66 = .ok (.iload_n 3, 1) := by decide +kernel
theorem dX8_seen_67 : decode cX8_seen 67 = .ok (.iload 4, 2) := by decide +kernel
theorem dX8_seen_69 : decode cX8_seen 69 = .ok (.invokevirtual 209, 3) := by decide +kernel
theorem dX8_seen_72 : decode cX8_seen 72 = .ok (.ireturn, 1) := by decide +kernel
theorem dX8_strengthsOf_0 : decode cX8_strengthsOf 0 = .ok (.iconst 0, 1) := by decide +kernel
theorem dX8_strengthsOf_1 : decode cX8_strengthsOf 1 = .ok (.istore_n 2, 1) := by decide +kernel
theorem dX8_strengthsOf_2 : decode cX8_strengthsOf 2 = .ok (.iconst 1, 1) := by decide +kernel
theorem dX8_strengthsOf_3 : decode cX8_strengthsOf 3 = .ok (.istore_n 3, 1) := by decide +kernel
theorem dX8_strengthsOf_4 : decode cX8_strengthsOf 4 = .ok (.iload_n 3, 1) := by decide +kernel
theorem dX8_strengthsOf_5 : decode cX8_strengthsOf 5 = .ok (.bipush 9, 2) := by decide +kernel
theorem dX8_strengthsOf_7 : decode cX8_strengthsOf 7 = .ok (.if_icmp .gt 143, 3) := by decide +kernel
theorem dX8_strengthsOf_10 : decode cX8_strengthsOf 10 = .ok (.iconst 1, 1) := by decide +kernel
theorem dX8_strengthsOf_11 : decode cX8_strengthsOf 11 = .ok (.istore 4, 2) := by decide +kernel
theorem dX8_strengthsOf_13 : decode cX8_strengthsOf 13 = .ok (.iconst 0, 1) := by decide +kernel
theorem dX8_strengthsOf_14 : decode cX8_strengthsOf 14 = .ok (.istore 5, 2) := by decide +kernel
theorem dX8_strengthsOf_16 : decode cX8_strengthsOf 16 = .ok (.iload 5, 2) := by decide +kernel
theorem dX8_strengthsOf_18 : decode cX8_strengthsOf 18 = .ok (.aload_n 0, 1) := by decide +kernel
theorem dX8_strengthsOf_19 : decode cX8_strengthsOf 19 = .ok (.getfield 13, 3) := by decide +kernel
theorem dX8_strengthsOf_22 : decode cX8_strengthsOf 22 = .ok (.iconst 2, 1) := by decide +kernel
theorem dX8_strengthsOf_23 : decode cX8_strengthsOf 23 = .ok (.iaload, 1) := by decide +kernel
theorem dX8_strengthsOf_24 : decode cX8_strengthsOf 24 = .ok (.if_icmp .ge 105, 3) := by decide +kernel
theorem dX8_strengthsOf_27 : decode cX8_strengthsOf 27 = .ok (.bipush 50, 2) := by decide +kernel
theorem dX8_strengthsOf_29 : decode cX8_strengthsOf 29 = .ok (.iconst 4, 1) := by decide +kernel
theorem dX8_strengthsOf_30 : decode cX8_strengthsOf 30 = .ok (.iload 5, 2) := by decide +kernel
theorem dX8_strengthsOf_32 : decode cX8_strengthsOf 32 = .ok (.imul, 1) := by decide +kernel
theorem dX8_strengthsOf_33 : decode cX8_strengthsOf 33 = .ok (.iadd, 1) := by decide +kernel
theorem dX8_strengthsOf_34 : decode cX8_strengthsOf 34 = .ok (.istore 6, 2) := by decide +kernel
theorem dX8_strengthsOf_36 : decode cX8_strengthsOf 36 = .ok (.aload_n 0, 1) := by decide +kernel
theorem dX8_strengthsOf_37 : decode cX8_strengthsOf 37 = .ok (.getfield 13, 3) := by decide +kernel
theorem dX8_strengthsOf_40 : decode cX8_strengthsOf 40 = .ok (.bipush 20, 2) := by decide +kernel
theorem dX8_strengthsOf_42 : decode cX8_strengthsOf 42 = .ok (.iload_n 1, 1) := by decide +kernel
theorem dX8_strengthsOf_43 : decode cX8_strengthsOf 43 = .ok (.iadd, 1) := by decide +kernel
theorem dX8_strengthsOf_44 : decode cX8_strengthsOf 44 = .ok (.iaload, 1) := by decide +kernel
theorem dX8_strengthsOf_45 : decode cX8_strengthsOf 45 = .ok (.iload_n 3, 1) := by decide +kernel
theorem dX8_strengthsOf_46 : decode cX8_strengthsOf 46 = .ok (.aload_n 0, 1) := by decide +kernel
theorem dX8_strengthsOf_47 : decode cX8_strengthsOf 47 = .ok (.getfield 13, 3) := by decide +kernel
theorem dX8_strengthsOf_50 : decode cX8_strengthsOf 50 = .ok (.iload 6, 2) := by decide +kernel
theorem dX8_strengthsOf_52 : decode cX8_strengthsOf 52 = .ok (.iconst 1, 1) := by decide +kernel
theorem dX8_strengthsOf_53 : decode cX8_strengthsOf 53 = .ok (.iadd, 1) := by decide +kernel
theorem dX8_strengthsOf_54 : decode cX8_strengthsOf 54 = .ok (.iaload, 1) := by decide +kernel
theorem dX8_strengthsOf_55 : decode cX8_strengthsOf 55 = .ok (.invokestatic 52, 3) := by decide +kernel
theorem dX8_strengthsOf_58 : decode cX8_strengthsOf 58 = .ok (.aload_n 0, 1) := by decide +kernel
theorem dX8_strengthsOf_59 : decode cX8_strengthsOf 59 = .ok (.getfield 13, 3) := by decide +kernel
theorem dX8_strengthsOf_62 : decode cX8_strengthsOf 62 = .ok (.iload 6, 2) := by decide +kernel
theorem dX8_strengthsOf_64 : decode cX8_strengthsOf 64 = .ok (.iconst 2, 1) := by decide +kernel
theorem dX8_strengthsOf_65 : decode cX8_strengthsOf 65 = .ok (.iadd, 1) := by decide +kernel
theorem dX8_strengthsOf_66 : decode cX8_strengthsOf 66 = .ok (.iaload, 1) := by decide +kernel
theorem dX8_strengthsOf_67 : decode cX8_strengthsOf 67 = .ok (.if_icmp .lt 7, 3) := by decide +kernel
theorem dX8_strengthsOf_70 : decode cX8_strengthsOf 70 = .ok (.iconst 1, 1) := by decide +kernel
theorem dX8_strengthsOf_71 : decode cX8_strengthsOf 71 = .ok (.goto 4, 3) := by decide +kernel
theorem dX8_strengthsOf_74 : decode cX8_strengthsOf 74 = .ok (.iconst 0, 1) := by decide +kernel
theorem dX8_strengthsOf_75 : decode cX8_strengthsOf 75 = .ok (.istore 7, 2) := by decide +kernel
theorem dX8_strengthsOf_77 : decode cX8_strengthsOf 77 = .ok (.iload 4, 2) := by decide +kernel
theorem dX8_strengthsOf_79 : decode cX8_strengthsOf 79 = .ok (.ifCond .eq 41, 3) := by decide +kernel
theorem dX8_strengthsOf_82 : decode cX8_strengthsOf 82 = .ok (.aload_n 0, 1) := by decide +kernel
theorem dX8_strengthsOf_83 : decode cX8_strengthsOf 83 = .ok (.getfield 13, 3) := by decide +kernel
theorem dX8_strengthsOf_86 : decode cX8_strengthsOf 86 = .ok (.iload 6, 2) := by decide +kernel
theorem dX8_strengthsOf_88 : decode cX8_strengthsOf 88 = .ok (.iaload, 1) := by decide +kernel
theorem dX8_strengthsOf_89 : decode cX8_strengthsOf 89 = .ok (.iload_n 1, 1) := by decide +kernel
theorem dX8_strengthsOf_90 : decode cX8_strengthsOf 90 = .ok (.if_icmp .ne 26, 3) := by decide +kernel
theorem dX8_strengthsOf_93 : decode cX8_strengthsOf 93 = .ok (.iload 7, 2) := by decide +kernel
theorem dX8_strengthsOf_95 : decode cX8_strengthsOf 95 = .ok (.aload_n 0, 1) := by decide +kernel
theorem dX8_strengthsOf_96 : decode cX8_strengthsOf 96 = .ok (.getfield 13, 3) := by decide +kernel
theorem dX8_strengthsOf_99 : decode cX8_strengthsOf 99 = .ok (.iload 6, 2) := by decide +kernel
theorem dX8_strengthsOf_101 : decode cX8_strengthsOf 101 = .ok (.iconst 3, 1) := by decide +kernel
theorem dX8_strengthsOf_102 : decode cX8_strengthsOf 102 = .ok (.iadd, 1) := by decide +kernel
theorem dX8_strengthsOf_103 : decode cX8_strengthsOf 103 = .ok (.iaload, 1) := by decide +kernel
theorem dX8_strengthsOf_104 : decode cX8_strengthsOf 104 = .ok (.iconst 1, 1) := by decide +kernel
theorem dX8_strengthsOf_105 : decode cX8_strengthsOf 105 = .ok (.if_icmp .ne 7, 3) := by decide +kernel
theorem dX8_strengthsOf_108 : decode cX8_strengthsOf 108 = .ok (.iconst 1, 1) := by decide +kernel
theorem dX8_strengthsOf_109 : decode cX8_strengthsOf 109 = .ok (.goto 4, 3) := by decide +kernel
theorem dX8_strengthsOf_112 : decode cX8_strengthsOf 112 = .ok (.iconst 0, 1) := by decide +kernel
theorem dX8_strengthsOf_113 : decode cX8_strengthsOf 113 = .ok (.if_icmp .ne 7, 3) := by decide +kernel
theorem dX8_strengthsOf_116 : decode cX8_strengthsOf 116 = .ok (.iconst 1, 1) := by decide +kernel
theorem dX8_strengthsOf_117 : decode cX8_strengthsOf 117 = .ok (.goto 4, 3) := by decide +kernel
theorem dX8_strengthsOf_120 : decode cX8_strengthsOf 120 = .ok (.iconst 0, 1) := by decide +kernel
theorem dX8_strengthsOf_121 : decode cX8_strengthsOf 121 = .ok (.istore 4, 2) := by decide +kernel
theorem dX8_strengthsOf_123 : decode cX8_strengthsOf 123 = .ok (.iinc 5 1, 3) := by decide +kernel
theorem dX8_strengthsOf_126 : decode cX8_strengthsOf 126 = .ok (.goto (-110), 3) := by decide +kernel
theorem dX8_strengthsOf_129 : decode cX8_strengthsOf 129 = .ok (.iload_n 2, 1) := by decide +kernel
theorem dX8_strengthsOf_130 : decode cX8_strengthsOf 130 = .ok (.iload 4, 2) := by decide +kernel
theorem dX8_strengthsOf_132 : decode cX8_strengthsOf 132 = .ok (.ifCond .eq 9, 3) := by decide +kernel
theorem dX8_strengthsOf_135 : decode cX8_strengthsOf 135 = .ok (.iconst 1, 1) := by decide +kernel
theorem dX8_strengthsOf_136 : decode cX8_strengthsOf 136 = .ok (.iload_n 3, 1) := by decide +kernel
theorem dX8_strengthsOf_137 : decode cX8_strengthsOf 137 = .ok (.ishl, 1) := by decide +kernel
theorem dX8_strengthsOf_138 : decode cX8_strengthsOf 138 = .ok (.goto 4, 3) := by decide +kernel
theorem dX8_strengthsOf_141 : decode cX8_strengthsOf 141 = .ok (.iconst 0, 1) := by decide +kernel
theorem dX8_strengthsOf_142 : decode cX8_strengthsOf 142 = .ok (.ior, 1) := by decide +kernel
theorem dX8_strengthsOf_143 : decode cX8_strengthsOf 143 = .ok (.istore_n 2, 1) := by decide +kernel
theorem dX8_strengthsOf_144 : decode cX8_strengthsOf 144 = .ok (.iinc 3 1, 3) := by decide +kernel
theorem dX8_strengthsOf_147 : decode cX8_strengthsOf 147 = .ok (.goto (-143), 3) := by decide +kernel
theorem dX8_strengthsOf_150 : decode cX8_strengthsOf 150 = .ok (.iload_n 2, 1) := by decide +kernel
theorem dX8_strengthsOf_151 : decode cX8_strengthsOf 151 = .ok (.ireturn, 1) := by decide +kernel
theorem dX8_strong_0 : decode cX8_strong 0 = .ok (.aload_n 0, 1) := by decide +kernel
theorem dX8_strong_1 : decode cX8_strong 1 = .ok (.iload_n 1, 1) := by decide +kernel
theorem dX8_strong_2 : decode cX8_strong 2 = .ok (.invokevirtual 161, 3) := by decide +kernel
theorem dX8_strong_5 : decode cX8_strong 5 = .ok (.ifCond .eq 12, 3) := by decide +kernel
theorem dX8_strong_8 : decode cX8_strong 8 = .ok (.iload_n 2, 1) := by decide +kernel
theorem dX8_strong_9 : decode cX8_strong 9 = .ok (.iconst 0, 1) := by decide +kernel
theorem dX8_strong_10 : decode cX8_strong 10 = .ok (.iconst 2, 1) := by decide +kernel
theorem dX8_strong_11 : decode cX8_strong 11 = .ok (.invokestatic 44, 3) := by decide +kernel
theorem dX8_strong_14 : decode cX8_strong 14 = .ok (.ifCond .ne 8, 3) := by decide +kernel
theorem dX8_strong_17 : decode cX8_strong 17 = .ok (.aload_n 0, 1) := by decide +kernel
theorem dX8_strong_18 : decode cX8_strong 18 = .ok (.invokevirtual 69, 3) := by decide +kernel
theorem dX8_strong_21 : decode cX8_strong 21 = .ok (.ireturn, 1) := by decide +kernel
theorem dX8_strong_22 : decode cX8_strong 22 = .ok (.aload_n 0, 1) := by decide +kernel
theorem dX8_strong_23 : decode cX8_strong 23 = .ok (.iload_n 1, 1) := by decide +kernel
theorem dX8_strong_24 : decode cX8_strong 24 = .ok (.invokevirtual 213, 3) := by decide +kernel
theorem dX8_strong_27 : decode cX8_strong 27 = .ok (.istore_n 3, 1) := by decide +kernel
theorem dX8_strong_28 : decode cX8_strong 28 = .ok (.iconst (-1), 1) := by decide +kernel
theorem dX8_strong_29 : decode cX8_strong 29 = .ok (.istore 4, 2) := by decide +kernel
theorem dX8_strong_31 : decode cX8_strong 31 = .ok (.iconst (-1), 1) := by decide +kernel
theorem dX8_strong_32 : decode cX8_strong 32 = .ok (.istore 5, 2) := by decide +kernel
theorem dX8_strong_34 : decode cX8_strong 34 = .ok (.iconst 1, 1) := by decide +kernel
theorem dX8_strong_35 : decode cX8_strong 35 = .ok (.istore 6, 2) := by decide +kernel
theorem dX8_strong_37 : decode cX8_strong 37 = .ok (.iload 6, 2) := by decide +kernel
theorem dX8_strong_39 : decode cX8_strong 39 = .ok (.bipush 9, 2) := by decide +kernel
theorem dX8_strong_41 : decode cX8_strong 41 = .ok (.if_icmp .gt 51, 3) := by decide +kernel
theorem dX8_strong_44 : decode cX8_strong 44 = .ok (.iload_n 3, 1) := by decide +kernel
theorem dX8_strong_45 : decode cX8_strong 45 = .ok (.iload 6, 2) := by decide +kernel
theorem dX8_strong_47 : decode cX8_strong 47 = .ok (.invokestatic 61, 3) := by decide +kernel
theorem dX8_strong_50 : decode cX8_strong 50 = .ok (.ifCond .eq 14, 3) := by decide +kernel
theorem dX8_strong_53 : decode cX8_strong 53 = .ok (.iload 4, 2) := by decide +kernel
theorem dX8_strong_55 : decode cX8_strong 55 = .ok (.iconst (-1), 1) := by decide +kernel
theorem dX8_strong_56 : decode cX8_strong 56 = .ok (.if_icmp .ne 8, 3) := by decide +kernel
theorem dX8_strong_59 : decode cX8_strong 59 = .ok (.iload 6, 2) := by decide +kernel
theorem dX8_strong_61 : decode cX8_strong 61 = .ok (.goto 5, 3) := by decide +kernel
theorem dX8_strong_64 : decode cX8_strong 64 = .ok (.iload 4, 2) := by decide +kernel
theorem dX8_strong_66 : decode cX8_strong 66 = .ok (.istore 4, 2) := by decide +kernel
theorem dX8_strong_68 : decode cX8_strong 68 = .ok (.iload_n 3, 1) := by decide +kernel
theorem dX8_strong_69 : decode cX8_strong 69 = .ok (.iload 6, 2) := by decide +kernel
theorem dX8_strong_71 : decode cX8_strong 71 = .ok (.invokestatic 61, 3) := by decide +kernel
theorem dX8_strong_74 : decode cX8_strong 74 = .ok (.ifCond .eq 8, 3) := by decide +kernel
theorem dX8_strong_77 : decode cX8_strong 77 = .ok (.iload 6, 2) := by decide +kernel
theorem dX8_strong_79 : decode cX8_strong 79 = .ok (.goto 5, 3) := by decide +kernel
theorem dX8_strong_82 : decode cX8_strong 82 = .ok (.iload 5, 2) := by decide +kernel
theorem dX8_strong_84 : decode cX8_strong 84 = .ok (.istore 5, 2) := by decide +kernel
theorem dX8_strong_86 : decode cX8_strong 86 = .ok (.iinc 6 1, 3) := by decide +kernel
theorem dX8_strong_89 : decode cX8_strong 89 = .ok (.goto (-52), 3) := by decide +kernel
theorem dX8_strong_92 : decode cX8_strong 92 = .ok (.iload_n 2, 1) := by decide +kernel
theorem dX8_strong_93 : decode cX8_strong 93 = .ok (.ifCond .ne 10, 3) := by decide +kernel
theorem dX8_strong_96 : decode cX8_strong 96 = .ok (.iload_n 3, 1) := by decide +kernel
theorem dX8_strong_97 : decode cX8_strong 97 = .ok (.invokestatic 180, 3) := by decide +kernel
theorem dX8_strong_100 : decode cX8_strong 100 = .ok (.goto 15, 3) := by decide +kernel
theorem dX8_strong_103 : decode cX8_strong 103 = .ok (.iload_n 2, 1) := by decide +kernel
theorem dX8_strong_104 : decode cX8_strong 104 = .ok (.iconst 1, 1) := by decide +kernel
theorem dX8_strong_105 : decode cX8_strong 105 = .ok (.if_icmp .ne 8, 3) := by decide +kernel
theorem dX8_strong_108 : decode cX8_strong 108 = .ok (.iload 4, 2) := by decide +kernel
theorem dX8_strong_110 : decode cX8_strong 110 = .ok (.goto 5, 3) := by decide +kernel
theorem dX8_strong_113 : decode cX8_strong 113 = .ok (.iload 5, 2) := by decide +kernel
theorem dX8_strong_115 : decode cX8_strong 115 = .ok (.ireturn, 1) := by decide +kernel
theorem dX8_tell_0 : decode cX8_tell 0 = .ok (.aload_n 0, 1) := by decide +kernel
theorem dX8_tell_1 : decode cX8_tell 1 = .ok (.iload_n 1, 1) := by decide +kernel
theorem dX8_tell_2 : decode cX8_tell 2 = .ok (.invokevirtual 161, 3) := by decide +kernel
theorem dX8_tell_5 : decode cX8_tell 5 = .ok (.ifCond .ne 8, 3) := by decide +kernel
theorem dX8_tell_8 : decode cX8_tell 8 = .ok (.aload_n 0, 1) := by decide +kernel
theorem dX8_tell_9 : decode cX8_tell 9 = .ok (.invokevirtual 69, 3) := by decide +kernel
theorem dX8_tell_12 : decode cX8_tell 12 = .ok (.ireturn, 1) := by decide +kernel
theorem dX8_tell_13 : decode cX8_tell 13 = .ok (.aload_n 0, 1) := by decide +kernel
theorem dX8_tell_14 : decode cX8_tell 14 = .ok (.iload_n 1, 1) := by decide +kernel
theorem dX8_tell_15 : decode cX8_tell 15 = .ok (.invokevirtual 213, 3) := by decide +kernel
theorem dX8_tell_18 : decode cX8_tell 18 = .ok (.istore_n 2, 1) := by decide +kernel
theorem dX8_tell_19 : decode cX8_tell 19 = .ok (.iconst (-1), 1) := by decide +kernel
theorem dX8_tell_20 : decode cX8_tell 20 = .ok (.istore_n 3, 1) := by decide +kernel
theorem dX8_tell_21 : decode cX8_tell 21 = .ok (.ldc 202, 2) := by decide +kernel
theorem dX8_tell_23 : decode cX8_tell 23 = .ok (.istore 4, 2) := by decide +kernel
theorem dX8_tell_25 : decode cX8_tell 25 = .ok (.iconst 0, 1) := by decide +kernel
theorem dX8_tell_26 : decode cX8_tell 26 = .ok (.istore 5, 2) := by decide +kernel
theorem dX8_tell_28 : decode cX8_tell 28 = .ok (.iload 5, 2) := by decide +kernel
theorem dX8_tell_30 : decode cX8_tell 30 = .ok (.bipush 9, 2) := by decide +kernel
theorem dX8_tell_32 : decode cX8_tell 32 = .ok (.if_icmp .gt 153, 3) := by decide +kernel
theorem dX8_tell_35 : decode cX8_tell 35 = .ok (.iload_n 2, 1) := by decide +kernel
theorem dX8_tell_36 : decode cX8_tell 36 = .ok (.ifCond .eq 149, 3) := by decide +kernel
theorem dX8_tell_39 : decode cX8_tell 39 = .ok (.iconst 0, 1) := by decide +kernel
theorem dX8_tell_40 : decode cX8_tell 40 = .ok (.istore 6, 2) := by decide +kernel
theorem dX8_tell_42 : decode cX8_tell 42 = .ok (.iload 6, 2) := by decide +kernel
theorem dX8_tell_44 : decode cX8_tell 44 = .ok (.bipush 60, 2) := by decide +kernel
theorem dX8_tell_46 : decode cX8_tell 46 = .ok (.if_icmp .gt 133, 3) := by decide +kernel
theorem dX8_tell_49 : decode cX8_tell 49 = .ok (.iconst 0, 1) := by decide +kernel
theorem dX8_tell_50 : decode cX8_tell 50 = .ok (.istore 7, 2) := by decide +kernel
theorem dX8_tell_52 : decode cX8_tell 52 = .ok (.iconst 1, 1) := by decide +kernel
theorem dX8_tell_53 : decode cX8_tell 53 = .ok (.istore 8, 2) := by decide +kernel
theorem dX8_tell_55 : decode cX8_tell 55 = .ok (.iload 8, 2) := by decide +kernel
theorem dX8_tell_57 : decode cX8_tell 57 = .ok (.bipush 9, 2) := by decide +kernel
theorem dX8_tell_59 : decode cX8_tell 59 = .ok (.if_icmp .gt 52, 3) := by decide +kernel
theorem dX8_tell_62 : decode cX8_tell 62 = .ok (.iload 7, 2) := by decide +kernel
theorem dX8_tell_64 : decode cX8_tell 64 = .ok (.iload_n 2, 1) := by decide +kernel
theorem dX8_tell_65 : decode cX8_tell 65 = .ok (.iload 8, 2) := by decide +kernel
theorem dX8_tell_67 : decode cX8_tell 67 = .ok (.invokestatic 61, 3) := by decide +kernel
theorem dX8_tell_70 : decode cX8_tell 70 = .ok (.ifCond .eq 31, 3) := by decide +kernel
theorem dX8_tell_73 : decode cX8_tell 73 = .ok (.aload_n 0, 1) := by decide +kernel
theorem dX8_tell_74 : decode cX8_tell 74 = .ok (.getfield 13, 3) := by decide +kernel
end
section
theorem dX8_tell_77 : decode cX8_tell 77 = .ok (.bipush 20, 2) := by decide +kernel
theorem dX8_tell_79 : decode cX8_tell 79 = .ok (.iload_n 1, 1) := by decide +kernel
theorem dX8_tell_80 : decode cX8_tell 80 = .ok (.iadd, 1) := by decide +kernel
theorem dX8_tell_81 : decode cX8_tell 81 = .ok (.iaload, 1) := by decide +kernel
theorem dX8_tell_82 : decode cX8_tell 82 = .ok (.iload 8, 2) := by decide +kernel
theorem dX8_tell_84 : decode cX8_tell 84 = .ok (.bipush 10, 2) := by decide +kernel
theorem dX8_tell_86 : decode cX8_tell 86 = .ok (.iload 5, 2) := by decide +kernel
theorem dX8_tell_88 : decode cX8_tell 88 = .ok (.imul, 1) := by decide +kernel
theorem dX8_tell_89 : decode cX8_tell 89 = .ok (.invokestatic 52, 3) := by decide +kernel
theorem dX8_tell_92 : decode cX8_tell 92 = .ok (.iload 6, 2) := by decide +kernel
theorem dX8_tell_94 : decode cX8_tell 94 = .ok (.if_icmp .lt 7, 3) := by decide +kernel
theorem dX8_tell_97 : decode cX8_tell 97 = .ok (.iconst 1, 1) := by decide +kernel
theorem dX8_tell_98 : decode cX8_tell 98 = .ok (.goto 4, 3) := by decide +kernel
theorem dX8_tell_101 : decode cX8_tell 101 = .ok (.iconst 0, 1) := by decide +kernel
theorem dX8_tell_102 : decode cX8_tell 102 = .ok (.iadd, 1) := by decide +kernel
theorem dX8_tell_103 : decode cX8_tell 103 = .ok (.istore 7, 2) := by decide +kernel
theorem dX8_tell_105 : decode cX8_tell 105 = .ok (.iinc 8 1, 3) := by decide +kernel
theorem dX8_tell_108 : decode cX8_tell 108 = .ok (.goto (-53), 3) := by decide +kernel
theorem dX8_tell_111 : decode cX8_tell 111 = .ok (.iload 7, 2) := by decide +kernel
theorem dX8_tell_113 : decode cX8_tell 113 = .ok (.iload_n 2, 1) := by decide +kernel
theorem dX8_tell_114 : decode cX8_tell 114 = .ok (.invokestatic 180, 3) := by decide +kernel
theorem dX8_tell_117 : decode cX8_tell 117 = .ok (.iload 7, 2) := by decide +kernel
theorem dX8_tell_119 : decode cX8_tell 119 = .ok (.isub, 1) := by decide +kernel
theorem dX8_tell_120 : decode cX8_tell 120 = .ok (.if_icmp .le 8, 3) := by decide +kernel
theorem dX8_tell_123 : decode cX8_tell 123 = .ok (.iload 7, 2) := by decide +kernel
theorem dX8_tell_125 : decode cX8_tell 125 = .ok (.goto 10, 3) := by decide +kernel
theorem dX8_tell_128 : decode cX8_tell 128 = .ok (.iload_n 2, 1) := by decide +kernel
theorem dX8_tell_129 : decode cX8_tell 129 = .ok (.invokestatic 180, 3) := by decide +kernel
theorem dX8_tell_132 : decode cX8_tell 132 = .ok (.iload 7, 2) := by decide +kernel
theorem dX8_tell_134 : decode cX8_tell 134 = .ok (.isub, 1) := by decide +kernel
theorem dX8_tell_135 : decode cX8_tell 135 = .ok (.istore 8, 2) := by decide +kernel
theorem dX8_tell_137 : decode cX8_tell 137 = .ok (.iload 8, 2) := by decide +kernel
theorem dX8_tell_139 : decode cX8_tell 139 = .ok (.iload 4, 2) := by decide +kernel
theorem dX8_tell_141 : decode cX8_tell 141 = .ok (.if_icmp .ge 14, 3) := by decide +kernel
theorem dX8_tell_144 : decode cX8_tell 144 = .ok (.bipush 100, 2) := by decide +kernel
theorem dX8_tell_146 : decode cX8_tell 146 = .ok (.iload 5, 2) := by decide +kernel
theorem dX8_tell_148 : decode cX8_tell 148 = .ok (.imul, 1) := by decide +kernel
theorem dX8_tell_149 : decode cX8_tell 149 = .ok (.iload 6, 2) := by decide +kernel
theorem dX8_tell_151 : decode cX8_tell 151 = .ok (.iadd, 1) := by decide +kernel
theorem dX8_tell_152 : decode cX8_tell 152 = .ok (.goto 4, 3) := by decide +kernel
theorem dX8_tell_155 : decode cX8_tell 155 = .ok (.iload_n 3, 1) := by decide +kernel
theorem dX8_tell_156 : decode cX8_tell 156 = .ok (.istore_n 3, 1) := by decide +kernel
theorem dX8_tell_157 : decode cX8_tell 157 = .ok (.iload 8, 2) := by decide +kernel
theorem dX8_tell_159 : decode cX8_tell 159 = .ok (.iload 4, 2) := by decide +kernel
theorem dX8_tell_161 : decode cX8_tell 161 = .ok (.if_icmp .ge 8, 3) := by decide +kernel
theorem dX8_tell_164 : decode cX8_tell 164 = .ok (.iload 8, 2) := by decide +kernel
theorem dX8_tell_166 : decode cX8_tell 166 = .ok (.goto 5, 3) := by decide +kernel
theorem dX8_tell_169 : decode cX8_tell 169 = .ok (.iload 4, 2) := by decide +kernel
theorem dX8_tell_171 : decode cX8_tell 171 = .ok (.istore 4, 2) := by decide +kernel
theorem dX8_tell_173 : decode cX8_tell 173 = .ok (.iinc 6 1, 3) := by decide +kernel
theorem dX8_tell_176 : decode cX8_tell 176 = .ok (.goto (-134), 3) := by decide +kernel
theorem dX8_tell_179 : decode cX8_tell 179 = .ok (.iinc 5 1, 3) := by decide +kernel
theorem dX8_tell_182 : decode cX8_tell 182 = .ok (.goto (-154), 3) := by decide +kernel
theorem dX8_tell_185 : decode cX8_tell 185 = .ok (.iload_n 3, 1) := by decide +kernel
theorem dX8_tell_186 : decode cX8_tell 186 = .ok (.ireturn, 1) := by decide +kernel
theorem dX8_note_0 : decode cX8_note 0 = .ok (.aload_n 0, 1) := by decide +kernel
theorem dX8_note_1 : decode cX8_note 1 = .ok (.iload_n 1, 1) := by decide +kernel
theorem dX8_note_2 : decode cX8_note 2 = .ok (.invokevirtual 164, 3) := by decide +kernel
theorem dX8_note_5 : decode cX8_note 5 = .ok (.ifCond .eq 34, 3) := by decide +kernel
theorem dX8_note_8 : decode cX8_note 8 = .ok (.iload_n 2, 1) := by decide +kernel
theorem dX8_note_9 : decode cX8_note 9 = .ok (.iconst 1, 1) := by decide +kernel
theorem dX8_note_10 : decode cX8_note 10 = .ok (.bipush 30, 2) := by decide +kernel
theorem dX8_note_12 : decode cX8_note 12 = .ok (.invokestatic 44, 3) := by decide +kernel
theorem dX8_note_15 : decode cX8_note 15 = .ok (.ifCond .eq 24, 3) := by decide +kernel
theorem dX8_note_18 : decode cX8_note 18 = .ok (.iload_n 3, 1) := by decide +kernel
theorem dX8_note_19 : decode cX8_note 19 = .ok (.iconst 0, 1) := by decide +kernel
theorem dX8_note_20 : decode cX8_note 20 = .ok (.bipush 99, 2) := by decide +kernel
theorem dX8_note_22 : decode cX8_note 22 = .ok (.invokestatic 44, 3) := by decide +kernel
theorem dX8_note_25 : decode cX8_note 25 = .ok (.ifCond .eq 14, 3) := by decide +kernel
theorem dX8_note_28 : decode cX8_note 28 = .ok (.iload 4, 2) := by decide +kernel
theorem dX8_note_30 : decode cX8_note 30 = .ok (.iconst 0, 1) := by decide +kernel
theorem dX8_note_31 : decode cX8_note 31 = .ok (.bipush 99, 2) := by decide +kernel
theorem dX8_note_33 : decode cX8_note 33 = .ok (.invokestatic 44, 3) := by decide +kernel
theorem dX8_note_36 : decode cX8_note 36 = .ok (.ifCond .ne 8, 3) := by decide +kernel
theorem dX8_note_39 : decode cX8_note 39 = .ok (.aload_n 0, 1) := by decide +kernel
theorem dX8_note_40 : decode cX8_note 40 = .ok (.invokevirtual 69, 3) := by decide +kernel
theorem dX8_note_43 : decode cX8_note 43 = .ok (.ireturn, 1) := by decide +kernel
theorem dX8_note_44 : decode cX8_note 44 = .ok (.aload_n 0, 1) := by decide +kernel
theorem dX8_note_45 : decode cX8_note 45 = .ok (.getfield 13, 3) := by decide +kernel
theorem dX8_note_48 : decode cX8_note 48 = .ok (.iconst 3, 1) := by decide +kernel
theorem dX8_note_49 : decode cX8_note 49 = .ok (.iaload, 1) := by decide +kernel
theorem dX8_note_50 : decode cX8_note 50 = .ok (.bipush 6, 2) := by decide +kernel
theorem dX8_note_52 : decode cX8_note 52 = .ok (.if_icmp .ne 10, 3) := by decide +kernel
theorem dX8_note_55 : decode cX8_note 55 = .ok (.aload_n 0, 1) := by decide +kernel
theorem dX8_note_56 : decode cX8_note 56 = .ok (.invokevirtual 73, 3) := by decide +kernel
theorem dX8_note_59 : decode cX8_note 59 = .ok (.goto 15, 3) := by decide +kernel
theorem dX8_note_62 : decode cX8_note 62 = .ok (.aload_n 0, 1) := by decide +kernel
theorem dX8_note_63 : decode cX8_note 63 = .ok (.bipush 70, 2) := by decide +kernel
theorem dX8_note_65 : decode cX8_note 65 = .ok (.iconst 3, 1) := by decide +kernel
theorem dX8_note_66 : decode cX8_note 66 = .ok (.iload_n 1, 1) := by decide +kernel
theorem dX8_note_67 : decode cX8_note 67 = .ok (.iload_n 2, 1) := by decide +kernel
theorem dX8_note_68 : decode cX8_note 68 = .ok (.iload_n 3, 1) := by decide +kernel
theorem dX8_note_69 : decode cX8_note 69 = .ok (.iload 4, 2) := by decide +kernel
theorem dX8_note_71 : decode cX8_note 71 = .ok (.invokevirtual 209, 3) := by decide +kernel
theorem dX8_note_74 : decode cX8_note 74 = .ok (.ireturn, 1) := by decide +kernel
theorem dX8_mark_0 : decode cX8_mark 0 = .ok (.aload_n 0, 1) := by decide +kernel
theorem dX8_mark_1 : decode cX8_mark 1 = .ok (.iload_n 1, 1) := by decide +kernel
theorem dX8_mark_2 : decode cX8_mark 2 = .ok (.invokevirtual 161, 3) := by decide +kernel
theorem dX8_mark_5 : decode cX8_mark 5 = .ok (.ifCond .eq 34, 3) := by decide +kernel
theorem dX8_mark_8 : decode cX8_mark 8 = .ok (.iload_n 2, 1) := by decide +kernel
theorem dX8_mark_9 : decode cX8_mark 9 = .ok (.iconst 1, 1) := by decide +kernel
theorem dX8_mark_10 : decode cX8_mark 10 = .ok (.bipush 9, 2) := by decide +kernel
theorem dX8_mark_12 : decode cX8_mark 12 = .ok (.invokestatic 44, 3) := by decide +kernel
theorem dX8_mark_15 : decode cX8_mark 15 = .ok (.ifCond .eq 24, 3) := by decide +kernel
theorem dX8_mark_18 : decode cX8_mark 18 = .ok (.iload_n 3, 1) := by decide +kernel
theorem dX8_mark_19 : decode cX8_mark 19 = .ok (.iconst 0, 1) := by decide +kernel
theorem dX8_mark_20 : decode cX8_mark 20 = .ok (.bipush 99, 2) := by decide +kernel
theorem dX8_mark_22 : decode cX8_mark 22 = .ok (.invokestatic 44, 3) := by decide +kernel
theorem dX8_mark_25 : decode cX8_mark 25 = .ok (.ifCond .eq 14, 3) := by decide +kernel
theorem dX8_mark_28 : decode cX8_mark 28 = .ok (.iload 4, 2) := by decide +kernel
theorem dX8_mark_30 : decode cX8_mark 30 = .ok (.iconst 0, 1) := by decide +kernel
theorem dX8_mark_31 : decode cX8_mark 31 = .ok (.bipush 99, 2) := by decide +kernel
theorem dX8_mark_33 : decode cX8_mark 33 = .ok (.invokestatic 44, 3) := by decide +kernel
theorem dX8_mark_36 : decode cX8_mark 36 = .ok (.ifCond .ne 8, 3) := by decide +kernel
theorem dX8_mark_39 : decode cX8_mark 39 = .ok (.aload_n 0, 1) := by decide +kernel
theorem dX8_mark_40 : decode cX8_mark 40 = .ok (.invokevirtual 69, 3) := by decide +kernel
theorem dX8_mark_43 : decode cX8_mark 43 = .ok (.ireturn, 1) := by decide +kernel
theorem dX8_mark_44 : decode cX8_mark 44 = .ok (.aload_n 0, 1) := by decide +kernel
theorem dX8_mark_45 : decode cX8_mark 45 = .ok (.getfield 13, 3) := by decide +kernel
theorem dX8_mark_48 : decode cX8_mark 48 = .ok (.iconst 4, 1) := by decide +kernel
theorem dX8_mark_49 : decode cX8_mark 49 = .ok (.iaload, 1) := by decide +kernel
theorem dX8_mark_50 : decode cX8_mark 50 = .ok (.bipush 6, 2) := by decide +kernel
theorem dX8_mark_52 : decode cX8_mark 52 = .ok (.if_icmp .ne 10, 3) := by decide +kernel
theorem dX8_mark_55 : decode cX8_mark 55 = .ok (.aload_n 0, 1) := by decide +kernel
theorem dX8_mark_56 : decode cX8_mark 56 = .ok (.invokevirtual 73, 3) := by decide +kernel
theorem dX8_mark_59 : decode cX8_mark 59 = .ok (.goto 15, 3) := by decide +kernel
theorem dX8_mark_62 : decode cX8_mark 62 = .ok (.aload_n 0, 1) := by decide +kernel
theorem dX8_mark_63 : decode cX8_mark 63 = .ok (.bipush 94, 2) := by decide +kernel
theorem dX8_mark_65 : decode cX8_mark 65 = .ok (.iconst 4, 1) := by decide +kernel
theorem dX8_mark_66 : decode cX8_mark 66 = .ok (.iload_n 1, 1) := by decide +kernel
theorem dX8_mark_67 : decode cX8_mark 67 = .ok (.iload_n 2, 1) := by decide +kernel
theorem dX8_mark_68 : decode cX8_mark 68 = .ok (.iload_n 3, 1) := by decide +kernel
theorem dX8_mark_69 : decode cX8_mark 69 = .ok (.iload 4, 2) := by decide +kernel
theorem dX8_mark_71 : decode cX8_mark 71 = .ok (.invokevirtual 209, 3) := by decide +kernel
theorem dX8_mark_74 : decode cX8_mark 74 = .ok (.ireturn, 1) := by decide +kernel
theorem dX8_forget_0 : decode cX8_forget 0 = .ok (.iload_n 1, 1) := by decide +kernel
theorem dX8_forget_1 : decode cX8_forget 1 = .ok (.iconst 0, 1) := by decide +kernel
theorem dX8_forget_2 : decode cX8_forget 2 = .ok (.iconst 2, 1) := by decide +kernel
theorem dX8_forget_3 : decode cX8_forget 3 = .ok (.invokestatic 44, 3) := by decide +kernel
theorem dX8_forget_6 : decode cX8_forget 6 = .ok (.ifCond .ne 8, 3) := by decide +kernel
theorem dX8_forget_9 : decode cX8_forget 9 = .ok (.aload_n 0, 1) := by decide +kernel
theorem dX8_forget_10 : decode cX8_forget 10 = .ok (.invokevirtual 69, 3) := by decide +kernel
theorem dX8_forget_13 : decode cX8_forget 13 = .ok (.ireturn, 1) := by decide +kernel
theorem dX8_forget_14 : decode cX8_forget 14 = .ok (.aload_n 0, 1) := by decide +kernel
theorem dX8_forget_15 : decode cX8_forget 15 = .ok (.getfield 13, 3) := by decide +kernel
theorem dX8_forget_18 : decode cX8_forget 18 = .ok (.iconst 2, 1) := by decide +kernel
theorem dX8_forget_19 : decode cX8_forget 19 = .ok (.iload_n 1, 1) := by decide +kernel
theorem dX8_forget_20 : decode cX8_forget 20 = .ok (.iadd, 1) := by decide +kernel
theorem dX8_forget_21 : decode cX8_forget 21 = .ok (.iaload, 1) := by decide +kernel
theorem dX8_forget_22 : decode cX8_forget 22 = .ok (.istore_n 2, 1) := by decide +kernel
theorem dX8_forget_23 : decode cX8_forget 23 = .ok (.iload_n 1, 1) := by decide +kernel
theorem dX8_forget_24 : decode cX8_forget 24 = .ok (.ifCond .ne 8, 3) := by decide +kernel
theorem dX8_forget_27 : decode cX8_forget 27 = .ok (.bipush 50, 2) := by decide +kernel
theorem dX8_forget_29 : decode cX8_forget 29 = .ok (.goto 15, 3) := by decide +kernel
theorem dX8_forget_32 : decode cX8_forget 32 = .ok (.iload_n 1, 1) := by decide +kernel
theorem dX8_forget_33 : decode cX8_forget 33 = .ok (.iconst 1, 1) := by decide +kernel
theorem dX8_forget_34 : decode cX8_forget 34 = .ok (.if_icmp .ne 8, 3) := by decide +kernel
theorem dX8_forget_37 : decode cX8_forget 37 = .ok (.bipush 70, 2) := by decide +kernel
theorem dX8_forget_39 : decode cX8_forget 39 = .ok (.goto 5, 3) := by decide +kernel
theorem dX8_forget_42 : decode cX8_forget 42 = .ok (.bipush 94, 2) := by decide +kernel
theorem dX8_forget_44 : decode cX8_forget 44 = .ok (.istore_n 3, 1) := by decide +kernel
theorem dX8_forget_45 : decode cX8_forget 45 = .ok (.aload_n 0, 1) := by decide +kernel
theorem dX8_forget_46 : decode cX8_forget 46 = .ok (.getfield 13, 3) := by decide +kernel
theorem dX8_forget_49 : decode cX8_forget 49 = .ok (.iconst 2, 1) := by decide +kernel
theorem dX8_forget_50 : decode cX8_forget 50 = .ok (.iload_n 1, 1) := by decide +kernel
theorem dX8_forget_51 : decode cX8_forget 51 = .ok (.iadd, 1) := by decide +kernel
theorem dX8_forget_52 : decode cX8_forget 52 = .ok (.iconst 0, 1) := by decide +kernel
theorem dX8_forget_53 : decode cX8_forget 53 = .ok (.iastore, 1) := by decide +kernel
theorem dX8_forget_54 : decode cX8_forget 54 = .ok (.iconst 0, 1) := by decide +kernel
theorem dX8_forget_55 : decode cX8_forget 55 = .ok (.istore 4, 2) := by decide +kernel
theorem dX8_forget_57 : decode cX8_forget 57 = .ok (.iload 4, 2) := by decide +kernel
theorem dX8_forget_59 : decode cX8_forget 59 = .ok (.iconst 4, 1) := by decide +kernel
theorem dX8_forget_60 : decode cX8_forget 60 = .ok (.iload_n 2, 1) := by decide +kernel
theorem dX8_forget_61 : decode cX8_forget 61 = .ok (.imul, 1) := by decide +kernel
theorem dX8_forget_62 : decode cX8_forget 62 = .ok (.if_icmp .ge 19, 3) := by decide +kernel
theorem dX8_forget_65 : decode cX8_forget 65 = .ok (.aload_n 0, 1) := by decide +kernel
theorem dX8_forget_66 : decode cX8_forget 66 = .ok (.getfield 13, 3) := by decide +kernel
theorem dX8_forget_69 : decode cX8_forget 69 = .ok (.iload_n 3, 1) := by decide +kernel
theorem dX8_forget_70 : decode cX8_forget 70 = .ok (.iload 4, 2) := by decide +kernel
theorem dX8_forget_72 : decode cX8_forget 72 = .ok (.iadd, 1) := by decide +kernel
theorem dX8_forget_73 : decode cX8_forget 73 = .ok (.iconst 0, 1) := by decide +kernel
theorem dX8_forget_74 : decode cX8_forget 74 = .ok (.iastore, 1) := by decide +kernel
theorem dX8_forget_75 : decode cX8_forget 75 = .ok (.iinc 4 1, 3) := by decide +kernel
theorem dX8_forget_78 : decode cX8_forget 78 = .ok (.goto (-21), 3) := by decide +kernel
theorem dX8_forget_81 : decode cX8_forget 81 = .ok (.iload_n 2, 1) := by decide +kernel
theorem dX8_forget_82 : decode cX8_forget 82 = .ok (.ireturn, 1) := by decide +kernel
theorem dX8_kindsOf_0 : decode cX8_kindsOf 0 = .ok (.iconst 0, 1) := by decide +kernel
theorem dX8_kindsOf_1 : decode cX8_kindsOf 1 = .ok (.istore_n 3, 1) := by decide +kernel
theorem dX8_kindsOf_2 : decode cX8_kindsOf 2 = .ok (.iload_n 2, 1) := by decide +kernel
theorem dX8_kindsOf_3 : decode cX8_kindsOf 3 = .ok (.ifCond .eq 8, 3) := by decide +kernel
theorem dX8_kindsOf_6 : decode cX8_kindsOf 6 = .ok (.bipush 70, 2) := by decide +kernel
theorem dX8_kindsOf_8 : decode cX8_kindsOf 8 = .ok (.goto 5, 3) := by decide +kernel
theorem dX8_kindsOf_11 : decode cX8_kindsOf 11 = .ok (.bipush 94, 2) := by decide +kernel
theorem dX8_kindsOf_13 : decode cX8_kindsOf 13 = .ok (.istore 4, 2) := by decide +kernel
theorem dX8_kindsOf_15 : decode cX8_kindsOf 15 = .ok (.iconst 0, 1) := by decide +kernel
theorem dX8_kindsOf_16 : decode cX8_kindsOf 16 = .ok (.istore 5, 2) := by decide +kernel
theorem dX8_kindsOf_18 : decode cX8_kindsOf 18 = .ok (.iload 5, 2) := by decide +kernel
theorem dX8_kindsOf_20 : decode cX8_kindsOf 20 = .ok (.iconst 5, 1) := by decide +kernel
theorem dX8_kindsOf_21 : decode cX8_kindsOf 21 = .ok (.if_icmp .gt 162, 3) := by decide +kernel
theorem dX8_kindsOf_24 : decode cX8_kindsOf 24 = .ok (.iconst 1, 1) := by decide +kernel
theorem dX8_kindsOf_25 : decode cX8_kindsOf 25 = .ok (.istore 6, 2) := by decide +kernel
theorem dX8_kindsOf_27 : decode cX8_kindsOf 27 = .ok (.iconst 0, 1) := by decide +kernel
theorem dX8_kindsOf_28 : decode cX8_kindsOf 28 = .ok (.istore 7, 2) := by decide +kernel
theorem dX8_kindsOf_30 : decode cX8_kindsOf 30 = .ok (.iload 7, 2) := by decide +kernel
theorem dX8_kindsOf_32 : decode cX8_kindsOf 32 = .ok (.aload_n 0, 1) := by decide +kernel
theorem dX8_kindsOf_33 : decode cX8_kindsOf 33 = .ok (.getfield 13, 3) := by decide +kernel
theorem dX8_kindsOf_36 : decode cX8_kindsOf 36 = .ok (.iload_n 2, 1) := by decide +kernel
theorem dX8_kindsOf_37 : decode cX8_kindsOf 37 = .ok (.ifCond .eq 7, 3) := by decide +kernel
theorem dX8_kindsOf_40 : decode cX8_kindsOf 40 = .ok (.iconst 3, 1) := by decide +kernel
theorem dX8_kindsOf_41 : decode cX8_kindsOf 41 = .ok (.goto 4, 3) := by decide +kernel
theorem dX8_kindsOf_44 : decode cX8_kindsOf 44 = .ok (.iconst 4, 1) := by decide +kernel
theorem dX8_kindsOf_45 : decode cX8_kindsOf 45 = .ok (.iaload, 1) := by decide +kernel
theorem dX8_kindsOf_46 : decode cX8_kindsOf 46 = .ok (.if_icmp .ge 115, 3) := by decide +kernel
theorem dX8_kindsOf_49 : decode cX8_kindsOf 49 = .ok (.aload_n 0, 1) := by decide +kernel
theorem dX8_kindsOf_50 : decode cX8_kindsOf 50 = .ok (.getfield 13, 3) := by decide +kernel
theorem dX8_kindsOf_53 : decode cX8_kindsOf 53 = .ok (.iload 4, 2) := by decide +kernel
theorem dX8_kindsOf_55 : decode cX8_kindsOf 55 = .ok (.iconst 4, 1) := by decide +kernel
theorem dX8_kindsOf_56 : decode cX8_kindsOf 56 = .ok (.iload 7, 2) := by decide +kernel
theorem dX8_kindsOf_58 : decode cX8_kindsOf 58 = .ok (.imul, 1) := by decide +kernel
theorem dX8_kindsOf_59 : decode cX8_kindsOf 59 = .ok (.iadd, 1) := by decide +kernel
theorem dX8_kindsOf_60 : decode cX8_kindsOf 60 = .ok (.iconst 1, 1) := by decide +kernel
theorem dX8_kindsOf_61 : decode cX8_kindsOf 61 = .ok (.iadd, 1) := by decide +kernel
theorem dX8_kindsOf_62 : decode cX8_kindsOf 62 = .ok (.iaload, 1) := by decide +kernel
theorem dX8_kindsOf_63 : decode cX8_kindsOf 63 = .ok (.istore 8, 2) := by decide +kernel
theorem dX8_kindsOf_65 : decode cX8_kindsOf 65 = .ok (.aload_n 0, 1) := by decide +kernel
theorem dX8_kindsOf_66 : decode cX8_kindsOf 66 = .ok (.getfield 13, 3) := by decide +kernel
theorem dX8_kindsOf_69 : decode cX8_kindsOf 69 = .ok (.iload 4, 2) := by decide +kernel
theorem dX8_kindsOf_71 : decode cX8_kindsOf 71 = .ok (.iconst 4, 1) := by decide +kernel
theorem dX8_kindsOf_72 : decode cX8_kindsOf 72 = .ok (.iload 7, 2) := by decide +kernel
theorem dX8_kindsOf_74 : decode cX8_kindsOf 74 = .ok (.imul, 1) := by decide +kernel
theorem dX8_kindsOf_75 : decode cX8_kindsOf 75 = .ok (.iadd, 1) := by decide +kernel
theorem dX8_kindsOf_76 : decode cX8_kindsOf 76 = .ok (.iconst 2, 1) := by decide +kernel
theorem dX8_kindsOf_77 : decode cX8_kindsOf 77 = .ok (.iadd, 1) := by decide +kernel
theorem dX8_kindsOf_78 : decode cX8_kindsOf 78 = .ok (.iaload, 1) := by decide +kernel
theorem dX8_kindsOf_79 : decode cX8_kindsOf 79 = .ok (.istore 9, 2) := by decide +kernel
theorem dX8_kindsOf_81 : decode cX8_kindsOf 81 = .ok (.iload_n 2, 1) := by decide +kernel
theorem dX8_kindsOf_82 : decode cX8_kindsOf 82 = .ok (.ifCond .eq 15, 3) := by decide +kernel
theorem dX8_kindsOf_85 : decode cX8_kindsOf 85 = .ok (.iload 5, 2) := by decide +kernel
theorem dX8_kindsOf_87 : decode cX8_kindsOf 87 = .ok (.iload 8, 2) := by decide +kernel
theorem dX8_kindsOf_89 : decode cX8_kindsOf 89 = .ok (.iload 9, 2) := by decide +kernel
theorem dX8_kindsOf_91 : decode cX8_kindsOf 91 = .ok (.invokestatic 48, 3) := by decide +kernel
theorem dX8_kindsOf_94 : decode cX8_kindsOf 94 = .ok (.goto 12, 3) := by decide +kernel
theorem dX8_kindsOf_97 : decode cX8_kindsOf 97 = .ok (.iload 5, 2) := by decide +kernel
theorem dX8_kindsOf_99 : decode cX8_kindsOf 99 = .ok (.iload 8, 2) := by decide +kernel
theorem dX8_kindsOf_101 : decode cX8_kindsOf 101 = .ok (.iload 9, 2) := by decide +kernel
theorem dX8_kindsOf_103 : decode cX8_kindsOf 103 = .ok (.invokestatic 52, 3) := by decide +kernel
theorem dX8_kindsOf_106 : decode cX8_kindsOf 106 = .ok (.istore 10, 2) := by decide +kernel
theorem dX8_kindsOf_108 : decode cX8_kindsOf 108 = .ok (.iload 6, 2) := by decide +kernel
theorem dX8_kindsOf_110 : decode cX8_kindsOf 110 = .ok (.ifCond .eq 42, 3) := by decide +kernel
theorem dX8_kindsOf_113 : decode cX8_kindsOf 113 = .ok (.aload_n 0, 1) := by decide +kernel
theorem dX8_kindsOf_114 : decode cX8_kindsOf 114 = .ok (.getfield 13, 3) := by decide +kernel
theorem dX8_kindsOf_117 : decode cX8_kindsOf 117 = .ok (.iload 4, 2) := by decide +kernel
theorem dX8_kindsOf_119 : decode cX8_kindsOf 119 = .ok (.iconst 4, 1) := by decide +kernel
theorem dX8_kindsOf_120 : decode cX8_kindsOf 120 = .ok (.iload 7, 2) := by decide +kernel
theorem dX8_kindsOf_122 : decode cX8_kindsOf 122 = .ok (.imul, 1) := by decide +kernel
theorem dX8_kindsOf_123 : decode cX8_kindsOf 123 = .ok (.iadd, 1) := by decide +kernel
theorem dX8_kindsOf_124 : decode cX8_kindsOf 124 = .ok (.iaload, 1) := by decide +kernel
theorem dX8_kindsOf_125 : decode cX8_kindsOf 125 = .ok (.iload_n 1, 1) := by decide +kernel
theorem dX8_kindsOf_126 : decode cX8_kindsOf 126 = .ok (.if_icmp .ne 22, 3) := by decide +kernel
theorem dX8_kindsOf_129 : decode cX8_kindsOf 129 = .ok (.iload 10, 2) := by decide +kernel
theorem dX8_kindsOf_131 : decode cX8_kindsOf 131 = .ok (.aload_n 0, 1) := by decide +kernel
theorem dX8_kindsOf_132 : decode cX8_kindsOf 132 = .ok (.getfield 13, 3) := by decide +kernel
theorem dX8_kindsOf_135 : decode cX8_kindsOf 135 = .ok (.iload 4, 2) := by decide +kernel
theorem dX8_kindsOf_137 : decode cX8_kindsOf 137 = .ok (.iconst 4, 1) := by decide +kernel
theorem dX8_kindsOf_138 : decode cX8_kindsOf 138 = .ok (.iload 7, 2) := by decide +kernel
theorem dX8_kindsOf_140 : decode cX8_kindsOf 140 = .ok (.imul, 1) := by decide +kernel
theorem dX8_kindsOf_141 : decode cX8_kindsOf 141 = .ok (.iadd, 1) := by decide +kernel
theorem dX8_kindsOf_142 : decode cX8_kindsOf 142 = .ok (.iconst 3, 1) := by decide +kernel
theorem dX8_kindsOf_143 : decode cX8_kindsOf 143 = .ok (.iadd, 1) := by decide +kernel
theorem dX8_kindsOf_144 : decode cX8_kindsOf 144 = .ok (.iaload, 1) := by decide +kernel
theorem dX8_kindsOf_145 : decode cX8_kindsOf 145 = .ok (.if_icmp .ne 7, 3) := by decide +kernel
theorem dX8_kindsOf_148 : decode cX8_kindsOf 148 = .ok (.iconst 1, 1) := by decide +kernel
theorem dX8_kindsOf_149 : decode cX8_kindsOf 149 = .ok (.goto 4, 3) := by decide +kernel
theorem dX8_kindsOf_152 : decode cX8_kindsOf 152 = .ok (.iconst 0, 1) := by decide +kernel
theorem dX8_kindsOf_153 : decode cX8_kindsOf 153 = .ok (.istore 6, 2) := by decide +kernel
theorem dX8_kindsOf_155 : decode cX8_kindsOf 155 = .ok (.iinc 7 1, 3) := by decide +kernel
theorem dX8_kindsOf_158 : decode cX8_kindsOf 158 = .ok (.goto (-128), 3) := by decide +kernel
theorem dX8_kindsOf_161 : decode cX8_kindsOf 161 = .ok (.iload_n 3, 1) := by decide +kernel
theorem dX8_kindsOf_162 : decode cX8_kindsOf 162 = .ok (.iload 6, 2) := by decide +kernel
theorem dX8_kindsOf_164 : decode cX8_kindsOf 164 = .ok (.ifCond .eq 10, 3) := by decide +kernel
theorem dX8_kindsOf_167 : decode cX8_kindsOf 167 = .ok (.iconst 1, 1) := by decide +kernel
theorem dX8_kindsOf_168 : decode cX8_kindsOf 168 = .ok (.iload 5, 2) := by decide +kernel
theorem dX8_kindsOf_170 : decode cX8_kindsOf 170 = .ok (.ishl, 1) := by decide +kernel
theorem dX8_kindsOf_171 : decode cX8_kindsOf 171 = .ok (.goto 4, 3) := by decide +kernel
theorem dX8_kindsOf_174 : decode cX8_kindsOf 174 = .ok (.iconst 0, 1) := by decide +kernel
theorem dX8_kindsOf_175 : decode cX8_kindsOf 175 = .ok (.ior, 1) := by decide +kernel
theorem dX8_kindsOf_176 : decode cX8_kindsOf 176 = .ok (.istore_n 3, 1) := by decide +kernel
theorem dX8_kindsOf_177 : decode cX8_kindsOf 177 = .ok (.iinc 5 1, 3) := by decide +kernel
theorem dX8_kindsOf_180 : decode cX8_kindsOf 180 = .ok (.goto (-162), 3) := by decide +kernel
theorem dX8_kindsOf_183 : decode cX8_kindsOf 183 = .ok (.iload_n 3, 1) := by decide +kernel
theorem dX8_kindsOf_184 : decode cX8_kindsOf 184 = .ok (.ireturn, 1) := by decide +kernel
theorem dX8_is_0 : decode cX8_is 0 = .ok (.aload_n 0, 1) := by decide +kernel
theorem dX8_is_1 : decode cX8_is 1 = .ok (.iload_n 1, 1) := by decide +kernel
theorem dX8_is_2 : decode cX8_is 2 = .ok (.invokevirtual 164, 3) := by decide +kernel
theorem dX8_is_5 : decode cX8_is 5 = .ok (.ifCond .eq 12, 3) := by decide +kernel
theorem dX8_is_8 : decode cX8_is 8 = .ok (.aload_n 0, 1) := by decide +kernel
theorem dX8_is_9 : decode cX8_is 9 = .ok (.iload_n 1, 1) := by decide +kernel
theorem dX8_is_10 : decode cX8_is 10 = .ok (.iconst 1, 1) := by decide +kernel
theorem dX8_is_11 : decode cX8_is 11 = .ok (.invokevirtual 216, 3) := by decide +kernel
theorem dX8_is_14 : decode cX8_is 14 = .ok (.goto 7, 3) := by decide +kernel
theorem dX8_is_17 : decode cX8_is 17 = .ok (.aload_n 0, 1) := by decide +kernel
theorem dX8_is_18 : decode cX8_is 18 = .ok (.invokevirtual 69, 3) := by decide +kernel
theorem dX8_is_21 : decode cX8_is 21 = .ok (.ireturn, 1) := by decide +kernel
theorem dX8_kinds_0 : decode cX8_kinds 0 = .ok (.aload_n 0, 1) := by decide +kernel
theorem dX8_kinds_1 : decode cX8_kinds 1 = .ok (.iload_n 1, 1) := by decide +kernel
theorem dX8_kinds_2 : decode cX8_kinds 2 = .ok (.invokevirtual 161, 3) := by decide +kernel
theorem dX8_kinds_5 : decode cX8_kinds 5 = .ok (.ifCond .eq 12, 3) := by decide +kernel
theorem dX8_kinds_8 : decode cX8_kinds 8 = .ok (.aload_n 0, 1) := by decide +kernel
theorem dX8_kinds_9 : decode cX8_kinds 9 = .ok (.iload_n 1, 1) := by decide +kernel
theorem dX8_kinds_10 : decode cX8_kinds 10 = .ok (.iconst 0, 1) := by decide +kernel
theorem dX8_kinds_11 : decode cX8_kinds 11 = .ok (.invokevirtual 216, 3) := by decide +kernel
theorem dX8_kinds_14 : decode cX8_kinds 14 = .ok (.goto 7, 3) := by decide +kernel
theorem dX8_kinds_17 : decode cX8_kinds 17 = .ok (.aload_n 0, 1) := by decide +kernel
theorem dX8_kinds_18 : decode cX8_kinds 18 = .ok (.invokevirtual 69, 3) := by decide +kernel
theorem dX8_kinds_21 : decode cX8_kinds 21 = .ok (.ireturn, 1) := by decide +kernel
theorem dX8_partBy_0 : decode cX8_partBy 0 = .ok (.iconst (-1), 1) := by decide +kernel
theorem dX8_partBy_1 : decode cX8_partBy 1 = .ok (.istore 5, 2) := by decide +kernel
theorem dX8_partBy_3 : decode cX8_partBy 3 = .ok (.ldc 202, 2) := by decide +kernel
theorem dX8_partBy_5 : decode cX8_partBy 5 = .ok (.istore 6, 2) := by decide +kernel
theorem dX8_partBy_7 : decode cX8_partBy 7 = .ok (.iconst 0, 1) := by decide +kernel
theorem dX8_partBy_8 : decode cX8_partBy 8 = .ok (.istore 7, 2) := by decide +kernel
theorem dX8_partBy_10 : decode cX8_partBy 10 = .ok (.iload 7, 2) := by decide +kernel
theorem dX8_partBy_12 : decode cX8_partBy 12 = .ok (.iload_n 3, 1) := by decide +kernel
theorem dX8_partBy_13 : decode cX8_partBy 13 = .ok (.if_icmp .gt 184, 3) := by decide +kernel
theorem dX8_partBy_16 : decode cX8_partBy 16 = .ok (.iload_n 1, 1) := by decide +kernel
theorem dX8_partBy_17 : decode cX8_partBy 17 = .ok (.ifCond .eq 180, 3) := by decide +kernel
theorem dX8_partBy_20 : decode cX8_partBy 20 = .ok (.iconst 0, 1) := by decide +kernel
theorem dX8_partBy_21 : decode cX8_partBy 21 = .ok (.istore 8, 2) := by decide +kernel
theorem dX8_partBy_23 : decode cX8_partBy 23 = .ok (.iconst 0, 1) := by decide +kernel
theorem dX8_partBy_24 : decode cX8_partBy 24 = .ok (.istore 9, 2) := by decide +kernel
theorem dX8_partBy_26 : decode cX8_partBy 26 = .ok (.iload 9, 2) := by decide +kernel
theorem dX8_partBy_28 : decode cX8_partBy 28 = .ok (.iconst 5, 1) := by decide +kernel
theorem dX8_partBy_29 : decode cX8_partBy 29 = .ok (.if_icmp .gt 130, 3) := by decide +kernel
theorem dX8_partBy_32 : decode cX8_partBy 32 = .ok (.iload 4, 2) := by decide +kernel
theorem dX8_partBy_34 : decode cX8_partBy 34 = .ok (.ifCond .eq 14, 3) := by decide +kernel
theorem dX8_partBy_37 : decode cX8_partBy 37 = .ok (.iload 9, 2) := by decide +kernel
theorem dX8_partBy_39 : decode cX8_partBy 39 = .ok (.iload_n 2, 1) := by decide +kernel
theorem dX8_partBy_40 : decode cX8_partBy 40 = .ok (.iload 7, 2) := by decide +kernel
theorem dX8_partBy_42 : decode cX8_partBy 42 = .ok (.invokestatic 48, 3) := by decide +kernel
theorem dX8_partBy_45 : decode cX8_partBy 45 = .ok (.goto 11, 3) := by decide +kernel
theorem dX8_partBy_48 : decode cX8_partBy 48 = .ok (.iload 9, 2) := by decide +kernel
theorem dX8_partBy_50 : decode cX8_partBy 50 = .ok (.iload_n 2, 1) := by decide +kernel
theorem dX8_partBy_51 : decode cX8_partBy 51 = .ok (.iload 7, 2) := by decide +kernel
theorem dX8_partBy_53 : decode cX8_partBy 53 = .ok (.invokestatic 52, 3) := by decide +kernel
theorem dX8_partBy_56 : decode cX8_partBy 56 = .ok (.istore 10, 2) := by decide +kernel
theorem dX8_partBy_58 : decode cX8_partBy 58 = .ok (.iconst 0, 1) := by decide +kernel
theorem dX8_partBy_59 : decode cX8_partBy 59 = .ok (.istore 11, 2) := by decide +kernel
theorem dX8_partBy_61 : decode cX8_partBy 61 = .ok (.iconst 0, 1) := by decide +kernel
theorem dX8_partBy_62 : decode cX8_partBy 62 = .ok (.istore 12, 2) := by decide +kernel
theorem dX8_partBy_64 : decode cX8_partBy 64 = .ok (.iload 12, 2) := by decide +kernel
theorem dX8_partBy_66 : decode cX8_partBy 66 = .ok (.iconst 5, 1) := by decide +kernel
theorem dX8_partBy_67 : decode cX8_partBy 67 = .ok (.if_icmp .gt 70, 3) := by decide +kernel
theorem dX8_partBy_70 : decode cX8_partBy 70 = .ok (.iload 4, 2) := by decide +kernel
theorem dX8_partBy_72 : decode cX8_partBy 72 = .ok (.ifCond .eq 14, 3) := by decide +kernel
theorem dX8_partBy_75 : decode cX8_partBy 75 = .ok (.iload 12, 2) := by decide +kernel
theorem dX8_partBy_77 : decode cX8_partBy 77 = .ok (.iload_n 2, 1) := by decide +kernel
theorem dX8_partBy_78 : decode cX8_partBy 78 = .ok (.iload 7, 2) := by decide +kernel
theorem dX8_partBy_80 : decode cX8_partBy 80 = .ok (.invokestatic 48, 3) := by decide +kernel
theorem dX8_partBy_83 : decode cX8_partBy 83 = .ok (.goto 11, 3) := by decide +kernel
theorem dX8_partBy_86 : decode cX8_partBy 86 = .ok (.iload 12, 2) := by decide +kernel
theorem dX8_partBy_88 : decode cX8_partBy 88 = .ok (.iload_n 2, 1) := by decide +kernel
theorem dX8_partBy_89 : decode cX8_partBy 89 = .ok (.iload 7, 2) := by decide +kernel
theorem dX8_partBy_91 : decode cX8_partBy 91 = .ok (.invokestatic 52, 3) := by decide +kernel
theorem dX8_partBy_94 : decode cX8_partBy 94 = .ok (.istore 13, 2) := by decide +kernel
theorem dX8_partBy_96 : decode cX8_partBy 96 = .ok (.iload 11, 2) := by decide +kernel
theorem dX8_partBy_98 : decode cX8_partBy 98 = .ok (.iload_n 1, 1) := by decide +kernel
theorem dX8_partBy_99 : decode cX8_partBy 99 = .ok (.iload 9, 2) := by decide +kernel
theorem dX8_partBy_101 : decode cX8_partBy 101 = .ok (.invokestatic 61, 3) := by decide +kernel
theorem dX8_partBy_104 : decode cX8_partBy 104 = .ok (.ifCond .eq 23, 3) := by decide +kernel
theorem dX8_partBy_107 : decode cX8_partBy 107 = .ok (.iload_n 1, 1) := by decide +kernel
theorem dX8_partBy_108 : decode cX8_partBy 108 = .ok (.iload 12, 2) := by decide +kernel
theorem dX8_partBy_110 : decode cX8_partBy 110 = .ok (.invokestatic 61, 3) := by decide +kernel
theorem dX8_partBy_113 : decode cX8_partBy 113 = .ok (.ifCond .eq 14, 3) := by decide +kernel
theorem dX8_partBy_116 : decode cX8_partBy 116 = .ok (.iload 10, 2) := by decide +kernel
theorem dX8_partBy_118 : decode cX8_partBy 118 = .ok (.iload 13, 2) := by decide +kernel
theorem dX8_partBy_120 : decode cX8_partBy 120 = .ok (.if_icmp .ne 7, 3) := by decide +kernel
theorem dX8_partBy_123 : decode cX8_partBy 123 = .ok (.iconst 1, 1) := by decide +kernel
theorem dX8_partBy_124 : decode cX8_partBy 124 = .ok (.goto 4, 3) := by decide +kernel
theorem dX8_partBy_127 : decode cX8_partBy 127 = .ok (.iconst 0, 1) := by decide +kernel
theorem dX8_partBy_128 : decode cX8_partBy 128 = .ok (.iadd, 1) := by decide +kernel
theorem dX8_partBy_129 : decode cX8_partBy 129 = .ok (.istore 11, 2) := by decide +kernel
theorem dX8_partBy_131 : decode cX8_partBy 131 = .ok (.iinc 12 1, 3) := by decide +kernel
theorem dX8_partBy_134 : decode cX8_partBy 134 = .ok (.goto (-70), 3) := by decide +kernel
theorem dX8_partBy_137 : decode cX8_partBy 137 = .ok (.iload 11, 2) := by decide +kernel
theorem dX8_partBy_139 : decode cX8_partBy 139 = .ok (.iload 8, 2) := by decide +kernel
theorem dX8_partBy_141 : decode cX8_partBy 141 = .ok (.if_icmp .le 8, 3) := by decide +kernel
theorem dX8_partBy_144 : decode cX8_partBy 144 = .ok (.iload 11, 2) := by decide +kernel
theorem dX8_partBy_146 : decode cX8_partBy 146 = .ok (.goto 5, 3) := by decide +kernel
theorem dX8_partBy_149 : decode cX8_partBy 149 = .ok (.iload 8, 2) := by decide +kernel
theorem dX8_partBy_151 : decode cX8_partBy 151 = .ok (.istore 8, 2) := by decide +kernel
theorem dX8_partBy_153 : decode cX8_partBy 153 = .ok (.iinc 9 1, 3) := by decide +kernel
theorem dX8_partBy_156 : decode cX8_partBy 156 = .ok (.goto (-130), 3) := by decide +kernel
theorem dX8_partBy_159 : decode cX8_partBy 159 = .ok (.iload 8, 2) := by decide +kernel
theorem dX8_partBy_161 : decode cX8_partBy 161 = .ok (.iload 6, 2) := by decide +kernel
theorem dX8_partBy_163 : decode cX8_partBy 163 = .ok (.if_icmp .ge 8, 3) := by decide +kernel
theorem dX8_partBy_166 : decode cX8_partBy 166 = .ok (.iload 7, 2) := by decide +kernel
theorem dX8_partBy_168 : decode cX8_partBy 168 = .ok (.goto 5, 3) := by decide +kernel
theorem dX8_partBy_171 : decode cX8_partBy 171 = .ok (.iload 5, 2) := by decide +kernel
theorem dX8_partBy_173 : decode cX8_partBy 173 = .ok (.istore 5, 2) := by decide +kernel
theorem dX8_partBy_175 : decode cX8_partBy 175 = .ok (.iload 8, 2) := by decide +kernel
theorem dX8_partBy_177 : decode cX8_partBy 177 = .ok (.iload 6, 2) := by decide +kernel
theorem dX8_partBy_179 : decode cX8_partBy 179 = .ok (.if_icmp .ge 8, 3) := by decide +kernel
theorem dX8_partBy_182 : decode cX8_partBy 182 = .ok (.iload 8, 2) := by decide +kernel
theorem dX8_partBy_184 : decode cX8_partBy 184 = .ok (.goto 5, 3) := by decide +kernel
theorem dX8_partBy_187 : decode cX8_partBy 187 = .ok (.iload 6, 2) := by decide +kernel
theorem dX8_partBy_189 : decode cX8_partBy 189 = .ok (.istore 6, 2) := by decide +kernel
theorem dX8_partBy_191 : decode cX8_partBy 191 = .ok (.iinc 7 1, 3) := by decide +kernel
theorem dX8_partBy_194 : decode cX8_partBy 194 = .ok (.goto (-184), 3) := by decide +kernel
theorem dX8_partBy_197 : decode cX8_partBy 197 = .ok (.iload 5, 2) := by decide +kernel
theorem dX8_partBy_199 : decode cX8_partBy 199 = .ok (.ireturn, 1) := by decide +kernel
theorem dX8_look_0 : decode cX8_look 0 = .ok (.aload_n 0, 1) := by decide +kernel
theorem dX8_look_1 : decode cX8_look 1 = .ok (.iload_n 1, 1) := by decide +kernel
theorem dX8_look_2 : decode cX8_look 2 = .ok (.invokevirtual 164, 3) := by decide +kernel
theorem dX8_look_5 : decode cX8_look 5 = .ok (.ifCond .eq 28, 3) := by decide +kernel
theorem dX8_look_8 : decode cX8_look 8 = .ok (.aload_n 0, 1) := by decide +kernel
theorem dX8_look_9 : decode cX8_look 9 = .ok (.aload_n 0, 1) := by decide +kernel
theorem dX8_look_10 : decode cX8_look 10 = .ok (.iload_n 1, 1) := by decide +kernel
theorem dX8_look_11 : decode cX8_look 11 = .ok (.iconst 1, 1) := by decide +kernel
theorem dX8_look_12 : decode cX8_look 12 = .ok (.invokevirtual 216, 3) := by decide +kernel
theorem dX8_look_15 : decode cX8_look 15 = .ok (.aload_n 0, 1) := by decide +kernel
theorem dX8_look_16 : decode cX8_look 16 = .ok (.getfield 13, 3) := by decide +kernel
theorem dX8_look_19 : decode cX8_look 19 = .ok (.bipush 13, 2) := by decide +kernel
theorem dX8_look_21 : decode cX8_look 21 = .ok (.iload_n 1, 1) := by decide +kernel
theorem dX8_look_22 : decode cX8_look 22 = .ok (.iadd, 1) := by decide +kernel
theorem dX8_look_23 : decode cX8_look 23 = .ok (.iaload, 1) := by decide +kernel
theorem dX8_look_24 : decode cX8_look 24 = .ok (.bipush 60, 2) := by decide +kernel
theorem dX8_look_26 : decode cX8_look 26 = .ok (.iconst 1, 1) := by decide +kernel
theorem dX8_look_27 : decode cX8_look 27 = .ok (.invokevirtual 220, 3) := by decide +kernel
theorem dX8_look_30 : decode cX8_look 30 = .ok (.goto 7, 3) := by decide +kernel
theorem dX8_look_33 : decode cX8_look 33 = .ok (.aload_n 0, 1) := by decide +kernel
theorem dX8_look_34 : decode cX8_look 34 = .ok (.invokevirtual 69, 3) := by decide +kernel
theorem dX8_look_37 : decode cX8_look 37 = .ok (.ireturn, 1) := by decide +kernel
theorem dX8_ask_0 : decode cX8_ask 0 = .ok (.aload_n 0, 1) := by decide +kernel
theorem dX8_ask_1 : decode cX8_ask 1 = .ok (.iload_n 1, 1) := by decide +kernel
theorem dX8_ask_2 : decode cX8_ask 2 = .ok (.invokevirtual 161, 3) := by decide +kernel
theorem dX8_ask_5 : decode cX8_ask 5 = .ok (.ifCond .eq 28, 3) := by decide +kernel
theorem dX8_ask_8 : decode cX8_ask 8 = .ok (.aload_n 0, 1) := by decide +kernel
theorem dX8_ask_9 : decode cX8_ask 9 = .ok (.aload_n 0, 1) := by decide +kernel
theorem dX8_ask_10 : decode cX8_ask 10 = .ok (.iload_n 1, 1) := by decide +kernel
theorem dX8_ask_11 : decode cX8_ask 11 = .ok (.iconst 0, 1) := by decide +kernel
theorem dX8_ask_12 : decode cX8_ask 12 = .ok (.invokevirtual 216, 3) := by decide +kernel
theorem dX8_ask_15 : decode cX8_ask 15 = .ok (.aload_n 0, 1) := by decide +kernel
theorem dX8_ask_16 : decode cX8_ask 16 = .ok (.getfield 13, 3) := by decide +kernel
theorem dX8_ask_19 : decode cX8_ask 19 = .ok (.bipush 27, 2) := by decide +kernel
theorem dX8_ask_21 : decode cX8_ask 21 = .ok (.iload_n 1, 1) := by decide +kernel
theorem dX8_ask_22 : decode cX8_ask 22 = .ok (.iadd, 1) := by decide +kernel
theorem dX8_ask_23 : decode cX8_ask 23 = .ok (.iaload, 1) := by decide +kernel
theorem dX8_ask_24 : decode cX8_ask 24 = .ok (.bipush 99, 2) := by decide +kernel
theorem dX8_ask_26 : decode cX8_ask 26 = .ok (.iconst 0, 1) := by decide +kernel
theorem dX8_ask_27 : decode cX8_ask 27 = .ok (.invokevirtual 220, 3) := by decide +kernel
theorem dX8_ask_30 : decode cX8_ask 30 = .ok (.goto 7, 3) := by decide +kernel
theorem dX8_ask_33 : decode cX8_ask 33 = .ok (.aload_n 0, 1) := by decide +kernel
theorem dX8_ask_34 : decode cX8_ask 34 = .ok (.invokevirtual 69, 3) := by decide +kernel
theorem dX8_ask_37 : decode cX8_ask 37 = .ok (.ireturn, 1) := by decide +kernel
theorem dX8_gets_0 : decode cX8_gets 0 = .ok (.iload_n 0, 1) := by decide +kernel
theorem dX8_gets_1 : decode cX8_gets 1 = .ok (.ifCond .ne 17, 3) := by decide +kernel
theorem dX8_gets_4 : decode cX8_gets 4 = .ok (.iload_n 1, 1) := by decide +kernel
theorem dX8_gets_5 : decode cX8_gets 5 = .ok (.ifCond .eq 11, 3) := by decide +kernel
theorem dX8_gets_8 : decode cX8_gets 8 = .ok (.iload_n 3, 1) := by decide +kernel
theorem dX8_gets_9 : decode cX8_gets 9 = .ok (.ifCond .ne 7, 3) := by decide +kernel
theorem dX8_gets_12 : decode cX8_gets 12 = .ok (.iconst 1, 1) := by decide +kernel
theorem dX8_gets_13 : decode cX8_gets 13 = .ok (.goto 4, 3) := by decide +kernel
theorem dX8_gets_16 : decode cX8_gets 16 = .ok (.iconst 0, 1) := by decide +kernel
theorem dX8_gets_17 : decode cX8_gets 17 = .ok (.ireturn, 1) := by decide +kernel
theorem dX8_gets_18 : decode cX8_gets 18 = .ok (.iload_n 1, 1) := by decide +kernel
theorem dX8_gets_19 : decode cX8_gets 19 = .ok (.ifCond .eq 15, 3) := by decide +kernel
theorem dX8_gets_22 : decode cX8_gets 22 = .ok (.iload 4, 2) := by decide +kernel
theorem dX8_gets_24 : decode cX8_gets 24 = .ok (.ifCond .eq 7, 3) := by decide +kernel
theorem dX8_gets_27 : decode cX8_gets 27 = .ok (.iconst 3, 1) := by decide +kernel
theorem dX8_gets_28 : decode cX8_gets 28 = .ok (.goto 5, 3) := by decide +kernel
theorem dX8_gets_31 : decode cX8_gets 31 = .ok (.bipush (-3), 2) := by decide +kernel
theorem dX8_gets_33 : decode cX8_gets 33 = .ok (.ireturn, 1) := by decide +kernel
theorem dX8_gets_34 : decode cX8_gets 34 = .ok (.iload_n 2, 1) := by decide +kernel
theorem dX8_gets_35 : decode cX8_gets 35 = .ok (.ifCond .eq 7, 3) := by decide +kernel
theorem dX8_gets_38 : decode cX8_gets 38 = .ok (.iconst 5, 1) := by decide +kernel
theorem dX8_gets_39 : decode cX8_gets 39 = .ok (.goto 5, 3) := by decide +kernel
theorem dX8_gets_42 : decode cX8_gets 42 = .ok (.bipush (-2), 2) := by decide +kernel
theorem dX8_gets_44 : decode cX8_gets 44 = .ok (.ireturn, 1) := by decide +kernel
theorem dX8_tries_0 : decode cX8_tries 0 = .ok (.aload_n 0, 1) := by decide +kernel
theorem dX8_tries_1 : decode cX8_tries 1 = .ok (.iload_n 1, 1) := by decide +kernel
theorem dX8_tries_2 : decode cX8_tries 2 = .ok (.invokevirtual 161, 3) := by decide +kernel
theorem dX8_tries_5 : decode cX8_tries 5 = .ok (.ifCond .eq 24, 3) := by decide +kernel
theorem dX8_tries_8 : decode cX8_tries 8 = .ok (.aload_n 0, 1) := by decide +kernel
theorem dX8_tries_9 : decode cX8_tries 9 = .ok (.iload_n 2, 1) := by decide +kernel
theorem dX8_tries_10 : decode cX8_tries 10 = .ok (.invokevirtual 161, 3) := by decide +kernel
theorem dX8_tries_13 : decode cX8_tries 13 = .ok (.ifCond .eq 16, 3) := by decide +kernel
theorem dX8_tries_16 : decode cX8_tries 16 = .ok (.iload_n 1, 1) := by decide +kernel
theorem dX8_tries_17 : decode cX8_tries 17 = .ok (.iload_n 2, 1) := by decide +kernel
theorem dX8_tries_18 : decode cX8_tries 18 = .ok (.if_icmp .eq 11, 3) := by decide +kernel
theorem dX8_tries_21 : decode cX8_tries 21 = .ok (.aload_n 0, 1) := by decide +kernel
theorem dX8_tries_22 : decode cX8_tries 22 = .ok (.iload_n 3, 1) := by decide +kernel
theorem dX8_tries_23 : decode cX8_tries 23 = .ok (.invokevirtual 164, 3) := by decide +kernel
theorem dX8_tries_26 : decode cX8_tries 26 = .ok (.ifCond .ne 8, 3) := by decide +kernel
theorem dX8_tries_29 : decode cX8_tries 29 = .ok (.aload_n 0, 1) := by decide +kernel
theorem dX8_tries_30 : decode cX8_tries 30 = .ok (.invokevirtual 69, 3) := by decide +kernel
theorem dX8_tries_33 : decode cX8_tries 33 = .ok (.ireturn, 1) := by decide +kernel
theorem dX8_tries_34 : decode cX8_tries 34 = .ok (.aload_n 0, 1) := by decide +kernel
theorem dX8_tries_35 : decode cX8_tries 35 = .ok (.iload_n 3, 1) := by decide +kernel
theorem dX8_tries_36 : decode cX8_tries 36 = .ok (.iconst 0, 1) := by decide +kernel
theorem dX8_tries_37 : decode cX8_tries 37 = .ok (.invokevirtual 193, 3) := by decide +kernel
theorem dX8_tries_40 : decode cX8_tries 40 = .ok (.istore 4, 2) := by decide +kernel
theorem dX8_tries_42 : decode cX8_tries 42 = .ok (.aload_n 0, 1) := by decide +kernel
theorem dX8_tries_43 : decode cX8_tries 43 = .ok (.iload_n 1, 1) := by decide +kernel
theorem dX8_tries_44 : decode cX8_tries 44 = .ok (.iconst 0, 1) := by decide +kernel
theorem dX8_tries_45 : decode cX8_tries 45 = .ok (.invokevirtual 190, 3) := by decide +kernel
theorem dX8_tries_48 : decode cX8_tries 48 = .ok (.iload 4, 2) := by decide +kernel
theorem dX8_tries_50 : decode cX8_tries 50 = .ok (.if_icmp .lt 7, 3) := by decide +kernel
theorem dX8_tries_53 : decode cX8_tries 53 = .ok (.iconst 1, 1) := by decide +kernel
theorem dX8_tries_54 : decode cX8_tries 54 = .ok (.goto 4, 3) := by decide +kernel
theorem dX8_tries_57 : decode cX8_tries 57 = .ok (.iconst 0, 1) := by decide +kernel
theorem dX8_tries_58 : decode cX8_tries 58 = .ok (.istore 5, 2) := by decide +kernel
theorem dX8_tries_60 : decode cX8_tries 60 = .ok (.aload_n 0, 1) := by decide +kernel
theorem dX8_tries_61 : decode cX8_tries 61 = .ok (.iload_n 2, 1) := by decide +kernel
theorem dX8_tries_62 : decode cX8_tries 62 = .ok (.iconst 0, 1) := by decide +kernel
theorem dX8_tries_63 : decode cX8_tries 63 = .ok (.invokevirtual 190, 3) := by decide +kernel
theorem dX8_tries_66 : decode cX8_tries 66 = .ok (.iload 4, 2) := by decide +kernel
theorem dX8_tries_68 : decode cX8_tries 68 = .ok (.if_icmp .lt 7, 3) := by decide +kernel
theorem dX8_tries_71 : decode cX8_tries 71 = .ok (.iconst 1, 1) := by decide +kernel
theorem dX8_tries_72 : decode cX8_tries 72 = .ok (.goto 4, 3) := by decide +kernel
theorem dX8_tries_75 : decode cX8_tries 75 = .ok (.iconst 0, 1) := by decide +kernel
theorem dX8_tries_76 : decode cX8_tries 76 = .ok (.istore 6, 2) := by decide +kernel
theorem dX8_tries_78 : decode cX8_tries 78 = .ok (.aload_n 0, 1) := by decide +kernel
theorem dX8_tries_79 : decode cX8_tries 79 = .ok (.iload_n 1, 1) := by decide +kernel
theorem dX8_tries_80 : decode cX8_tries 80 = .ok (.iconst 0, 1) := by decide +kernel
theorem dX8_tries_81 : decode cX8_tries 81 = .ok (.invokevirtual 190, 3) := by decide +kernel
theorem dX8_tries_84 : decode cX8_tries 84 = .ok (.aload_n 0, 1) := by decide +kernel
theorem dX8_tries_85 : decode cX8_tries 85 = .ok (.iload_n 2, 1) := by decide +kernel
theorem dX8_tries_86 : decode cX8_tries 86 = .ok (.iconst 0, 1) := by decide +kernel
theorem dX8_tries_87 : decode cX8_tries 87 = .ok (.invokevirtual 190, 3) := by decide +kernel
theorem dX8_tries_90 : decode cX8_tries 90 = .ok (.iadd, 1) := by decide +kernel
theorem dX8_tries_91 : decode cX8_tries 91 = .ok (.iload 4, 2) := by decide +kernel
theorem dX8_tries_93 : decode cX8_tries 93 = .ok (.if_icmp .lt 7, 3) := by decide +kernel
theorem dX8_tries_96 : decode cX8_tries 96 = .ok (.iconst 1, 1) := by decide +kernel
theorem dX8_tries_97 : decode cX8_tries 97 = .ok (.goto 4, 3) := by decide +kernel
theorem dX8_tries_100 : decode cX8_tries 100 = .ok (.iconst 0, 1) := by decide +kernel
theorem dX8_tries_101 : decode cX8_tries 101 = .ok (.istore 7, 2) := by decide +kernel
theorem dX8_tries_103 : decode cX8_tries 103 = .ok (.iconst 0, 1) := by decide +kernel
theorem dX8_tries_104 : decode cX8_tries 104 = .ok (.istore 8, 2) := by decide +kernel
theorem dX8_tries_106 : decode cX8_tries 106 = .ok (.iconst 0, 1) := by decide +kernel
theorem dX8_tries_107 : decode cX8_tries 107 = .ok (.istore 9, 2) := by decide +kernel
theorem dX8_tries_109 : decode cX8_tries 109 = .ok (.iload 9, 2) := by decide +kernel
theorem dX8_tries_111 : decode cX8_tries 111 = .ok (.iconst 4, 1) := by decide +kernel
theorem dX8_tries_112 : decode cX8_tries 112 = .ok (.if_icmp .ge 136, 3) := by decide +kernel
theorem dX8_tries_115 : decode cX8_tries 115 = .ok (.iload 9, 2) := by decide +kernel
theorem dX8_tries_117 : decode cX8_tries 117 = .ok (.iconst 0, 1) := by decide +kernel
theorem dX8_tries_118 : decode cX8_tries 118 = .ok (.invokestatic 61, 3) := by decide +kernel
theorem dX8_tries_121 : decode cX8_tries 121 = .ok (.istore 10, 2) := by decide +kernel
theorem dX8_tries_123 : decode cX8_tries 123 = .ok (.iload 9, 2) := by decide +kernel
theorem dX8_tries_125 : decode cX8_tries 125 = .ok (.iconst 1, 1) := by decide +kernel
theorem dX8_tries_126 : decode cX8_tries 126 = .ok (.invokestatic 61, 3) := by decide +kernel
theorem dX8_tries_129 : decode cX8_tries 129 = .ok (.istore 11, 2) := by decide +kernel
theorem dX8_tries_131 : decode cX8_tries 131 = .ok (.iload 10, 2) := by decide +kernel
theorem dX8_tries_133 : decode cX8_tries 133 = .ok (.iload 11, 2) := by decide +kernel
theorem dX8_tries_135 : decode cX8_tries 135 = .ok (.iload 5, 2) := by decide +kernel
theorem dX8_tries_137 : decode cX8_tries 137 = .ok (.iload 6, 2) := by decide +kernel
theorem dX8_tries_139 : decode cX8_tries 139 = .ok (.iload 7, 2) := by decide +kernel
theorem dX8_tries_141 : decode cX8_tries 141 = .ok (.invokestatic 224, 3) := by decide +kernel
theorem dX8_tries_144 : decode cX8_tries 144 = .ok (.iload 10, 2) := by decide +kernel
theorem dX8_tries_146 : decode cX8_tries 146 = .ok (.ifCond .ne 7, 3) := by decide +kernel
theorem dX8_tries_149 : decode cX8_tries 149 = .ok (.iconst 1, 1) := by decide +kernel
theorem dX8_tries_150 : decode cX8_tries 150 = .ok (.goto 4, 3) := by decide +kernel
theorem dX8_tries_153 : decode cX8_tries 153 = .ok (.iconst 0, 1) := by decide +kernel
theorem dX8_tries_154 : decode cX8_tries 154 = .ok (.iload 11, 2) := by decide +kernel
theorem dX8_tries_156 : decode cX8_tries 156 = .ok (.iload 5, 2) := by decide +kernel
theorem dX8_tries_158 : decode cX8_tries 158 = .ok (.iload 6, 2) := by decide +kernel
theorem dX8_tries_160 : decode cX8_tries 160 = .ok (.iload 7, 2) := by decide +kernel
theorem dX8_tries_162 : decode cX8_tries 162 = .ok (.invokestatic 224, 3) := by decide +kernel
theorem dX8_tries_165 : decode cX8_tries 165 = .ok (.if_icmp .lt 7, 3) := by decide +kernel
theorem dX8_tries_168 : decode cX8_tries 168 = .ok (.iconst 1, 1) := by decide +kernel
theorem dX8_tries_169 : decode cX8_tries 169 = .ok (.goto 4, 3) := by decide +kernel
theorem dX8_tries_172 : decode cX8_tries 172 = .ok (.iconst 0, 1) := by decide +kernel
theorem dX8_tries_173 : decode cX8_tries 173 = .ok (.istore 12, 2) := by decide +kernel
theorem dX8_tries_175 : decode cX8_tries 175 = .ok (.iload 12, 2) := by decide +kernel
theorem dX8_tries_177 : decode cX8_tries 177 = .ok (.ifCond .eq 44, 3) := by decide +kernel
theorem dX8_tries_180 : decode cX8_tries 180 = .ok (.iload 11, 2) := by decide +kernel
theorem dX8_tries_182 : decode cX8_tries 182 = .ok (.iload 10, 2) := by decide +kernel
theorem dX8_tries_184 : decode cX8_tries 184 = .ok (.iload 6, 2) := by decide +kernel
theorem dX8_tries_186 : decode cX8_tries 186 = .ok (.iload 5, 2) := by decide +kernel
theorem dX8_tries_188 : decode cX8_tries 188 = .ok (.iload 7, 2) := by decide +kernel
theorem dX8_tries_190 : decode cX8_tries 190 = .ok (.invokestatic 224, 3) := by decide +kernel
theorem dX8_tries_193 : decode cX8_tries 193 = .ok (.iload 11, 2) := by decide +kernel
theorem dX8_tries_195 : decode cX8_tries 195 = .ok (.ifCond .ne 7, 3) := by decide +kernel
theorem dX8_tries_198 : decode cX8_tries 198 = .ok (.iconst 1, 1) := by decide +kernel
theorem dX8_tries_199 : decode cX8_tries 199 = .ok (.goto 4, 3) := by decide +kernel
theorem dX8_tries_202 : decode cX8_tries 202 = .ok (.iconst 0, 1) := by decide +kernel
theorem dX8_tries_203 : decode cX8_tries 203 = .ok (.iload 10, 2) := by decide +kernel
theorem dX8_tries_205 : decode cX8_tries 205 = .ok (.iload 6, 2) := by decide +kernel
theorem dX8_tries_207 : decode cX8_tries 207 = .ok (.iload 5, 2) := by decide +kernel
theorem dX8_tries_209 : decode cX8_tries 209 = .ok (.iload 7, 2) := by decide +kernel
theorem dX8_tries_211 : decode cX8_tries 211 = .ok (.invokestatic 224, 3) := by decide +kernel
theorem dX8_tries_214 : decode cX8_tries 214 = .ok (.if_icmp .lt 7, 3) := by decide +kernel
theorem dX8_tries_217 : decode cX8_tries 217 = .ok (.iconst 1, 1) := by decide +kernel
theorem dX8_tries_218 : decode cX8_tries 218 = .ok (.goto 4, 3) := by decide +kernel
theorem dX8_tries_221 : decode cX8_tries 221 = .ok (.iconst 0, 1) := by decide +kernel
theorem dX8_tries_222 : decode cX8_tries 222 = .ok (.istore 12, 2) := by decide +kernel
theorem dX8_tries_224 : decode cX8_tries 224 = .ok (.iload 8, 2) := by decide +kernel
theorem dX8_tries_226 : decode cX8_tries 226 = .ok (.iload 12, 2) := by decide +kernel
theorem dX8_tries_228 : decode cX8_tries 228 = .ok (.ifCond .eq 10, 3) := by decide +kernel
theorem dX8_tries_231 : decode cX8_tries 231 = .ok (.iconst 1, 1) := by decide +kernel
theorem dX8_tries_232 : decode cX8_tries 232 = .ok (.iload 9, 2) := by decide +kernel
theorem dX8_tries_234 : decode cX8_tries 234 = .ok (.ishl, 1) := by decide +kernel
theorem dX8_tries_235 : decode cX8_tries 235 = .ok (.goto 4, 3) := by decide +kernel
theorem dX8_tries_238 : decode cX8_tries 238 = .ok (.iconst 0, 1) := by decide +kernel
theorem dX8_tries_239 : decode cX8_tries 239 = .ok (.ior, 1) := by decide +kernel
theorem dX8_tries_240 : decode cX8_tries 240 = .ok (.istore 8, 2) := by decide +kernel
theorem dX8_tries_242 : decode cX8_tries 242 = .ok (.iinc 9 1, 3) := by decide +kernel
theorem dX8_tries_245 : decode cX8_tries 245 = .ok (.goto (-136), 3) := by decide +kernel
theorem dX8_tries_248 : decode cX8_tries 248 = .ok (.iload 8, 2) := by decide +kernel
theorem dX8_tries_250 : decode cX8_tries 250 = .ok (.ireturn, 1) := by decide +kernel
theorem dX8_fraction_0 : decode cX8_fraction 0 = .ok (.lload_n 1, 1) := by decide +kernel
theorem dX8_fraction_1 : decode cX8_fraction 1 = .ok (.lstore 5, 2) := by decide +kernel
theorem dX8_fraction_3 : decode cX8_fraction 3 = .ok (.lload_n 3, 1) := by decide +kernel
theorem dX8_fraction_4 : decode cX8_fraction 4 = .ok (.lstore 7, 2) := by decide +kernel
theorem dX8_fraction_6 : decode cX8_fraction 6 = .ok (.lload 7, 2) := by decide +kernel
theorem dX8_fraction_8 : decode cX8_fraction 8 = .ok (.lconst 0, 1) := by decide +kernel
theorem dX8_fraction_9 : decode cX8_fraction 9 = .ok (.lcmp, 1) := by decide +kernel
theorem dX8_fraction_10 : decode cX8_fraction 10 = .ok (.ifCond .eq 21, 3) := by decide +kernel
theorem dX8_fraction_13 : decode cX8_fraction 13 = .ok (.lload 5, 2) := by decide +kernel
theorem dX8_fraction_15 : decode cX8_fraction 15 = .ok (.lload 7, 2) := by decide +kernel
theorem dX8_fraction_17 : decode cX8_fraction 17 = .ok (.lrem, 1) := by decide +kernel
theorem dX8_fraction_18 : decode cX8_fraction 18 = .ok (.lstore 9, 2) := by decide +kernel
theorem dX8_fraction_20 : decode cX8_fraction 20 = .ok (.lload 7, 2) := by decide +kernel
theorem dX8_fraction_22 : decode cX8_fraction 22 = .ok (.lstore 5, 2) := by decide +kernel
theorem dX8_fraction_24 : decode cX8_fraction 24 = .ok (.lload 9, 2) := by decide +kernel
theorem dX8_fraction_26 : decode cX8_fraction 26 = .ok (.lstore 7, 2) := by decide +kernel
theorem dX8_fraction_28 : decode cX8_fraction 28 = .ok (.goto (-22), 3) := by decide +kernel
theorem dX8_fraction_31 : decode cX8_fraction 31 = .ok (.aload_n 0, 1) := by decide +kernel
theorem dX8_fraction_32 : decode cX8_fraction 32 = .ok (.lload_n 1, 1) := by decide +kernel
theorem dX8_fraction_33 : decode cX8_fraction 33 = .ok (.lload 5, 2) := by decide +kernel
theorem dX8_fraction_35 : decode cX8_fraction 35 = .ok (.ldiv, 1) := by decide +kernel
theorem dX8_fraction_36 : decode cX8_fraction 36 = .ok (.putfield 228, 3) := by decide +kernel
theorem dX8_fraction_39 : decode cX8_fraction 39 = .ok (.aload_n 0, 1) := by decide +kernel
theorem dX8_fraction_40 : decode cX8_fraction 40 = .ok (.lload_n 3, 1) := by decide +kernel
theorem dX8_fraction_41 : decode cX8_fraction 41 = .ok (.lload 5, 2) := by decide +kernel
theorem dX8_fraction_43 : decode cX8_fraction 43 = .ok (.ldiv, 1) := by decide +kernel
theorem dX8_fraction_44 : decode cX8_fraction 44 = .ok (.putfield 36, 3) := by decide +kernel
theorem dX8_fraction_47 : decode cX8_fraction 47 = .ok (.return_, 1) := by decide +kernel
theorem dX8_shout_0 : decode cX8_shout 0 = .ok (.aload_n 0, 1) := by decide +kernel
theorem dX8_shout_1 : decode cX8_shout 1 = .ok (.iload_n 1, 1) := by decide +kernel
theorem dX8_shout_2 : decode cX8_shout 2 = .ok (.invokevirtual 161, 3) := by decide +kernel
theorem dX8_shout_5 : decode cX8_shout 5 = .ok (.ifCond .eq 23, 3) := by decide +kernel
theorem dX8_shout_8 : decode cX8_shout 8 = .ok (.iload_n 2, 1) := by decide +kernel
theorem dX8_shout_9 : decode cX8_shout 9 = .ok (.iconst 0, 1) := by decide +kernel
theorem dX8_shout_10 : decode cX8_shout 10 = .ok (.bipush 6, 2) := by decide +kernel
theorem dX8_shout_12 : decode cX8_shout 12 = .ok (.invokestatic 44, 3) := by decide +kernel
theorem dX8_shout_15 : decode cX8_shout 15 = .ok (.ifCond .eq 13, 3) := by decide +kernel
theorem dX8_shout_18 : decode cX8_shout 18 = .ok (.iload_n 3, 1) := by decide +kernel
theorem dX8_shout_19 : decode cX8_shout 19 = .ok (.iconst 0, 1) := by decide +kernel
theorem dX8_shout_20 : decode cX8_shout 20 = .ok (.bipush 10, 2) := by decide +kernel
theorem dX8_shout_22 : decode cX8_shout 22 = .ok (.invokestatic 44, 3) := by decide +kernel
theorem dX8_shout_25 : decode cX8_shout 25 = .ok (.ifCond .ne 8, 3) := by decide +kernel
theorem dX8_shout_28 : decode cX8_shout 28 = .ok (.aload_n 0, 1) := by decide +kernel
theorem dX8_shout_29 : decode cX8_shout 29 = .ok (.invokevirtual 69, 3) := by decide +kernel
theorem dX8_shout_32 : decode cX8_shout 32 = .ok (.ireturn, 1) := by decide +kernel
theorem dX8_shout_33 : decode cX8_shout 33 = .ok (.aload_n 0, 1) := by decide +kernel
theorem dX8_shout_34 : decode cX8_shout 34 = .ok (.iload_n 1, 1) := by decide +kernel
theorem dX8_shout_35 : decode cX8_shout 35 = .ok (.invokevirtual 167, 3) := by decide +kernel
theorem dX8_shout_38 : decode cX8_shout 38 = .ok (.ifCond .eq 8, 3) := by decide +kernel
theorem dX8_shout_41 : decode cX8_shout 41 = .ok (.aload_n 0, 1) := by decide +kernel
theorem dX8_shout_42 : decode cX8_shout 42 = .ok (.invokevirtual 170, 3) := by decide +kernel
theorem dX8_shout_45 : decode cX8_shout 45 = .ok (.ireturn, 1) := by decide +kernel
theorem dX8_shout_46 : decode cX8_shout 46 = .ok (.aload_n 0, 1) := by decide +kernel
theorem dX8_shout_47 : decode cX8_shout 47 = .ok (.getfield 13, 3) := by decide +kernel
theorem dX8_shout_50 : decode cX8_shout 50 = .ok (.bipush 43, 2) := by decide +kernel
theorem dX8_shout_52 : decode cX8_shout 52 = .ok (.iload_n 1, 1) := by decide +kernel
theorem dX8_shout_53 : decode cX8_shout 53 = .ok (.iadd, 1) := by decide +kernel
theorem dX8_shout_54 : decode cX8_shout 54 = .ok (.iaload, 1) := by decide +kernel
theorem dX8_shout_55 : decode cX8_shout 55 = .ok (.istore 4, 2) := by decide +kernel
theorem dX8_shout_57 : decode cX8_shout 57 = .ok (.lconst 1, 1) := by decide +kernel
theorem dX8_shout_58 : decode cX8_shout 58 = .ok (.lstore 5, 2) := by decide +kernel
theorem dX8_shout_60 : decode cX8_shout 60 = .ok (.lconst 1, 1) := by decide +kernel
theorem dX8_shout_61 : decode cX8_shout 61 = .ok (.lstore 7, 2) := by decide +kernel
theorem dX8_shout_63 : decode cX8_shout 63 = .ok (.iconst 0, 1) := by decide +kernel
theorem dX8_shout_64 : decode cX8_shout 64 = .ok (.istore 9, 2) := by decide +kernel
theorem dX8_shout_66 : decode cX8_shout 66 = .ok (.iload 9, 2) := by decide +kernel
theorem dX8_shout_68 : decode cX8_shout 68 = .ok (.iload_n 2, 1) := by decide +kernel
theorem dX8_shout_69 : decode cX8_shout 69 = .ok (.if_icmp .ge 77, 3) := by decide +kernel
theorem dX8_shout_72 : decode cX8_shout 72 = .ok (.iload 4, 2) := by decide +kernel
theorem dX8_shout_74 : decode cX8_shout 74 = .ok (.iconst (-1), 1) := by decide +kernel
theorem dX8_shout_75 : decode cX8_shout 75 = .ok (.if_icmp .ne 7, 3) := by decide +kernel
theorem dX8_shout_78 : decode cX8_shout 78 = .ok (.iconst 0, 1) := by decide +kernel
theorem dX8_shout_79 : decode cX8_shout 79 = .ok (.goto 19, 3) := by decide +kernel
theorem dX8_shout_82 : decode cX8_shout 82 = .ok (.aload_n 0, 1) := by decide +kernel
theorem dX8_shout_83 : decode cX8_shout 83 = .ok (.iload 4, 2) := by decide +kernel
theorem dX8_shout_85 : decode cX8_shout 85 = .ok (.iload 9, 2) := by decide +kernel
theorem dX8_shout_87 : decode cX8_shout 87 = .ok (.invokevirtual 193, 3) := by decide +kernel
theorem dX8_shout_90 : decode cX8_shout 90 = .ok (.aload_n 0, 1) := by decide +kernel
theorem dX8_shout_91 : decode cX8_shout 91 = .ok (.iload_n 1, 1) := by decide +kernel
theorem dX8_shout_92 : decode cX8_shout 92 = .ok (.iload 9, 2) := by decide +kernel
theorem dX8_shout_94 : decode cX8_shout 94 = .ok (.invokevirtual 190, 3) := by decide +kernel
theorem dX8_shout_97 : decode cX8_shout 97 = .ok (.isub, 1) := by decide +kernel
theorem dX8_shout_98 : decode cX8_shout 98 = .ok (.istore 10, 2) := by decide +kernel
theorem dX8_shout_100 : decode cX8_shout 100 = .ok (.lload 5, 2) := by decide +kernel
theorem dX8_shout_102 : decode cX8_shout 102 = .ok (.iload 10, 2) := by decide +kernel
theorem dX8_shout_104 : decode cX8_shout 104 = .ok (.iconst 5, 1) := by decide +kernel
theorem dX8_shout_105 : decode cX8_shout 105 = .ok (.if_icmp .le 9, 3) := by decide +kernel
theorem dX8_shout_108 : decode cX8_shout 108 = .ok (.ldc2_w 231, 3) := by decide +kernel
theorem dX8_shout_111 : decode cX8_shout 111 = .ok (.goto 18, 3) := by decide +kernel
theorem dX8_shout_114 : decode cX8_shout 114 = .ok (.iload 10, 2) := by decide +kernel
theorem dX8_shout_116 : decode cX8_shout 116 = .ok (.ifCond .le 12, 3) := by decide +kernel
theorem dX8_shout_119 : decode cX8_shout 119 = .ok (.ldc2_w 231, 3) := by decide +kernel
theorem dX8_shout_122 : decode cX8_shout 122 = .ok (.iload_n 3, 1) := by decide +kernel
theorem dX8_shout_123 : decode cX8_shout 123 = .ok (.i2l, 1) := by decide +kernel
theorem dX8_shout_124 : decode cX8_shout 124 = .ok (.lsub, 1) := by decide +kernel
theorem dX8_shout_125 : decode cX8_shout 125 = .ok (.goto 4, 3) := by decide +kernel
theorem dX8_shout_128 : decode cX8_shout 128 = .ok (.lconst 0, 1) := by decide +kernel
theorem dX8_shout_129 : decode cX8_shout 129 = .ok (.lmul, 1) := by decide +kernel
theorem dX8_shout_130 : decode cX8_shout 130 = .ok (.lstore 5, 2) := by decide +kernel
theorem dX8_shout_132 : decode cX8_shout 132 = .ok (.lload 7, 2) := by decide +kernel
theorem dX8_shout_134 : decode cX8_shout 134 = .ok (.ldc2_w 231, 3) := by decide +kernel
theorem dX8_shout_137 : decode cX8_shout 137 = .ok (.lmul, 1) := by decide +kernel
theorem dX8_shout_138 : decode cX8_shout 138 = .ok (.lstore 7, 2) := by decide +kernel
theorem dX8_shout_140 : decode cX8_shout 140 = .ok (.iinc 9 1, 3) := by decide +kernel
theorem dX8_shout_143 : decode cX8_shout 143 = .ok (.goto (-77), 3) := by decide +kernel
theorem dX8_shout_146 : decode cX8_shout 146 = .ok (.aload_n 0, 1) := by decide +kernel
theorem dX8_shout_147 : decode cX8_shout 147 = .ok (.lload 5, 2) := by decide +kernel
theorem dX8_shout_149 : decode cX8_shout 149 = .ok (.lload 7, 2) := by decide +kernel
theorem dX8_shout_151 : decode cX8_shout 151 = .ok (.invokevirtual 233, 3) := by decide +kernel
theorem dX8_shout_154 : decode cX8_shout 154 = .ok (.iconst 1, 1) := by decide +kernel
theorem dX8_shout_155 : decode cX8_shout 155 = .ok (.ireturn, 1) := by decide +kernel
theorem dX8_centuries_0 : decode cX8_centuries 0 = .ok (.iload_n 1, 1) := by decide +kernel
theorem dX8_centuries_1 : decode cX8_centuries 1 = .ok (.iconst 0, 1) := by decide +kernel
theorem dX8_centuries_2 : decode cX8_centuries 2 = .ok (.ldc 237, 2) := by decide +kernel
theorem dX8_centuries_4 : decode cX8_centuries 4 = .ok (.invokestatic 44, 3) := by decide +kernel
theorem dX8_centuries_7 : decode cX8_centuries 7 = .ok (.ifCond .eq 13, 3) := by decide +kernel
theorem dX8_centuries_10 : decode cX8_centuries 10 = .ok (.iload_n 2, 1) := by decide +kernel
theorem dX8_centuries_11 : decode cX8_centuries 11 = .ok (.iconst 0, 1) := by decide +kernel
theorem dX8_centuries_12 : decode cX8_centuries 12 = .ok (.bipush 60, 2) := by decide +kernel
theorem dX8_centuries_14 : decode cX8_centuries 14 = .ok (.invokestatic 44, 3) := by decide +kernel
theorem dX8_centuries_17 : decode cX8_centuries 17 = .ok (.ifCond .ne 8, 3) := by decide +kernel
theorem dX8_centuries_20 : decode cX8_centuries 20 = .ok (.aload_n 0, 1) := by decide +kernel
theorem dX8_centuries_21 : decode cX8_centuries 21 = .ok (.invokevirtual 69, 3) := by decide +kernel
theorem dX8_centuries_24 : decode cX8_centuries 24 = .ok (.ireturn, 1) := by decide +kernel
theorem dX8_centuries_25 : decode cX8_centuries 25 = .ok (.aload_n 0, 1) := by decide +kernel
theorem dX8_centuries_26 : decode cX8_centuries 26 = .ok (.invokevirtual 196, 3) := by decide +kernel
theorem dX8_centuries_29 : decode cX8_centuries 29 = .ok (.iload_n 1, 1) := by decide +kernel
theorem dX8_centuries_30 : decode cX8_centuries 30 = .ok (.i2l, 1) := by decide +kernel
theorem dX8_centuries_31 : decode cX8_centuries 31 = .ok (.lstore_n 3, 1) := by decide +kernel
theorem dX8_centuries_32 : decode cX8_centuries 32 = .ok (.iconst 0, 1) := by decide +kernel
theorem dX8_centuries_33 : decode cX8_centuries 33 = .ok (.istore 5, 2) := by decide +kernel
theorem dX8_centuries_35 : decode cX8_centuries 35 = .ok (.iload 5, 2) := by decide +kernel
theorem dX8_centuries_37 : decode cX8_centuries 37 = .ok (.iload_n 2, 1) := by decide +kernel
theorem dX8_centuries_38 : decode cX8_centuries 38 = .ok (.if_icmp .ge 143, 3) := by decide +kernel
theorem dX8_centuries_41 : decode cX8_centuries 41 = .ok (.lload_n 3, 1) := by decide +kernel
theorem dX8_centuries_42 : decode cX8_centuries 42 = .ok (.ldc2_w 238, 3) := by decide +kernel
theorem dX8_centuries_45 : decode cX8_centuries 45 = .ok (.lmul, 1) := by decide +kernel
theorem dX8_centuries_46 : decode cX8_centuries 46 = .ok (.ldc2_w 240, 3) := by decide +kernel
theorem dX8_centuries_49 : decode cX8_centuries 49 = .ok (.ladd, 1) := by decide +kernel
theorem dX8_centuries_50 : decode cX8_centuries 50 = .ok (.ldc2_w 242, 3) := by decide +kernel
theorem dX8_centuries_53 : decode cX8_centuries 53 = .ok (.lrem, 1) := by decide +kernel
theorem dX8_centuries_54 : decode cX8_centuries 54 = .ok (.lstore_n 3, 1) := by decide +kernel
theorem dX8_centuries_55 : decode cX8_centuries 55 = .ok (.lload_n 3, 1) := by decide +kernel
theorem dX8_centuries_56 : decode cX8_centuries 56 = .ok (.ldc2_w 244, 3) := by decide +kernel
theorem dX8_centuries_59 : decode cX8_centuries 59 = .ok (.ldiv, 1) := by decide +kernel
theorem dX8_centuries_60 : decode cX8_centuries 60 = .ok (.ldc2_w 246, 3) := by decide +kernel
theorem dX8_centuries_63 : decode cX8_centuries 63 = .ok (.lrem, 1) := by decide +kernel
theorem dX8_centuries_64 : decode cX8_centuries 64 = .ok (.l2i, 1) := by decide +kernel
theorem dX8_centuries_65 : decode cX8_centuries 65 = .ok (.istore 6, 2) := by decide +kernel
theorem dX8_centuries_67 : decode cX8_centuries 67 = .ok (.lload_n 3, 1) := by decide +kernel
theorem dX8_centuries_68 : decode cX8_centuries 68 = .ok (.ldc2_w 248, 3) := by decide +kernel
theorem dX8_centuries_71 : decode cX8_centuries 71 = .ok (.ldiv, 1) := by decide +kernel
theorem dX8_centuries_72 : decode cX8_centuries 72 = .ok (.ldc2_w 246, 3) := by decide +kernel
theorem dX8_centuries_75 : decode cX8_centuries 75 = .ok (.lrem, 1) := by decide +kernel
theorem dX8_centuries_76 : decode cX8_centuries 76 = .ok (.l2i, 1) := by decide +kernel
theorem dX8_centuries_77 : decode cX8_centuries 77 = .ok (.istore 7, 2) := by decide +kernel
theorem dX8_centuries_79 : decode cX8_centuries 79 = .ok (.aload_n 0, 1) := by decide +kernel
theorem dX8_centuries_80 : decode cX8_centuries 80 = .ok (.iload 6, 2) := by decide +kernel
theorem dX8_centuries_82 : decode cX8_centuries 82 = .ok (.invokevirtual 161, 3) := by decide +kernel
theorem dX8_centuries_85 : decode cX8_centuries 85 = .ok (.ifCond .eq 44, 3) := by decide +kernel
theorem dX8_centuries_88 : decode cX8_centuries 88 = .ok (.aload_n 0, 1) := by decide +kernel
theorem dX8_centuries_89 : decode cX8_centuries 89 = .ok (.iload 7, 2) := by decide +kernel
theorem dX8_centuries_91 : decode cX8_centuries 91 = .ok (.invokevirtual 164, 3) := by decide +kernel
theorem dX8_centuries_94 : decode cX8_centuries 94 = .ok (.ifCond .eq 35, 3) := by decide +kernel
theorem dX8_centuries_97 : decode cX8_centuries 97 = .ok (.aload_n 0, 1) := by decide +kernel
theorem dX8_centuries_98 : decode cX8_centuries 98 = .ok (.getfield 20, 3) := by decide +kernel
theorem dX8_centuries_101 : decode cX8_centuries 101 = .ok (.iconst 1, 1) := by decide +kernel
theorem dX8_centuries_102 : decode cX8_centuries 102 = .ok (.iaload, 1) := by decide +kernel
theorem dX8_centuries_103 : decode cX8_centuries 103 = .ok (.iload 6, 2) := by decide +kernel
theorem dX8_centuries_105 : decode cX8_centuries 105 = .ok (.invokestatic 61, 3) := by decide +kernel
theorem dX8_centuries_108 : decode cX8_centuries 108 = .ok (.ifCond .ne 21, 3) := by decide +kernel
theorem dX8_centuries_111 : decode cX8_centuries 111 = .ok (.aload_n 0, 1) := by decide +kernel
theorem dX8_centuries_112 : decode cX8_centuries 112 = .ok (.getfield 20, 3) := by decide +kernel
theorem dX8_centuries_115 : decode cX8_centuries 115 = .ok (.bipush 9, 2) := by decide +kernel
theorem dX8_centuries_117 : decode cX8_centuries 117 = .ok (.iload 6, 2) := by decide +kernel
theorem dX8_centuries_119 : decode cX8_centuries 119 = .ok (.iadd, 1) := by decide +kernel
theorem dX8_centuries_120 : decode cX8_centuries 120 = .ok (.iaload, 1) := by decide +kernel
theorem dX8_centuries_121 : decode cX8_centuries 121 = .ok (.iconst (-1), 1) := by decide +kernel
theorem dX8_centuries_122 : decode cX8_centuries 122 = .ok (.if_icmp .ne 7, 3) := by decide +kernel
theorem dX8_centuries_125 : decode cX8_centuries 125 = .ok (.iconst 1, 1) := by decide +kernel
theorem dX8_centuries_126 : decode cX8_centuries 126 = .ok (.goto 4, 3) := by decide +kernel
theorem dX8_centuries_129 : decode cX8_centuries 129 = .ok (.iconst 0, 1) := by decide +kernel
theorem dX8_centuries_130 : decode cX8_centuries 130 = .ok (.istore 8, 2) := by decide +kernel
theorem dX8_centuries_132 : decode cX8_centuries 132 = .ok (.iload 8, 2) := by decide +kernel
theorem dX8_centuries_134 : decode cX8_centuries 134 = .ok (.ifCond .eq 31, 3) := by decide +kernel
theorem dX8_centuries_137 : decode cX8_centuries 137 = .ok (.aload_n 0, 1) := by decide +kernel
theorem dX8_centuries_138 : decode cX8_centuries 138 = .ok (.iconst 0, 1) := by decide +kernel
theorem dX8_centuries_139 : decode cX8_centuries 139 = .ok (.aload_n 0, 1) := by decide +kernel
theorem dX8_centuries_140 : decode cX8_centuries 140 = .ok (.getfield 20, 3) := by decide +kernel
theorem dX8_centuries_143 : decode cX8_centuries 143 = .ok (.iconst 0, 1) := by decide +kernel
theorem dX8_centuries_144 : decode cX8_centuries 144 = .ok (.iload 7, 2) := by decide +kernel
theorem dX8_centuries_146 : decode cX8_centuries 146 = .ok (.invokevirtual 124, 3) := by decide +kernel
theorem dX8_centuries_149 : decode cX8_centuries 149 = .ok (.iconst (-1), 1) := by decide +kernel
theorem dX8_centuries_150 : decode cX8_centuries 150 = .ok (.if_icmp .ne 15, 3) := by decide +kernel
theorem dX8_centuries_153 : decode cX8_centuries 153 = .ok (.aload_n 0, 1) := by decide +kernel
theorem dX8_centuries_154 : decode cX8_centuries 154 = .ok (.getfield 20, 3) := by decide +kernel
theorem dX8_centuries_157 : decode cX8_centuries 157 = .ok (.bipush 9, 2) := by decide +kernel
theorem dX8_centuries_159 : decode cX8_centuries 159 = .ok (.iload 6, 2) := by decide +kernel
theorem dX8_centuries_161 : decode cX8_centuries 161 = .ok (.iadd, 1) := by decide +kernel
theorem dX8_centuries_162 : decode cX8_centuries 162 = .ok (.iload 7, 2) := by decide +kernel
theorem dX8_centuries_164 : decode cX8_centuries 164 = .ok (.iastore, 1) := by decide +kernel
theorem dX8_centuries_165 : decode cX8_centuries 165 = .ok (.aload_n 0, 1) := by decide +kernel
theorem dX8_centuries_166 : decode cX8_centuries 166 = .ok (.iconst 0, 1) := by decide +kernel
theorem dX8_centuries_167 : decode cX8_centuries 167 = .ok (.aload_n 0, 1) := by decide +kernel
theorem dX8_centuries_168 : decode cX8_centuries 168 = .ok (.getfield 20, 3) := by decide +kernel
theorem dX8_centuries_171 : decode cX8_centuries 171 = .ok (.iconst 0, 1) := by decide +kernel
theorem dX8_centuries_172 : decode cX8_centuries 172 = .ok (.invokevirtual 128, 3) := by decide +kernel
theorem dX8_centuries_175 : decode cX8_centuries 175 = .ok (.iinc 5 1, 3) := by decide +kernel
theorem dX8_centuries_178 : decode cX8_centuries 178 = .ok (.goto (-143), 3) := by decide +kernel
theorem dX8_centuries_181 : decode cX8_centuries 181 = .ok (.aload_n 0, 1) := by decide +kernel
theorem dX8_centuries_182 : decode cX8_centuries 182 = .ok (.aload_n 0, 1) := by decide +kernel
theorem dX8_centuries_183 : decode cX8_centuries 183 = .ok (.getfield 20, 3) := by decide +kernel
theorem dX8_centuries_186 : decode cX8_centuries 186 = .ok (.iconst 0, 1) := by decide +kernel
theorem dX8_centuries_187 : decode cX8_centuries 187 = .ok (.invokevirtual 176, 3) := by decide +kernel
theorem dX8_centuries_190 : decode cX8_centuries 190 = .ok (.invokestatic 180, 3) := by decide +kernel
theorem dX8_centuries_193 : decode cX8_centuries 193 = .ok (.ireturn, 1) := by decide +kernel
theorem dX8_part_0 : decode cX8_part 0 = .ok (.iload_n 1, 1) := by decide +kernel
theorem dX8_part_1 : decode cX8_part 1 = .ok (.iconst 0, 1) := by decide +kernel
theorem dX8_part_2 : decode cX8_part 2 = .ok (.iconst 1, 1) := by decide +kernel
theorem dX8_part_3 : decode cX8_part 3 = .ok (.invokestatic 44, 3) := by decide +kernel
theorem dX8_part_6 : decode cX8_part 6 = .ok (.ifCond .ne 9, 3) := by decide +kernel
theorem dX8_part_9 : decode cX8_part 9 = .ok (.aload_n 0, 1) := by decide +kernel
theorem dX8_part_10 : decode cX8_part 10 = .ok (.invokevirtual 69, 3) := by decide +kernel
theorem dX8_part_13 : decode cX8_part 13 = .ok (.i2l, 1) := by decide +kernel
theorem dX8_part_14 : decode cX8_part 14 = .ok (.lreturn, 1) := by decide +kernel
theorem dX8_part_15 : decode cX8_part 15 = .ok (.iload_n 1, 1) := by decide +kernel
theorem dX8_part_16 : decode cX8_part 16 = .ok (.ifCond .ne 10, 3) := by decide +kernel
theorem dX8_part_19 : decode cX8_part 19 = .ok (.aload_n 0, 1) := by decide +kernel
theorem dX8_part_20 : decode cX8_part 20 = .ok (.getfield 228, 3) := by decide +kernel
theorem dX8_part_23 : decode cX8_part 23 = .ok (.goto 7, 3) := by decide +kernel
theorem dX8_part_26 : decode cX8_part 26 = .ok (.aload_n 0, 1) := by decide +kernel
theorem dX8_part_27 : decode cX8_part 27 = .ok (.getfield 36, 3) := by decide +kernel
theorem dX8_part_30 : decode cX8_part 30 = .ok (.lreturn, 1) := by decide +kernel
theorem dX8_image_0 : decode cX8_image 0 = .ok (.iload_n 1, 1) := by decide +kernel
theorem dX8_image_1 : decode cX8_image 1 = .ok (.iconst 0, 1) := by decide +kernel
theorem dX8_image_2 : decode cX8_image 2 = .ok (.iconst 1, 1) := by decide +kernel
theorem dX8_image_3 : decode cX8_image 3 = .ok (.invokestatic 44, 3) := by decide +kernel
theorem dX8_image_6 : decode cX8_image 6 = .ok (.ifCond .ne 8, 3) := by decide +kernel
theorem dX8_image_9 : decode cX8_image 9 = .ok (.aload_n 0, 1) := by decide +kernel
theorem dX8_image_10 : decode cX8_image 10 = .ok (.invokevirtual 69, 3) := by decide +kernel
theorem dX8_image_13 : decode cX8_image 13 = .ok (.ireturn, 1) := by decide +kernel
theorem dX8_image_14 : decode cX8_image 14 = .ok (.aload_n 0, 1) := by decide +kernel
theorem dX8_image_15 : decode cX8_image 15 = .ok (.iconst 0, 1) := by decide +kernel
theorem dX8_image_16 : decode cX8_image 16 = .ok (.sipush 246, 3) := by decide +kernel
theorem dX8_image_19 : decode cX8_image 19 = .ok (.iconst 1, 1) := by decide +kernel
theorem dX8_image_20 : decode cX8_image 20 = .ok (.iload_n 1, 1) := by decide +kernel
theorem dX8_image_21 : decode cX8_image 21 = .ok (.iadd, 1) := by decide +kernel
theorem dX8_image_22 : decode cX8_image 22 = .ok (.imul, 1) := by decide +kernel
theorem dX8_image_23 : decode cX8_image 23 = .ok (.invokevirtual 157, 3) := by decide +kernel
theorem dX8_image_26 : decode cX8_image 26 = .ok (.aload_n 0, 1) := by decide +kernel
theorem dX8_image_27 : decode cX8_image 27 = .ok (.getfield 16, 3) := by decide +kernel
theorem dX8_image_30 : decode cX8_image 30 = .ok (.iload_n 1, 1) := by decide +kernel
theorem dX8_image_31 : decode cX8_image 31 = .ok (.iconst 1, 1) := by decide +kernel
theorem dX8_image_32 : decode cX8_image 32 = .ok (.bastore, 1) := by decide +kernel
theorem dX8_image_33 : decode cX8_image 33 = .ok (.iconst 1, 1) := by decide +kernel
theorem dX8_image_34 : decode cX8_image 34 = .ok (.ireturn, 1) := by decide +kernel
theorem dX8_from_0 : decode cX8_from 0 = .ok (.iload_n 1, 1) := by decide +kernel
theorem dX8_from_1 : decode cX8_from 1 = .ok (.iconst 0, 1) := by decide +kernel
theorem dX8_from_2 : decode cX8_from 2 = .ok (.iconst 1, 1) := by decide +kernel
theorem dX8_from_3 : decode cX8_from 3 = .ok (.invokestatic 44, 3) := by decide +kernel
theorem dX8_from_6 : decode cX8_from 6 = .ok (.ifCond .ne 8, 3) := by decide +kernel
theorem dX8_from_9 : decode cX8_from 9 = .ok (.aload_n 0, 1) := by decide +kernel
theorem dX8_from_10 : decode cX8_from 10 = .ok (.invokevirtual 69, 3) := by decide +kernel
theorem dX8_from_13 : decode cX8_from 13 = .ok (.ireturn, 1) := by decide +kernel
theorem dX8_from_14 : decode cX8_from 14 = .ok (.aload_n 0, 1) := by decide +kernel
theorem dX8_from_15 : decode cX8_from 15 = .ok (.getfield 16, 3) := by decide +kernel
theorem dX8_from_18 : decode cX8_from 18 = .ok (.iload_n 1, 1) := by decide +kernel
theorem dX8_from_19 : decode cX8_from 19 = .ok (.baload, 1) := by decide +kernel
theorem dX8_from_20 : decode cX8_from 20 = .ok (.ifCond .ne 8, 3) := by decide +kernel
theorem dX8_from_23 : decode cX8_from 23 = .ok (.aload_n 0, 1) := by decide +kernel
theorem dX8_from_24 : decode cX8_from 24 = .ok (.invokevirtual 170, 3) := by decide +kernel
theorem dX8_from_27 : decode cX8_from 27 = .ok (.ireturn, 1) := by decide +kernel
theorem dX8_from_28 : decode cX8_from 28 = .ok (.aload_n 0, 1) := by decide +kernel
theorem dX8_from_29 : decode cX8_from 29 = .ok (.sipush 246, 3) := by decide +kernel
theorem dX8_from_32 : decode cX8_from 32 = .ok (.iconst 1, 1) := by decide +kernel
theorem dX8_from_33 : decode cX8_from 33 = .ok (.iload_n 1, 1) := by decide +kernel
theorem dX8_from_34 : decode cX8_from 34 = .ok (.iadd, 1) := by decide +kernel
theorem dX8_from_35 : decode cX8_from 35 = .ok (.imul, 1) := by decide +kernel
theorem dX8_from_36 : decode cX8_from 36 = .ok (.iconst 0, 1) := by decide +kernel
theorem dX8_from_37 : decode cX8_from 37 = .ok (.invokevirtual 157, 3) := by decide +kernel
theorem dX8_from_40 : decode cX8_from 40 = .ok (.iconst 1, 1) := by decide +kernel
theorem dX8_from_41 : decode cX8_from 41 = .ok (.ireturn, 1) := by decide +kernel
theorem dX8_status_0 : decode cX8_status 0 = .ok (.iload_n 1, 1) := by decide +kernel
theorem dX8_status_1 : decode cX8_status 1 = .ok (.iconst 0, 1) := by decide +kernel
theorem dX8_status_2 : decode cX8_status 2 = .ok (.iconst 2, 1) := by decide +kernel
theorem dX8_status_3 : decode cX8_status 3 = .ok (.invokestatic 44, 3) := by decide +kernel
theorem dX8_status_6 : decode cX8_status 6 = .ok (.ifCond .ne 15, 3) := by decide +kernel
theorem dX8_status_9 : decode cX8_status 9 = .ok (.aload_n 0, 1) := by decide +kernel
theorem dX8_status_10 : decode cX8_status 10 = .ok (.getfield 7, 3) := by decide +kernel
theorem dX8_status_13 : decode cX8_status 13 = .ok (.iconst 0, 1) := by decide +kernel
theorem dX8_status_14 : decode cX8_status 14 = .ok (.dup2, 1) := by decide +kernel
theorem dX8_status_15 : decode cX8_status 15 = .ok (.iaload, 1) := by decide +kernel
theorem dX8_status_16 : decode cX8_status 16 = .ok (.iconst 1, 1) := by decide +kernel
theorem dX8_status_17 : decode cX8_status 17 = .ok (.iadd, 1) := by decide +kernel
theorem dX8_status_18 : decode cX8_status 18 = .ok (.iastore, 1) := by decide +kernel
theorem dX8_status_19 : decode cX8_status 19 = .ok (.iconst (-1), 1) := by decide +kernel
theorem dX8_status_20 : decode cX8_status 20 = .ok (.ireturn, 1) := by decide +kernel
theorem dX8_status_21 : decode cX8_status 21 = .ok (.aload_n 0, 1) := by decide +kernel
theorem dX8_status_22 : decode cX8_status 22 = .ok (.getfield 7, 3) := by decide +kernel
theorem dX8_status_25 : decode cX8_status 25 = .ok (.iload_n 1, 1) := by decide +kernel
theorem dX8_status_26 : decode cX8_status 26 = .ok (.iaload, 1) := by decide +kernel
theorem dX8_status_27 : decode cX8_status 27 = .ok (.ireturn, 1) := by decide +kernel
theorem dX8_many_0 : decode cX8_many 0 = .ok (.iconst 0, 1) := by decide +kernel
theorem dX8_many_1 : decode cX8_many 1 = .ok (.istore_n 2, 1) := by decide +kernel
theorem dX8_many_2 : decode cX8_many 2 = .ok (.iload_n 1, 1) := by decide +kernel
theorem dX8_many_3 : decode cX8_many 3 = .ok (.tableswitch 144 0 8 #[49, 56, 70, 77, 118, 126, 126, 126, 137], 49) := by decide +kernel
theorem dX8_many_52 : decode cX8_many 52 = .ok (.aload_n 0, 1) := by decide +kernel
theorem dX8_many_53 : decode cX8_many 53 = .ok (.getfield 13, 3) := by decide +kernel
theorem dX8_many_56 : decode cX8_many 56 = .ok (.iconst 1, 1) := by decide +kernel
theorem dX8_many_57 : decode cX8_many 57 = .ok (.iaload, 1) := by decide +kernel
theorem dX8_many_58 : decode cX8_many 58 = .ok (.ireturn, 1) := by decide +kernel
theorem dX8_many_59 : decode cX8_many 59 = .ok (.aload_n 0, 1) := by decide +kernel
theorem dX8_many_60 : decode cX8_many 60 = .ok (.aload_n 0, 1) := by decide +kernel
theorem dX8_many_61 : decode cX8_many 61 = .ok (.getfield 13, 3) := by decide +kernel
theorem dX8_many_64 : decode cX8_many 64 = .ok (.bipush 34, 2) := by decide +kernel
theorem dX8_many_66 : decode cX8_many 66 = .ok (.invokevirtual 176, 3) := by decide +kernel
theorem dX8_many_69 : decode cX8_many 69 = .ok (.invokestatic 180, 3) := by decide +kernel
theorem dX8_many_72 : decode cX8_many 72 = .ok (.ireturn, 1) := by decide +kernel
theorem dX8_many_73 : decode cX8_many 73 = .ok (.aload_n 0, 1) := by decide +kernel
theorem dX8_many_74 : decode cX8_many 74 = .ok (.getfield 13, 3) := by decide +kernel
theorem dX8_many_77 : decode cX8_many 77 = .ok (.iconst 0, 1) := by decide +kernel
theorem dX8_many_78 : decode cX8_many 78 = .ok (.iaload, 1) := by decide +kernel
theorem dX8_many_79 : decode cX8_many 79 = .ok (.ireturn, 1) := by decide +kernel
theorem dX8_many_80 : decode cX8_many 80 = .ok (.iconst 0, 1) := by decide +kernel
theorem dX8_many_81 : decode cX8_many 81 = .ok (.istore_n 3, 1) := by decide +kernel
theorem dX8_many_82 : decode cX8_many 82 = .ok (.iload_n 3, 1) := by decide +kernel
theorem dX8_many_83 : decode cX8_many 83 = .ok (.aload_n 0, 1) := by decide +kernel
theorem dX8_many_84 : decode cX8_many 84 = .ok (.getfield 13, 3) := by decide +kernel
theorem dX8_many_87 : decode cX8_many 87 = .ok (.iconst 1, 1) := by decide +kernel
theorem dX8_many_88 : decode cX8_many 88 = .ok (.iaload, 1) := by decide +kernel
theorem dX8_many_89 : decode cX8_many 89 = .ok (.if_icmp .ge 30, 3) := by decide +kernel
theorem dX8_many_92 : decode cX8_many 92 = .ok (.iload_n 2, 1) := by decide +kernel
theorem dX8_many_93 : decode cX8_many 93 = .ok (.aload_n 0, 1) := by decide +kernel
theorem dX8_many_94 : decode cX8_many 94 = .ok (.getfield 13, 3) := by decide +kernel
theorem dX8_many_97 : decode cX8_many 97 = .ok (.bipush 43, 2) := by decide +kernel
theorem dX8_many_99 : decode cX8_many 99 = .ok (.iload_n 3, 1) := by decide +kernel
theorem dX8_many_100 : decode cX8_many 100 = .ok (.iadd, 1) := by decide +kernel
theorem dX8_many_101 : decode cX8_many 101 = .ok (.iaload, 1) := by decide +kernel
theorem dX8_many_102 : decode cX8_many 102 = .ok (.iconst (-1), 1) := by decide +kernel
theorem dX8_many_103 : decode cX8_many 103 = .ok (.if_icmp .ne 7, 3) := by decide +kernel
theorem dX8_many_106 : decode cX8_many 106 = .ok (.iconst 0, 1) := by decide +kernel
theorem dX8_many_107 : decode cX8_many 107 = .ok (.goto 4, 3) := by decide +kernel
theorem dX8_many_110 : decode cX8_many 110 = .ok (.iconst 1, 1) := by decide +kernel
theorem dX8_many_111 : decode cX8_many 111 = .ok (.iadd, 1) := by decide +kernel
theorem dX8_many_112 : decode cX8_many 112 = .ok (.istore_n 2, 1) := by decide +kernel
theorem dX8_many_113 : decode cX8_many 113 = .ok (.iinc 3 1, 3) := by decide +kernel
theorem dX8_many_116 : decode cX8_many 116 = .ok (.goto (-34), 3) := by decide +kernel
theorem dX8_many_119 : decode cX8_many 119 = .ok (.iload_n 2, 1) := by decide +kernel
theorem dX8_many_120 : decode cX8_many 120 = .ok (.ireturn, 1) := by decide +kernel
theorem dX8_many_121 : decode cX8_many 121 = .ok (.aload_n 0, 1) := by decide +kernel
theorem dX8_many_122 : decode cX8_many 122 = .ok (.getfield 13, 3) := by decide +kernel
theorem dX8_many_125 : decode cX8_many 125 = .ok (.bipush 34, 2) := by decide +kernel
theorem dX8_many_127 : decode cX8_many 127 = .ok (.iaload, 1) := by decide +kernel
theorem dX8_many_128 : decode cX8_many 128 = .ok (.ireturn, 1) := by decide +kernel
theorem dX8_many_129 : decode cX8_many 129 = .ok (.aload_n 0, 1) := by decide +kernel
theorem dX8_many_130 : decode cX8_many 130 = .ok (.getfield 13, 3) := by decide +kernel
theorem dX8_many_133 : decode cX8_many 133 = .ok (.iconst 2, 1) := by decide +kernel
theorem dX8_many_134 : decode cX8_many 134 = .ok (.iload_n 1, 1) := by decide +kernel
theorem dX8_many_135 : decode cX8_many 135 = .ok (.iadd, 1) := by decide +kernel
theorem dX8_many_136 : decode cX8_many 136 = .ok (.iconst 5, 1) := by decide +kernel
theorem dX8_many_137 : decode cX8_many 137 = .ok (.isub, 1) := by decide +kernel
theorem dX8_many_138 : decode cX8_many 138 = .ok (.iaload, 1) := by decide +kernel
theorem dX8_many_139 : decode cX8_many 139 = .ok (.ireturn, 1) := by decide +kernel
theorem dX8_many_140 : decode cX8_many 140 = .ok (.aload_n 0, 1) := by decide +kernel
theorem dX8_many_141 : decode cX8_many 141 = .ok (.getfield 13, 3) := by decide +kernel
theorem dX8_many_144 : decode cX8_many 144 = .ok (.iconst 5, 1) := by decide +kernel
theorem dX8_many_145 : decode cX8_many 145 = .ok (.iaload, 1) := by decide +kernel
theorem dX8_many_146 : decode cX8_many 146 = .ok (.ireturn, 1) := by decide +kernel
theorem dX8_many_147 : decode cX8_many 147 = .ok (.aload_n 0, 1) := by decide +kernel
theorem dX8_many_148 : decode cX8_many 148 = .ok (.getfield 83, 3) := by decide +kernel
theorem dX8_many_151 : decode cX8_many 151 = .ok (.ireturn, 1) := by decide +kernel
theorem dX8_count_0 : decode cX8_count 0 = .ok (.iload_n 1, 1) := by decide +kernel
theorem dX8_count_1 : decode cX8_count 1 = .ok (.iconst 0, 1) := by decide +kernel
theorem dX8_count_2 : decode cX8_count 2 = .ok (.bipush 9, 2) := by decide +kernel
theorem dX8_count_4 : decode cX8_count 4 = .ok (.invokestatic 44, 3) := by decide +kernel
theorem dX8_count_7 : decode cX8_count 7 = .ok (.ifCond .eq 11, 3) := by decide +kernel
theorem dX8_count_10 : decode cX8_count 10 = .ok (.aload_n 0, 1) := by decide +kernel
theorem dX8_count_11 : decode cX8_count 11 = .ok (.iload_n 1, 1) := by decide +kernel
theorem dX8_count_12 : decode cX8_count 12 = .ok (.invokevirtual 250, 3) := by decide +kernel
theorem dX8_count_15 : decode cX8_count 15 = .ok (.goto 7, 3) := by decide +kernel
theorem dX8_count_18 : decode cX8_count 18 = .ok (.aload_n 0, 1) := by decide +kernel
theorem dX8_count_19 : decode cX8_count 19 = .ok (.invokevirtual 69, 3) := by decide +kernel
theorem dX8_count_22 : decode cX8_count 22 = .ok (.ireturn, 1) := by decide +kernel
theorem dX8_digest_0 : decode cX8_digest 0 = .ok (.ldc2_w 253, 3) := by decide +kernel
theorem dX8_digest_3 : decode cX8_digest 3 = .ok (.lstore_n 1, 1) := by decide +kernel
theorem dX8_digest_4 : decode cX8_digest 4 = .ok (.iconst 0, 1) := by decide +kernel
theorem dX8_digest_5 : decode cX8_digest 5 = .ok (.istore_n 3, 1) := by decide +kernel
theorem dX8_digest_6 : decode cX8_digest 6 = .ok (.iload_n 3, 1) := by decide +kernel
theorem dX8_digest_7 : decode cX8_digest 7 = .ok (.bipush 10, 2) := by decide +kernel
theorem dX8_digest_9 : decode cX8_digest 9 = .ok (.if_icmp .ge 22, 3) := by decide +kernel
theorem dX8_digest_12 : decode cX8_digest 12 = .ok (.ldc2_w 255, 3) := by decide +kernel
theorem dX8_digest_15 : decode cX8_digest 15 = .ok (.lload_n 1, 1) := by decide +kernel
theorem dX8_digest_16 : decode cX8_digest 16 = .ok (.lmul, 1) := by decide +kernel
theorem dX8_digest_17 : decode cX8_digest 17 = .ok (.aload_n 0, 1) := by decide +kernel
theorem dX8_digest_18 : decode cX8_digest 18 = .ok (.iload_n 3, 1) := by decide +kernel
theorem dX8_digest_19 : decode cX8_digest 19 = .ok (.invokevirtual 250, 3) := by decide +kernel
theorem dX8_digest_22 : decode cX8_digest 22 = .ok (.i2l, 1) := by decide +kernel
theorem dX8_digest_23 : decode cX8_digest 23 = .ok (.ladd, 1) := by decide +kernel
theorem dX8_digest_24 : decode cX8_digest 24 = .ok (.lstore_n 1, 1) := by decide +kernel
theorem dX8_digest_25 : decode cX8_digest 25 = .ok (.iinc 3 1, 3) := by decide +kernel
theorem dX8_digest_28 : decode cX8_digest 28 = .ok (.goto (-22), 3) := by decide +kernel
theorem dX8_digest_31 : decode cX8_digest 31 = .ok (.iconst 0, 1) := by decide +kernel
theorem dX8_digest_32 : decode cX8_digest 32 = .ok (.istore_n 3, 1) := by decide +kernel
theorem dX8_digest_33 : decode cX8_digest 33 = .ok (.iload_n 3, 1) := by decide +kernel
theorem dX8_digest_34 : decode cX8_digest 34 = .ok (.aload_n 0, 1) := by decide +kernel
theorem dX8_digest_35 : decode cX8_digest 35 = .ok (.getfield 13, 3) := by decide +kernel
theorem dX8_digest_38 : decode cX8_digest 38 = .ok (.iconst 0, 1) := by decide +kernel
theorem dX8_digest_39 : decode cX8_digest 39 = .ok (.iaload, 1) := by decide +kernel
theorem dX8_digest_40 : decode cX8_digest 40 = .ok (.if_icmp .ge 41, 3) := by decide +kernel
theorem dX8_digest_43 : decode cX8_digest 43 = .ok (.ldc2_w 255, 3) := by decide +kernel
theorem dX8_digest_46 : decode cX8_digest 46 = .ok (.ldc2_w 255, 3) := by decide +kernel
theorem dX8_digest_49 : decode cX8_digest 49 = .ok (.lload_n 1, 1) := by decide +kernel
theorem dX8_digest_50 : decode cX8_digest 50 = .ok (.lmul, 1) := by decide +kernel
theorem dX8_digest_51 : decode cX8_digest 51 = .ok (.aload_n 0, 1) := by decide +kernel
theorem dX8_digest_52 : decode cX8_digest 52 = .ok (.getfield 13, 3) := by decide +kernel
theorem dX8_digest_55 : decode cX8_digest 55 = .ok (.bipush 6, 2) := by decide +kernel
theorem dX8_digest_57 : decode cX8_digest 57 = .ok (.iload_n 3, 1) := by decide +kernel
theorem dX8_digest_58 : decode cX8_digest 58 = .ok (.iadd, 1) := by decide +kernel
theorem dX8_digest_59 : decode cX8_digest 59 = .ok (.iaload, 1) := by decide +kernel
theorem dX8_digest_60 : decode cX8_digest 60 = .ok (.i2l, 1) := by decide +kernel
theorem dX8_digest_61 : decode cX8_digest 61 = .ok (.ladd, 1) := by decide +kernel
theorem dX8_digest_62 : decode cX8_digest 62 = .ok (.lmul, 1) := by decide +kernel
theorem dX8_digest_63 : decode cX8_digest 63 = .ok (.aload_n 0, 1) := by decide +kernel
theorem dX8_digest_64 : decode cX8_digest 64 = .ok (.getfield 13, 3) := by decide +kernel
theorem dX8_digest_67 : decode cX8_digest 67 = .ok (.bipush 13, 2) := by decide +kernel
theorem dX8_digest_69 : decode cX8_digest 69 = .ok (.iload_n 3, 1) := by decide +kernel
theorem dX8_digest_70 : decode cX8_digest 70 = .ok (.iadd, 1) := by decide +kernel
theorem dX8_digest_71 : decode cX8_digest 71 = .ok (.iaload, 1) := by decide +kernel
theorem dX8_digest_72 : decode cX8_digest 72 = .ok (.i2l, 1) := by decide +kernel
theorem dX8_digest_73 : decode cX8_digest 73 = .ok (.ladd, 1) := by decide +kernel
theorem dX8_digest_74 : decode cX8_digest 74 = .ok (.lstore_n 1, 1) := by decide +kernel
theorem dX8_digest_75 : decode cX8_digest 75 = .ok (.iinc 3 1, 3) := by decide +kernel
theorem dX8_digest_78 : decode cX8_digest 78 = .ok (.goto (-45), 3) := by decide +kernel
theorem dX8_digest_81 : decode cX8_digest 81 = .ok (.iconst 0, 1) := by decide +kernel
theorem dX8_digest_82 : decode cX8_digest 82 = .ok (.istore_n 3, 1) := by decide +kernel
theorem dX8_digest_83 : decode cX8_digest 83 = .ok (.iload_n 3, 1) := by decide +kernel
theorem dX8_digest_84 : decode cX8_digest 84 = .ok (.aload_n 0, 1) := by decide +kernel
theorem dX8_digest_85 : decode cX8_digest 85 = .ok (.getfield 13, 3) := by decide +kernel
theorem dX8_digest_88 : decode cX8_digest 88 = .ok (.iconst 1, 1) := by decide +kernel
theorem dX8_digest_89 : decode cX8_digest 89 = .ok (.iaload, 1) := by decide +kernel
theorem dX8_digest_90 : decode cX8_digest 90 = .ok (.if_icmp .ge 39, 3) := by decide +kernel
theorem dX8_digest_93 : decode cX8_digest 93 = .ok (.iconst 0, 1) := by decide +kernel
theorem dX8_digest_94 : decode cX8_digest 94 = .ok (.istore 4, 2) := by decide +kernel
theorem dX8_digest_96 : decode cX8_digest 96 = .ok (.iload 4, 2) := by decide +kernel
theorem dX8_digest_98 : decode cX8_digest 98 = .ok (.iconst 5, 1) := by decide +kernel
theorem dX8_digest_99 : decode cX8_digest 99 = .ok (.if_icmp .ge 24, 3) := by decide +kernel
theorem dX8_digest_102 : decode cX8_digest 102 = .ok (.ldc2_w 255, 3) := by decide +kernel
theorem dX8_digest_105 : decode cX8_digest 105 = .ok (.lload_n 1, 1) := by decide +kernel
theorem dX8_digest_106 : decode cX8_digest 106 = .ok (.lmul, 1) := by decide +kernel
theorem dX8_digest_107 : decode cX8_digest 107 = .ok (.aload_n 0, 1) := by decide +kernel
theorem dX8_digest_108 : decode cX8_digest 108 = .ok (.iload_n 3, 1) := by decide +kernel
theorem dX8_digest_109 : decode cX8_digest 109 = .ok (.iload 4, 2) := by decide +kernel
theorem dX8_digest_111 : decode cX8_digest 111 = .ok (.invokevirtual 184, 3) := by decide +kernel
theorem dX8_digest_114 : decode cX8_digest 114 = .ok (.i2l, 1) := by decide +kernel
theorem dX8_digest_115 : decode cX8_digest 115 = .ok (.ladd, 1) := by decide +kernel
theorem dX8_digest_116 : decode cX8_digest 116 = .ok (.lstore_n 1, 1) := by decide +kernel
theorem dX8_digest_117 : decode cX8_digest 117 = .ok (.iinc 4 1, 3) := by decide +kernel
theorem dX8_digest_120 : decode cX8_digest 120 = .ok (.goto (-24), 3) := by decide +kernel
theorem dX8_digest_123 : decode cX8_digest 123 = .ok (.iinc 3 1, 3) := by decide +kernel
theorem dX8_digest_126 : decode cX8_digest 126 = .ok (.goto (-43), 3) := by decide +kernel
theorem dX8_digest_129 : decode cX8_digest 129 = .ok (.iconst 0, 1) := by decide +kernel
theorem dX8_digest_130 : decode cX8_digest 130 = .ok (.istore_n 3, 1) := by decide +kernel
theorem dX8_digest_131 : decode cX8_digest 131 = .ok (.iload_n 3, 1) := by decide +kernel
theorem dX8_digest_132 : decode cX8_digest 132 = .ok (.iconst 4, 1) := by decide +kernel
theorem dX8_digest_133 : decode cX8_digest 133 = .ok (.aload_n 0, 1) := by decide +kernel
theorem dX8_digest_134 : decode cX8_digest 134 = .ok (.getfield 13, 3) := by decide +kernel
theorem dX8_digest_137 : decode cX8_digest 137 = .ok (.iconst 2, 1) := by decide +kernel
theorem dX8_digest_138 : decode cX8_digest 138 = .ok (.iaload, 1) := by decide +kernel
theorem dX8_digest_139 : decode cX8_digest 139 = .ok (.imul, 1) := by decide +kernel
theorem dX8_digest_140 : decode cX8_digest 140 = .ok (.if_icmp .ge 26, 3) := by decide +kernel
theorem dX8_digest_143 : decode cX8_digest 143 = .ok (.ldc2_w 255, 3) := by decide +kernel
theorem dX8_digest_146 : decode cX8_digest 146 = .ok (.lload_n 1, 1) := by decide +kernel
theorem dX8_digest_147 : decode cX8_digest 147 = .ok (.lmul, 1) := by decide +kernel
theorem dX8_digest_148 : decode cX8_digest 148 = .ok (.aload_n 0, 1) := by decide +kernel
theorem dX8_digest_149 : decode cX8_digest 149 = .ok (.getfield 13, 3) := by decide +kernel
theorem dX8_digest_152 : decode cX8_digest 152 = .ok (.bipush 50, 2) := by decide +kernel
theorem dX8_digest_154 : decode cX8_digest 154 = .ok (.iload_n 3, 1) := by decide +kernel
theorem dX8_digest_155 : decode cX8_digest 155 = .ok (.iadd, 1) := by decide +kernel
theorem dX8_digest_156 : decode cX8_digest 156 = .ok (.iaload, 1) := by decide +kernel
theorem dX8_digest_157 : decode cX8_digest 157 = .ok (.i2l, 1) := by decide +kernel
theorem dX8_digest_158 : decode cX8_digest 158 = .ok (.ladd, 1) := by decide +kernel
theorem dX8_digest_159 : decode cX8_digest 159 = .ok (.lstore_n 1, 1) := by decide +kernel
theorem dX8_digest_160 : decode cX8_digest 160 = .ok (.iinc 3 1, 3) := by decide +kernel
theorem dX8_digest_163 : decode cX8_digest 163 = .ok (.goto (-32), 3) := by decide +kernel
theorem dX8_digest_166 : decode cX8_digest 166 = .ok (.iconst 0, 1) := by decide +kernel
theorem dX8_digest_167 : decode cX8_digest 167 = .ok (.istore_n 3, 1) := by decide +kernel
theorem dX8_digest_168 : decode cX8_digest 168 = .ok (.iload_n 3, 1) := by decide +kernel
theorem dX8_digest_169 : decode cX8_digest 169 = .ok (.iconst 4, 1) := by decide +kernel
theorem dX8_digest_170 : decode cX8_digest 170 = .ok (.aload_n 0, 1) := by decide +kernel
theorem dX8_digest_171 : decode cX8_digest 171 = .ok (.getfield 13, 3) := by decide +kernel
theorem dX8_digest_174 : decode cX8_digest 174 = .ok (.iconst 3, 1) := by decide +kernel
theorem dX8_digest_175 : decode cX8_digest 175 = .ok (.iaload, 1) := by decide +kernel
theorem dX8_digest_176 : decode cX8_digest 176 = .ok (.imul, 1) := by decide +kernel
theorem dX8_digest_177 : decode cX8_digest 177 = .ok (.if_icmp .ge 26, 3) := by decide +kernel
theorem dX8_digest_180 : decode cX8_digest 180 = .ok (.ldc2_w 255, 3) := by decide +kernel
theorem dX8_digest_183 : decode cX8_digest 183 = .ok (.lload_n 1, 1) := by decide +kernel
theorem dX8_digest_184 : decode cX8_digest 184 = .ok (.lmul, 1) := by decide +kernel
theorem dX8_digest_185 : decode cX8_digest 185 = .ok (.aload_n 0, 1) := by decide +kernel
theorem dX8_digest_186 : decode cX8_digest 186 = .ok (.getfield 13, 3) := by decide +kernel
theorem dX8_digest_189 : decode cX8_digest 189 = .ok (.bipush 70, 2) := by decide +kernel
theorem dX8_digest_191 : decode cX8_digest 191 = .ok (.iload_n 3, 1) := by decide +kernel
theorem dX8_digest_192 : decode cX8_digest 192 = .ok (.iadd, 1) := by decide +kernel
theorem dX8_digest_193 : decode cX8_digest 193 = .ok (.iaload, 1) := by decide +kernel
theorem dX8_digest_194 : decode cX8_digest 194 = .ok (.i2l, 1) := by decide +kernel
theorem dX8_digest_195 : decode cX8_digest 195 = .ok (.ladd, 1) := by decide +kernel
theorem dX8_digest_196 : decode cX8_digest 196 = .ok (.lstore_n 1, 1) := by decide +kernel
theorem dX8_digest_197 : decode cX8_digest 197 = .ok (.iinc 3 1, 3) := by decide +kernel
theorem dX8_digest_200 : decode cX8_digest 200 = .ok (.goto (-32), 3) := by decide +kernel
theorem dX8_digest_203 : decode cX8_digest 203 = .ok (.iconst 0, 1) := by decide +kernel
theorem dX8_digest_204 : decode cX8_digest 204 = .ok (.istore_n 3, 1) := by decide +kernel
theorem dX8_digest_205 : decode cX8_digest 205 = .ok (.iload_n 3, 1) := by decide +kernel
theorem dX8_digest_206 : decode cX8_digest 206 = .ok (.iconst 4, 1) := by decide +kernel
theorem dX8_digest_207 : decode cX8_digest 207 = .ok (.aload_n 0, 1) := by decide +kernel
theorem dX8_digest_208 : decode cX8_digest 208 = .ok (.getfield 13, 3) := by decide +kernel
theorem dX8_digest_211 : decode cX8_digest 211 = .ok (.iconst 4, 1) := by decide +kernel
theorem dX8_digest_212 : decode cX8_digest 212 = .ok (.iaload, 1) := by decide +kernel
theorem dX8_digest_213 : decode cX8_digest 213 = .ok (.imul, 1) := by decide +kernel
theorem dX8_digest_214 : decode cX8_digest 214 = .ok (.if_icmp .ge 26, 3) := by decide +kernel
theorem dX8_digest_217 : decode cX8_digest 217 = .ok (.ldc2_w 255, 3) := by decide +kernel
theorem dX8_digest_220 : decode cX8_digest 220 = .ok (.lload_n 1, 1) := by decide +kernel
theorem dX8_digest_221 : decode cX8_digest 221 = .ok (.lmul, 1) := by decide +kernel
theorem dX8_digest_222 : decode cX8_digest 222 = .ok (.aload_n 0, 1) := by decide +kernel
theorem dX8_digest_223 : decode cX8_digest 223 = .ok (.getfield 13, 3) := by decide +kernel
theorem dX8_digest_226 : decode cX8_digest 226 = .ok (.bipush 94, 2) := by decide +kernel
theorem dX8_digest_228 : decode cX8_digest 228 = .ok (.iload_n 3, 1) := by decide +kernel
theorem dX8_digest_229 : decode cX8_digest 229 = .ok (.iadd, 1) := by decide +kernel
theorem dX8_digest_230 : decode cX8_digest 230 = .ok (.iaload, 1) := by decide +kernel
theorem dX8_digest_231 : decode cX8_digest 231 = .ok (.i2l, 1) := by decide +kernel
theorem dX8_digest_232 : decode cX8_digest 232 = .ok (.ladd, 1) := by decide +kernel
theorem dX8_digest_233 : decode cX8_digest 233 = .ok (.lstore_n 1, 1) := by decide +kernel
theorem dX8_digest_234 : decode cX8_digest 234 = .ok (.iinc 3 1, 3) := by decide +kernel
theorem dX8_digest_237 : decode cX8_digest 237 = .ok (.goto (-32), 3) := by decide +kernel
theorem dX8_digest_240 : decode cX8_digest 240 = .ok (.ldc2_w 255, 3) := by decide +kernel
theorem dX8_digest_243 : decode cX8_digest 243 = .ok (.ldc2_w 255, 3) := by decide +kernel
theorem dX8_digest_246 : decode cX8_digest 246 = .ok (.lload_n 1, 1) := by decide +kernel
theorem dX8_digest_247 : decode cX8_digest 247 = .ok (.lmul, 1) := by decide +kernel
theorem dX8_digest_248 : decode cX8_digest 248 = .ok (.aload_n 0, 1) := by decide +kernel
theorem dX8_digest_249 : decode cX8_digest 249 = .ok (.getfield 228, 3) := by decide +kernel
theorem dX8_digest_252 : decode cX8_digest 252 = .ok (.ladd, 1) := by decide +kernel
theorem dX8_digest_253 : decode cX8_digest 253 = .ok (.lmul, 1) := by decide +kernel
theorem dX8_digest_254 : decode cX8_digest 254 = .ok (.aload_n 0, 1) := by decide +kernel
theorem dX8_digest_255 : decode cX8_digest 255 = .ok (.getfield 36, 3) := by decide +kernel
theorem dX8_digest_258 : decode cX8_digest 258 = .ok (.ladd, 1) := by decide +kernel
theorem dX8_digest_259 : decode cX8_digest 259 = .ok (.lreturn, 1) := by decide +kernel
theorem dJ6_bitCount_0f7a4_0 : decode cJ6_bitCount_0f7a4 0 = .ok (.iload_n 0, 1) := by decide +kernel
theorem dJ6_bitCount_0f7a4_1 : decode cJ6_bitCount_0f7a4 1 = .ok (.iload_n 0, 1) := by decide +kernel
theorem dJ6_bitCount_0f7a4_2 : decode cJ6_bitCount_0f7a4 2 = .ok (.iconst 1, 1) := by decide +kernel
theorem dJ6_bitCount_0f7a4_3 : decode cJ6_bitCount_0f7a4 3 = .ok (.iushr, 1) := by decide +kernel
theorem dJ6_bitCount_0f7a4_4 : decode cJ6_bitCount_0f7a4 4 = .ok (.ldc_w 265, 3) := by decide +kernel
theorem dJ6_bitCount_0f7a4_7 : decode cJ6_bitCount_0f7a4 7 = .ok (.iand, 1) := by decide +kernel
theorem dJ6_bitCount_0f7a4_8 : decode cJ6_bitCount_0f7a4 8 = .ok (.isub, 1) := by decide +kernel
theorem dJ6_bitCount_0f7a4_9 : decode cJ6_bitCount_0f7a4 9 = .ok (.istore_n 0, 1) := by decide +kernel
theorem dJ6_bitCount_0f7a4_10 : decode cJ6_bitCount_0f7a4 10 = .ok (.iload_n 0, 1) := by decide +kernel
theorem dJ6_bitCount_0f7a4_11 : decode cJ6_bitCount_0f7a4 11 = .ok (.ldc_w 266, 3) := by decide +kernel
theorem dJ6_bitCount_0f7a4_14 : decode cJ6_bitCount_0f7a4 14 = .ok (.iand, 1) := by decide +kernel
theorem dJ6_bitCount_0f7a4_15 : decode cJ6_bitCount_0f7a4 15 = .ok (.iload_n 0, 1) := by decide +kernel
theorem dJ6_bitCount_0f7a4_16 : decode cJ6_bitCount_0f7a4 16 = .ok (.iconst 2, 1) := by decide +kernel
theorem dJ6_bitCount_0f7a4_17 : decode cJ6_bitCount_0f7a4 17 = .ok (.iushr, 1) := by decide +kernel
theorem dJ6_bitCount_0f7a4_18 : decode cJ6_bitCount_0f7a4 18 = .ok (.ldc_w 266, 3) := by decide +kernel
theorem dJ6_bitCount_0f7a4_21 : decode cJ6_bitCount_0f7a4 21 = .ok (.iand, 1) := by decide +kernel
theorem dJ6_bitCount_0f7a4_22 : decode cJ6_bitCount_0f7a4 22 = .ok (.iadd, 1) := by decide +kernel
theorem dJ6_bitCount_0f7a4_23 : decode cJ6_bitCount_0f7a4 23 = .ok (.istore_n 0, 1) := by decide +kernel
theorem dJ6_bitCount_0f7a4_24 : decode cJ6_bitCount_0f7a4 24 = .ok (.iload_n 0, 1) := by decide +kernel
theorem dJ6_bitCount_0f7a4_25 : decode cJ6_bitCount_0f7a4 25 = .ok (.iload_n 0, 1) := by decide +kernel
theorem dJ6_bitCount_0f7a4_26 : decode cJ6_bitCount_0f7a4 26 = .ok (.iconst 4, 1) := by decide +kernel
theorem dJ6_bitCount_0f7a4_27 : decode cJ6_bitCount_0f7a4 27 = .ok (.iushr, 1) := by decide +kernel
theorem dJ6_bitCount_0f7a4_28 : decode cJ6_bitCount_0f7a4 28 = .ok (.iadd, 1) := by decide +kernel
theorem dJ6_bitCount_0f7a4_29 : decode cJ6_bitCount_0f7a4 29 = .ok (.ldc_w 267, 3) := by decide +kernel
theorem dJ6_bitCount_0f7a4_32 : decode cJ6_bitCount_0f7a4 32 = .ok (.iand, 1) := by decide +kernel
theorem dJ6_bitCount_0f7a4_33 : decode cJ6_bitCount_0f7a4 33 = .ok (.istore_n 0, 1) := by decide +kernel
theorem dJ6_bitCount_0f7a4_34 : decode cJ6_bitCount_0f7a4 34 = .ok (.iload_n 0, 1) := by decide +kernel
theorem dJ6_bitCount_0f7a4_35 : decode cJ6_bitCount_0f7a4 35 = .ok (.iload_n 0, 1) := by decide +kernel
theorem dJ6_bitCount_0f7a4_36 : decode cJ6_bitCount_0f7a4 36 = .ok (.bipush 8, 2) := by decide +kernel
theorem dJ6_bitCount_0f7a4_38 : decode cJ6_bitCount_0f7a4 38 = .ok (.iushr, 1) := by decide +kernel
theorem dJ6_bitCount_0f7a4_39 : decode cJ6_bitCount_0f7a4 39 = .ok (.iadd, 1) := by decide +kernel
theorem dJ6_bitCount_0f7a4_40 : decode cJ6_bitCount_0f7a4 40 = .ok (.istore_n 0, 1) := by decide +kernel
theorem dJ6_bitCount_0f7a4_41 : decode cJ6_bitCount_0f7a4 41 = .ok (.iload_n 0, 1) := by decide +kernel
theorem dJ6_bitCount_0f7a4_42 : decode cJ6_bitCount_0f7a4 42 = .ok (.iload_n 0, 1) := by decide +kernel
theorem dJ6_bitCount_0f7a4_43 : decode cJ6_bitCount_0f7a4 43 = .ok (.bipush 16, 2) := by decide +kernel
theorem dJ6_bitCount_0f7a4_45 : decode cJ6_bitCount_0f7a4 45 = .ok (.iushr, 1) := by decide +kernel
theorem dJ6_bitCount_0f7a4_46 : decode cJ6_bitCount_0f7a4 46 = .ok (.iadd, 1) := by decide +kernel
theorem dJ6_bitCount_0f7a4_47 : decode cJ6_bitCount_0f7a4 47 = .ok (.istore_n 0, 1) := by decide +kernel
theorem dJ6_bitCount_0f7a4_48 : decode cJ6_bitCount_0f7a4 48 = .ok (.iload_n 0, 1) := by decide +kernel
theorem dJ6_bitCount_0f7a4_49 : decode cJ6_bitCount_0f7a4 49 = .ok (.bipush 63, 2) := by decide +kernel
theorem dJ6_bitCount_0f7a4_51 : decode cJ6_bitCount_0f7a4 51 = .ok (.iand, 1) := by decide +kernel
theorem dJ6_bitCount_0f7a4_52 : decode cJ6_bitCount_0f7a4 52 = .ok (.ireturn, 1) := by decide +kernel
theorem dJ9_max_7cf53_0 : decode cJ9_max_7cf53 0 = .ok (.iload_n 0, 1) := by decide +kernel
theorem dJ9_max_7cf53_1 : decode cJ9_max_7cf53 1 = .ok (.iload_n 1, 1) := by decide +kernel
theorem dJ9_max_7cf53_2 : decode cJ9_max_7cf53 2 = .ok (.if_icmp .lt 7, 3) := by decide +kernel
theorem dJ9_max_7cf53_5 : decode cJ9_max_7cf53 5 = .ok (.iload_n 0, 1) := by decide +kernel
theorem dJ9_max_7cf53_6 : decode cJ9_max_7cf53 6 = .ok (.goto 4, 3) := by decide +kernel
theorem dJ9_max_7cf53_9 : decode cJ9_max_7cf53 9 = .ok (.iload_n 1, 1) := by decide +kernel
theorem dJ9_max_7cf53_10 : decode cJ9_max_7cf53 10 = .ok (.ireturn, 1) := by decide +kernel
theorem dJ9_min_7cf53_0 : decode cJ9_min_7cf53 0 = .ok (.iload_n 0, 1) := by decide +kernel
theorem dJ9_min_7cf53_1 : decode cJ9_min_7cf53 1 = .ok (.iload_n 1, 1) := by decide +kernel
theorem dJ9_min_7cf53_2 : decode cJ9_min_7cf53 2 = .ok (.if_icmp .gt 7, 3) := by decide +kernel
theorem dJ9_min_7cf53_5 : decode cJ9_min_7cf53 5 = .ok (.iload_n 0, 1) := by decide +kernel
theorem dJ9_min_7cf53_6 : decode cJ9_min_7cf53 6 = .ok (.goto 4, 3) := by decide +kernel
theorem dJ9_min_7cf53_9 : decode cJ9_min_7cf53 9 = .ok (.iload_n 1, 1) := by decide +kernel
theorem dJ9_min_7cf53_10 : decode cJ9_min_7cf53 10 = .ok (.ireturn, 1) := by decide +kernel
theorem dJ0_length_8abf5_0 : decode cJ0_length_8abf5 0 = .ok (.aload_n 0, 1) := by decide +kernel
theorem dJ0_length_8abf5_1 : decode cJ0_length_8abf5 1 = .ok (.getfield 9, 3) := by decide +kernel
theorem dJ0_length_8abf5_4 : decode cJ0_length_8abf5 4 = .ok (.arraylength, 1) := by decide +kernel
theorem dJ0_length_8abf5_5 : decode cJ0_length_8abf5 5 = .ok (.aload_n 0, 1) := by decide +kernel
theorem dJ0_length_8abf5_6 : decode cJ0_length_8abf5 6 = .ok (.invokevirtual 335, 3) := by decide +kernel
theorem dJ0_length_8abf5_9 : decode cJ0_length_8abf5 9 = .ok (.ishr, 1) := by decide +kernel
theorem dJ0_length_8abf5_10 : decode cJ0_length_8abf5 10 = .ok (.ireturn, 1) := by decide +kernel
theorem dJ0_charAt_5068e_0 : decode cJ0_charAt_5068e 0 = .ok (.aload_n 0, 1) := by decide +kernel
theorem dJ0_charAt_5068e_1 : decode cJ0_charAt_5068e 1 = .ok (.invokevirtual 492, 3) := by decide +kernel
theorem dJ0_charAt_5068e_4 : decode cJ0_charAt_5068e 4 = .ok (.ifCond .eq 12, 3) := by decide +kernel
theorem dJ0_charAt_5068e_7 : decode cJ0_charAt_5068e 7 = .ok (.aload_n 0, 1) := by decide +kernel
theorem dJ0_charAt_5068e_8 : decode cJ0_charAt_5068e 8 = .ok (.getfield 9, 3) := by decide +kernel
theorem dJ0_charAt_5068e_11 : decode cJ0_charAt_5068e 11 = .ok (.iload_n 1, 1) := by decide +kernel
theorem dJ0_charAt_5068e_12 : decode cJ0_charAt_5068e 12 = .ok (.invokestatic 495, 3) := by decide +kernel
theorem dJ0_charAt_5068e_15 : decode cJ0_charAt_5068e 15 = .ok (.ireturn, 1) := by decide +kernel
theorem dJ0_charAt_5068e_16 : decode cJ0_charAt_5068e 16 = .ok (.aload_n 0, 1) := by decide +kernel
theorem dJ0_charAt_5068e_17 : decode cJ0_charAt_5068e 17 = .ok (.getfield 9, 3) := by decide +kernel
theorem dJ0_charAt_5068e_20 : decode cJ0_charAt_5068e 20 = .ok (.iload_n 1, 1) := by decide +kernel
theorem dJ0_charAt_5068e_21 : decode cJ0_charAt_5068e 21 = .ok (.invokestatic 498, 3) := by decide +kernel
theorem dJ0_charAt_5068e_24 : decode cJ0_charAt_5068e 24 = .ok (.ireturn, 1) := by decide +kernel
theorem dJ0_coder_7d493_0 : decode cJ0_coder_7d493 0 = .ok (.getstatic 38, 3) := by decide +kernel
theorem dJ0_coder_7d493_3 : decode cJ0_coder_7d493 3 = .ok (.ifCond .eq 10, 3) := by decide +kernel
theorem dJ0_coder_7d493_6 : decode cJ0_coder_7d493 6 = .ok (.aload_n 0, 1) := by decide +kernel
theorem dJ0_coder_7d493_7 : decode cJ0_coder_7d493 7 = .ok (.getfield 15, 3) := by decide +kernel
theorem dJ0_coder_7d493_10 : decode cJ0_coder_7d493 10 = .ok (.goto 4, 3) := by decide +kernel
theorem dJ0_coder_7d493_13 : decode cJ0_coder_7d493 13 = .ok (.iconst 1, 1) := by decide +kernel
theorem dJ0_coder_7d493_14 : decode cJ0_coder_7d493 14 = .ok (.ireturn, 1) := by decide +kernel
theorem dJ0_isLatin1_aae02_0 : decode cJ0_isLatin1_aae02 0 = .ok (.getstatic 38, 3) := by decide +kernel
theorem dJ0_isLatin1_aae02_3 : decode cJ0_isLatin1_aae02 3 = .ok (.ifCond .eq 14, 3) := by decide +kernel
theorem dJ0_isLatin1_aae02_6 : decode cJ0_isLatin1_aae02 6 = .ok (.aload_n 0, 1) := by decide +kernel
theorem dJ0_isLatin1_aae02_7 : decode cJ0_isLatin1_aae02 7 = .ok (.getfield 15, 3) := by decide +kernel
theorem dJ0_isLatin1_aae02_10 : decode cJ0_isLatin1_aae02 10 = .ok (.ifCond .ne 7, 3) := by decide +kernel
theorem dJ0_isLatin1_aae02_13 : decode cJ0_isLatin1_aae02 13 = .ok (.iconst 1, 1) := by decide +kernel
theorem dJ0_isLatin1_aae02_14 : decode cJ0_isLatin1_aae02 14 = .ok (.goto 4, 3) := by decide +kernel
theorem dJ0_isLatin1_aae02_17 : decode cJ0_isLatin1_aae02 17 = .ok (.iconst 0, 1) := by decide +kernel
theorem dJ0_isLatin1_aae02_18 : decode cJ0_isLatin1_aae02 18 = .ok (.ireturn, 1) := by decide +kernel
theorem dJ0_checkIndex_df160_0 : decode cJ0_checkIndex_df160 0 = .ok (.iload_n 0, 1) := by decide +kernel
theorem dJ0_checkIndex_df160_1 : decode cJ0_checkIndex_df160 1 = .ok (.iload_n 1, 1) := by decide +kernel
theorem dJ0_checkIndex_df160_2 : decode cJ0_checkIndex_df160 2 = .ok (.getstatic 1053, 3) := by decide +kernel
theorem dJ0_checkIndex_df160_5 : decode cJ0_checkIndex_df160 5 = .ok (.invokestatic 1059, 3) := by decide +kernel
theorem dJ0_checkIndex_df160_8 : decode cJ0_checkIndex_df160 8 = .ok (.pop, 1) := by decide +kernel
theorem dJ0_checkIndex_df160_9 : decode cJ0_checkIndex_df160 9 = .ok (.return_, 1) := by decide +kernel
theorem dJ1_charAt_3b067_0 : decode cJ1_charAt_3b067 0 = .ok (.iload_n 1, 1) := by decide +kernel
theorem dJ1_charAt_3b067_1 : decode cJ1_charAt_3b067 1 = .ok (.aload_n 0, 1) := by decide +kernel
theorem dJ1_charAt_3b067_2 : decode cJ1_charAt_3b067 2 = .ok (.arraylength, 1) := by decide +kernel
theorem dJ1_charAt_3b067_3 : decode cJ1_charAt_3b067 3 = .ok (.invokestatic 9, 3) := by decide +kernel
theorem dJ1_charAt_3b067_6 : decode cJ1_charAt_3b067 6 = .ok (.aload_n 0, 1) := by decide +kernel
theorem dJ1_charAt_3b067_7 : decode cJ1_charAt_3b067 7 = .ok (.iload_n 1, 1) := by decide +kernel
theorem dJ1_charAt_3b067_8 : decode cJ1_charAt_3b067 8 = .ok (.baload, 1) := by decide +kernel
theorem dJ1_charAt_3b067_9 : decode cJ1_charAt_3b067 9 = .ok (.sipush 255, 3) := by decide +kernel
theorem dJ1_charAt_3b067_12 : decode cJ1_charAt_3b067 12 = .ok (.iand, 1) := by decide +kernel
theorem dJ1_charAt_3b067_13 : decode cJ1_charAt_3b067 13 = .ok (.i2c, 1) := by decide +kernel
theorem dJ1_charAt_3b067_14 : decode cJ1_charAt_3b067 14 = .ok (.ireturn, 1) := by decide +kernel
theorem dJ2_getChar_3b067_0 : decode cJ2_getChar_3b067 0 = .ok (.getstatic 44, 3) := by decide +kernel
theorem dJ2_getChar_3b067_3 : decode cJ2_getChar_3b067 3 = .ok (.ifCond .ne 25, 3) := by decide +kernel
theorem dJ2_getChar_3b067_6 : decode cJ2_getChar_3b067 6 = .ok (.iload_n 1, 1) := by decide +kernel
theorem dJ2_getChar_3b067_7 : decode cJ2_getChar_3b067 7 = .ok (.ifCond .lt 11, 3) := by decide +kernel
theorem dJ2_getChar_3b067_10 : decode cJ2_getChar_3b067 10 = .ok (.iload_n 1, 1) := by decide +kernel
theorem dJ2_getChar_3b067_11 : decode cJ2_getChar_3b067 11 = .ok (.aload_n 0, 1) := by decide +kernel
theorem dJ2_getChar_3b067_12 : decode cJ2_getChar_3b067 12 = .ok (.invokestatic 48, 3) := by decide +kernel
theorem dJ2_getChar_3b067_15 : decode cJ2_getChar_3b067 15 = .ok (.if_icmp .lt 13, 3) := by decide +kernel
theorem dJ2_getChar_3b067_18 : decode cJ2_getChar_3b067 18 = .ok (.new 52, 3) := by decide +kernel
theorem dJ2_getChar_3b067_21 : decode cJ2_getChar_3b067 21 = .ok (.dup, 1) := by decide +kernel
theorem dJ2_getChar_3b067_22 : decode cJ2_getChar_3b067 22 = .ok (.ldc 54, 2) := by decide +kernel
theorem dJ2_getChar_3b067_24 : decode cJ2_getChar_3b067 24 = .ok (.invokespecial 56, 3) := by decide +kernel
theorem dJ2_getChar_3b067_27 : decode cJ2_getChar_3b067 27 = .ok (.athrow, 1) := by decide +kernel
theorem dJ2_getChar_3b067_28 : decode cJ2_getChar_3b067 28 = .ok (.iload_n 1, 1) := by decide +kernel
theorem dJ2_getChar_3b067_29 : decode cJ2_getChar_3b067 29 = .ok (.iconst 1, 1) := by decide +kernel
theorem dJ2_getChar_3b067_30 : decode cJ2_getChar_3b067 30 = .ok (.ishl, 1) := by decide +kernel
theorem dJ2_getChar_3b067_31 : decode cJ2_getChar_3b067 31 = .ok (.istore_n 1, 1) := by decide +kernel
theorem dJ2_getChar_3b067_32 : decode cJ2_getChar_3b067 32 = .ok (.aload_n 0, 1) := by decide +kernel
theorem dJ2_getChar_3b067_33 : decode cJ2_getChar_3b067 33 = .ok (.iload_n 1, 1) := by decide +kernel
theorem dJ2_getChar_3b067_34 : decode cJ2_getChar_3b067 34 = .ok (.iinc 1 1, 3) := by decide +kernel
theorem dJ2_getChar_3b067_37 : decode cJ2_getChar_3b067 37 = .ok (.baload, 1) := by decide +kernel
theorem dJ2_getChar_3b067_38 : decode cJ2_getChar_3b067 38 = .ok (.sipush 255, 3) := by decide +kernel
theorem dJ2_getChar_3b067_41 : decode cJ2_getChar_3b067 41 = .ok (.iand, 1) := by decide +kernel
theorem dJ2_getChar_3b067_42 : decode cJ2_getChar_3b067 42 = .ok (.getstatic 59, 3) := by decide +kernel
theorem dJ2_getChar_3b067_45 : decode cJ2_getChar_3b067 45 = .ok (.ishl, 1) := by decide +kernel
theorem dJ2_getChar_3b067_46 : decode cJ2_getChar_3b067 46 = .ok (.aload_n 0, 1) := by decide +kernel
theorem dJ2_getChar_3b067_47 : decode cJ2_getChar_3b067 47 = .ok (.iload_n 1, 1) := by decide +kernel
theorem dJ2_getChar_3b067_48 : decode cJ2_getChar_3b067 48 = .ok (.baload, 1) := by decide +kernel
theorem dJ2_getChar_3b067_49 : decode cJ2_getChar_3b067 49 = .ok (.sipush 255, 3) := by decide +kernel
theorem dJ2_getChar_3b067_52 : decode cJ2_getChar_3b067 52 = .ok (.iand, 1) := by decide +kernel
theorem dJ2_getChar_3b067_53 : decode cJ2_getChar_3b067 53 = .ok (.getstatic 63, 3) := by decide +kernel
theorem dJ2_getChar_3b067_56 : decode cJ2_getChar_3b067 56 = .ok (.ishl, 1) := by decide +kernel
theorem dJ2_getChar_3b067_57 : decode cJ2_getChar_3b067 57 = .ok (.ior, 1) := by decide +kernel
theorem dJ2_getChar_3b067_58 : decode cJ2_getChar_3b067 58 = .ok (.i2c, 1) := by decide +kernel
theorem dJ2_getChar_3b067_59 : decode cJ2_getChar_3b067 59 = .ok (.ireturn, 1) := by decide +kernel
theorem dJ2_length_9d52b_0 : decode cJ2_length_9d52b 0 = .ok (.aload_n 0, 1) := by decide +kernel
theorem dJ2_length_9d52b_1 : decode cJ2_length_9d52b 1 = .ok (.arraylength, 1) := by decide +kernel
theorem dJ2_length_9d52b_2 : decode cJ2_length_9d52b 2 = .ok (.iconst 1, 1) := by decide +kernel
end
section
theorem dJ2_length_9d52b_3 : decode cJ2_length_9d52b 3 = .ok (.ishr, 1) := by decide +kernel
theorem dJ2_length_9d52b_4 : decode cJ2_length_9d52b 4 = .ok (.ireturn, 1) := by decide +kernel
theorem dJ2_charAt_3b067_0 : decode cJ2_charAt_3b067 0 = .ok (.iload_n 1, 1) := by decide +kernel
theorem dJ2_charAt_3b067_1 : decode cJ2_charAt_3b067 1 = .ok (.aload_n 0, 1) := by decide +kernel
theorem dJ2_charAt_3b067_2 : decode cJ2_charAt_3b067 2 = .ok (.invokestatic 67, 3) := by decide +kernel
theorem dJ2_charAt_3b067_5 : decode cJ2_charAt_3b067 5 = .ok (.aload_n 0, 1) := by decide +kernel
theorem dJ2_charAt_3b067_6 : decode cJ2_charAt_3b067 6 = .ok (.iload_n 1, 1) := by decide +kernel
theorem dJ2_charAt_3b067_7 : decode cJ2_charAt_3b067 7 = .ok (.invokestatic 71, 3) := by decide +kernel
theorem dJ2_charAt_3b067_10 : decode cJ2_charAt_3b067 10 = .ok (.ireturn, 1) := by decide +kernel
theorem dJ2_checkIndex_2214a_0 : decode cJ2_checkIndex_2214a 0 = .ok (.iload_n 0, 1) := by decide +kernel
theorem dJ2_checkIndex_2214a_1 : decode cJ2_checkIndex_2214a 1 = .ok (.aload_n 1, 1) := by decide +kernel
theorem dJ2_checkIndex_2214a_2 : decode cJ2_checkIndex_2214a 2 = .ok (.invokestatic 48, 3) := by decide +kernel
theorem dJ2_checkIndex_2214a_5 : decode cJ2_checkIndex_2214a 5 = .ok (.invokestatic 414, 3) := by decide +kernel
theorem dJ2_checkIndex_2214a_8 : decode cJ2_checkIndex_2214a 8 = .ok (.return_, 1) := by decide +kernel
theorem dJ3_checkIndex_8e157_0 : decode cJ3_checkIndex_8e157 0 = .ok (.iload_n 0, 1) := by decide +kernel
theorem dJ3_checkIndex_8e157_1 : decode cJ3_checkIndex_8e157 1 = .ok (.ifCond .lt 8, 3) := by decide +kernel
theorem dJ3_checkIndex_8e157_4 : decode cJ3_checkIndex_8e157 4 = .ok (.iload_n 0, 1) := by decide +kernel
theorem dJ3_checkIndex_8e157_5 : decode cJ3_checkIndex_8e157 5 = .ok (.iload_n 1, 1) := by decide +kernel
theorem dJ3_checkIndex_8e157_6 : decode cJ3_checkIndex_8e157 6 = .ok (.if_icmp .lt 10, 3) := by decide +kernel
theorem dJ3_checkIndex_8e157_9 : decode cJ3_checkIndex_8e157 9 = .ok (.aload_n 2, 1) := by decide +kernel
theorem dJ3_checkIndex_8e157_10 : decode cJ3_checkIndex_8e157 10 = .ok (.iload_n 0, 1) := by decide +kernel
theorem dJ3_checkIndex_8e157_11 : decode cJ3_checkIndex_8e157 11 = .ok (.iload_n 1, 1) := by decide +kernel
theorem dJ3_checkIndex_8e157_12 : decode cJ3_checkIndex_8e157 12 = .ok (.invokestatic 95, 3) := by decide +kernel
theorem dJ3_checkIndex_8e157_15 : decode cJ3_checkIndex_8e157 15 = .ok (.athrow, 1) := by decide +kernel
theorem dJ3_checkIndex_8e157_16 : decode cJ3_checkIndex_8e157 16 = .ok (.iload_n 0, 1) := by decide +kernel
theorem dJ3_checkIndex_8e157_17 : decode cJ3_checkIndex_8e157 17 = .ok (.ireturn, 1) := by decide +kernel
theorem dL_law_0 : decode cL_law 0 = .ok (.new 7, 3) := by decide +kernel
theorem dL_law_3 : decode cL_law 3 = .ok (.dup, 1) := by decide +kernel
theorem dL_law_4 : decode cL_law 4 = .ok (.invokespecial 9, 3) := by decide +kernel
theorem dL_law_7 : decode cL_law 7 = .ok (.astore_n 1, 1) := by decide +kernel
theorem dL_law_8 : decode cL_law 8 = .ok (.new 10, 3) := by decide +kernel
theorem dL_law_11 : decode cL_law 11 = .ok (.dup, 1) := by decide +kernel
theorem dL_law_12 : decode cL_law 12 = .ok (.invokespecial 12, 3) := by decide +kernel
theorem dL_law_15 : decode cL_law 15 = .ok (.astore_n 2, 1) := by decide +kernel
theorem dL_law_16 : decode cL_law 16 = .ok (.iconst 0, 1) := by decide +kernel
theorem dL_law_17 : decode cL_law 17 = .ok (.istore_n 3, 1) := by decide +kernel
theorem dL_law_18 : decode cL_law 18 = .ok (.iload_n 3, 1) := by decide +kernel
theorem dL_law_19 : decode cL_law 19 = .ok (.aload_n 0, 1) := by decide +kernel
theorem dL_law_20 : decode cL_law 20 = .ok (.arraylength, 1) := by decide +kernel
theorem dL_law_21 : decode cL_law 21 = .ok (.iconst 5, 1) := by decide +kernel
theorem dL_law_22 : decode cL_law 22 = .ok (.isub, 1) := by decide +kernel
theorem dL_law_23 : decode cL_law 23 = .ok (.if_icmp .gt 1311, 3) := by decide +kernel
theorem dL_law_26 : decode cL_law 26 = .ok (.aload_n 0, 1) := by decide +kernel
theorem dL_law_27 : decode cL_law 27 = .ok (.iload_n 3, 1) := by decide +kernel
theorem dL_law_28 : decode cL_law 28 = .ok (.iaload, 1) := by decide +kernel
theorem dL_law_29 : decode cL_law 29 = .ok (.bipush 63, 2) := by decide +kernel
theorem dL_law_31 : decode cL_law 31 = .ok (.iand, 1) := by decide +kernel
theorem dL_law_32 : decode cL_law 32 = .ok (.tableswitch 1296 0 39 #[176, 189, 222, 265, 288, 301, 314, 347, 370, 393, 406, 439, 472, 505, 538, 551, 574, 597, 630, 663, 686, 719, 772, 805, 828, 881, 934, 957, 980, 1003, 1026, 1049, 1092, 1135, 1168, 1191, 1214, 1237, 1260, 1283], 176) := by decide +kernel
theorem dL_law_208 : decode cL_law 208 = .ok (.aload_n 1, 1) := by decide +kernel
theorem dL_law_209 : decode cL_law 209 = .ok (.invokevirtual 13, 3) := by decide +kernel
theorem dL_law_212 : decode cL_law 212 = .ok (.pop, 1) := by decide +kernel
theorem dL_law_213 : decode cL_law 213 = .ok (.aload_n 2, 1) := by decide +kernel
theorem dL_law_214 : decode cL_law 214 = .ok (.invokevirtual 17, 3) := by decide +kernel
theorem dL_law_217 : decode cL_law 217 = .ok (.pop, 1) := by decide +kernel
theorem dL_law_218 : decode cL_law 218 = .ok (.goto 1110, 3) := by decide +kernel
theorem dL_law_221 : decode cL_law 221 = .ok (.aload_n 1, 1) := by decide +kernel
theorem dL_law_222 : decode cL_law 222 = .ok (.aload_n 0, 1) := by decide +kernel
theorem dL_law_223 : decode cL_law 223 = .ok (.iload_n 3, 1) := by decide +kernel
theorem dL_law_224 : decode cL_law 224 = .ok (.iconst 1, 1) := by decide +kernel
theorem dL_law_225 : decode cL_law 225 = .ok (.iadd, 1) := by decide +kernel
theorem dL_law_226 : decode cL_law 226 = .ok (.iaload, 1) := by decide +kernel
theorem dL_law_227 : decode cL_law 227 = .ok (.aload_n 0, 1) := by decide +kernel
theorem dL_law_228 : decode cL_law 228 = .ok (.iload_n 3, 1) := by decide +kernel
theorem dL_law_229 : decode cL_law 229 = .ok (.iconst 2, 1) := by decide +kernel
theorem dL_law_230 : decode cL_law 230 = .ok (.iadd, 1) := by decide +kernel
theorem dL_law_231 : decode cL_law 231 = .ok (.iaload, 1) := by decide +kernel
theorem dL_law_232 : decode cL_law 232 = .ok (.invokevirtual 18, 3) := by decide +kernel
theorem dL_law_235 : decode cL_law 235 = .ok (.pop, 1) := by decide +kernel
theorem dL_law_236 : decode cL_law 236 = .ok (.aload_n 2, 1) := by decide +kernel
theorem dL_law_237 : decode cL_law 237 = .ok (.aload_n 0, 1) := by decide +kernel
theorem dL_law_238 : decode cL_law 238 = .ok (.iload_n 3, 1) := by decide +kernel
theorem dL_law_239 : decode cL_law 239 = .ok (.iconst 1, 1) := by decide +kernel
theorem dL_law_240 : decode cL_law 240 = .ok (.iadd, 1) := by decide +kernel
theorem dL_law_241 : decode cL_law 241 = .ok (.iaload, 1) := by decide +kernel
theorem dL_law_242 : decode cL_law 242 = .ok (.aload_n 0, 1) := by decide +kernel
theorem dL_law_243 : decode cL_law 243 = .ok (.iload_n 3, 1) := by decide +kernel
theorem dL_law_244 : decode cL_law 244 = .ok (.iconst 2, 1) := by decide +kernel
theorem dL_law_245 : decode cL_law 245 = .ok (.iadd, 1) := by decide +kernel
theorem dL_law_246 : decode cL_law 246 = .ok (.iaload, 1) := by decide +kernel
theorem dL_law_247 : decode cL_law 247 = .ok (.invokevirtual 22, 3) := by decide +kernel
theorem dL_law_250 : decode cL_law 250 = .ok (.pop, 1) := by decide +kernel
theorem dL_law_251 : decode cL_law 251 = .ok (.goto 1077, 3) := by decide +kernel
theorem dL_law_254 : decode cL_law 254 = .ok (.aload_n 1, 1) := by decide +kernel
theorem dL_law_255 : decode cL_law 255 = .ok (.aload_n 0, 1) := by decide +kernel
theorem dL_law_256 : decode cL_law 256 = .ok (.iload_n 3, 1) := by decide +kernel
theorem dL_law_257 : decode cL_law 257 = .ok (.iconst 1, 1) := by decide +kernel
theorem dL_law_258 : decode cL_law 258 = .ok (.iadd, 1) := by decide +kernel
theorem dL_law_259 : decode cL_law 259 = .ok (.iaload, 1) := by decide +kernel
theorem dL_law_260 : decode cL_law 260 = .ok (.aload_n 0, 1) := by decide +kernel
theorem dL_law_261 : decode cL_law 261 = .ok (.iload_n 3, 1) := by decide +kernel
theorem dL_law_262 : decode cL_law 262 = .ok (.iconst 2, 1) := by decide +kernel
theorem dL_law_263 : decode cL_law 263 = .ok (.iadd, 1) := by decide +kernel
theorem dL_law_264 : decode cL_law 264 = .ok (.iaload, 1) := by decide +kernel
theorem dL_law_265 : decode cL_law 265 = .ok (.aload_n 0, 1) := by decide +kernel
theorem dL_law_266 : decode cL_law 266 = .ok (.iload_n 3, 1) := by decide +kernel
theorem dL_law_267 : decode cL_law 267 = .ok (.iconst 3, 1) := by decide +kernel
theorem dL_law_268 : decode cL_law 268 = .ok (.iadd, 1) := by decide +kernel
theorem dL_law_269 : decode cL_law 269 = .ok (.iaload, 1) := by decide +kernel
theorem dL_law_270 : decode cL_law 270 = .ok (.invokevirtual 23, 3) := by decide +kernel
theorem dL_law_273 : decode cL_law 273 = .ok (.pop, 1) := by decide +kernel
theorem dL_law_274 : decode cL_law 274 = .ok (.aload_n 2, 1) := by decide +kernel
theorem dL_law_275 : decode cL_law 275 = .ok (.aload_n 0, 1) := by decide +kernel
theorem dL_law_276 : decode cL_law 276 = .ok (.iload_n 3, 1) := by decide +kernel
theorem dL_law_277 : decode cL_law 277 = .ok (.iconst 1, 1) := by decide +kernel
theorem dL_law_278 : decode cL_law 278 = .ok (.iadd, 1) := by decide +kernel
theorem dL_law_279 : decode cL_law 279 = .ok (.iaload, 1) := by decide +kernel
theorem dL_law_280 : decode cL_law 280 = .ok (.aload_n 0, 1) := by decide +kernel
theorem dL_law_281 : decode cL_law 281 = .ok (.iload_n 3, 1) := by decide +kernel
theorem dL_law_282 : decode cL_law 282 = .ok (.iconst 2, 1) := by decide +kernel
theorem dL_law_283 : decode cL_law 283 = .ok (.iadd, 1) := by decide +kernel
theorem dL_law_284 : decode cL_law 284 = .ok (.iaload, 1) := by decide +kernel
theorem dL_law_285 : decode cL_law 285 = .ok (.aload_n 0, 1) := by decide +kernel
theorem dL_law_286 : decode cL_law 286 = .ok (.iload_n 3, 1) := by decide +kernel
theorem dL_law_287 : decode cL_law 287 = .ok (.iconst 3, 1) := by decide +kernel
theorem dL_law_288 : decode cL_law 288 = .ok (.iadd, 1) := by decide +kernel
theorem dL_law_289 : decode cL_law 289 = .ok (.iaload, 1) := by decide +kernel
theorem dL_law_290 : decode cL_law 290 = .ok (.invokevirtual 27, 3) := by decide +kernel
theorem dL_law_293 : decode cL_law 293 = .ok (.pop, 1) := by decide +kernel
theorem dL_law_294 : decode cL_law 294 = .ok (.goto 1034, 3) := by decide +kernel
theorem dL_law_297 : decode cL_law 297 = .ok (.aload_n 1, 1) := by decide +kernel
theorem dL_law_298 : decode cL_law 298 = .ok (.aload_n 0, 1) := by decide +kernel
theorem dL_law_299 : decode cL_law 299 = .ok (.iload_n 3, 1) := by decide +kernel
theorem dL_law_300 : decode cL_law 300 = .ok (.iconst 1, 1) := by decide +kernel
theorem dL_law_301 : decode cL_law 301 = .ok (.iadd, 1) := by decide +kernel
theorem dL_law_302 : decode cL_law 302 = .ok (.iaload, 1) := by decide +kernel
theorem dL_law_303 : decode cL_law 303 = .ok (.invokevirtual 28, 3) := by decide +kernel
theorem dL_law_306 : decode cL_law 306 = .ok (.pop, 1) := by decide +kernel
theorem dL_law_307 : decode cL_law 307 = .ok (.aload_n 2, 1) := by decide +kernel
theorem dL_law_308 : decode cL_law 308 = .ok (.aload_n 0, 1) := by decide +kernel
theorem dL_law_309 : decode cL_law 309 = .ok (.iload_n 3, 1) := by decide +kernel
theorem dL_law_310 : decode cL_law 310 = .ok (.iconst 1, 1) := by decide +kernel
theorem dL_law_311 : decode cL_law 311 = .ok (.iadd, 1) := by decide +kernel
theorem dL_law_312 : decode cL_law 312 = .ok (.iaload, 1) := by decide +kernel
theorem dL_law_313 : decode cL_law 313 = .ok (.invokevirtual 32, 3) := by decide +kernel
theorem dL_law_316 : decode cL_law 316 = .ok (.pop, 1) := by decide +kernel
theorem dL_law_317 : decode cL_law 317 = .ok (.goto 1011, 3) := by decide +kernel
theorem dL_law_320 : decode cL_law 320 = .ok (.aload_n 1, 1) := by decide +kernel
theorem dL_law_321 : decode cL_law 321 = .ok (.invokevirtual 33, 3) := by decide +kernel
theorem dL_law_324 : decode cL_law 324 = .ok (.pop, 1) := by decide +kernel
theorem dL_law_325 : decode cL_law 325 = .ok (.aload_n 2, 1) := by decide +kernel
theorem dL_law_326 : decode cL_law 326 = .ok (.invokevirtual 36, 3) := by decide +kernel
theorem dL_law_329 : decode cL_law 329 = .ok (.pop, 1) := by decide +kernel
theorem dL_law_330 : decode cL_law 330 = .ok (.goto 998, 3) := by decide +kernel
theorem dL_law_333 : decode cL_law 333 = .ok (.aload_n 1, 1) := by decide +kernel
theorem dL_law_334 : decode cL_law 334 = .ok (.invokevirtual 37, 3) := by decide +kernel
theorem dL_law_337 : decode cL_law 337 = .ok (.pop, 1) := by decide +kernel
theorem dL_law_338 : decode cL_law 338 = .ok (.aload_n 2, 1) := by decide +kernel
theorem dL_law_339 : decode cL_law 339 = .ok (.invokevirtual 40, 3) := by decide +kernel
theorem dL_law_342 : decode cL_law 342 = .ok (.pop, 1) := by decide +kernel
theorem dL_law_343 : decode cL_law 343 = .ok (.goto 985, 3) := by decide +kernel
theorem dL_law_346 : decode cL_law 346 = .ok (.aload_n 1, 1) := by decide +kernel
theorem dL_law_347 : decode cL_law 347 = .ok (.aload_n 0, 1) := by decide +kernel
theorem dL_law_348 : decode cL_law 348 = .ok (.iload_n 3, 1) := by decide +kernel
theorem dL_law_349 : decode cL_law 349 = .ok (.iconst 1, 1) := by decide +kernel
theorem dL_law_350 : decode cL_law 350 = .ok (.iadd, 1) := by decide +kernel
theorem dL_law_351 : decode cL_law 351 = .ok (.iaload, 1) := by decide +kernel
theorem dL_law_352 : decode cL_law 352 = .ok (.aload_n 0, 1) := by decide +kernel
theorem dL_law_353 : decode cL_law 353 = .ok (.iload_n 3, 1) := by decide +kernel
theorem dL_law_354 : decode cL_law 354 = .ok (.iconst 2, 1) := by decide +kernel
theorem dL_law_355 : decode cL_law 355 = .ok (.iadd, 1) := by decide +kernel
theorem dL_law_356 : decode cL_law 356 = .ok (.iaload, 1) := by decide +kernel
theorem dL_law_357 : decode cL_law 357 = .ok (.invokevirtual 41, 3) := by decide +kernel
theorem dL_law_360 : decode cL_law 360 = .ok (.pop, 1) := by decide +kernel
theorem dL_law_361 : decode cL_law 361 = .ok (.aload_n 2, 1) := by decide +kernel
theorem dL_law_362 : decode cL_law 362 = .ok (.aload_n 0, 1) := by decide +kernel
theorem dL_law_363 : decode cL_law 363 = .ok (.iload_n 3, 1) := by decide +kernel
theorem dL_law_364 : decode cL_law 364 = .ok (.iconst 1, 1) := by decide +kernel
theorem dL_law_365 : decode cL_law 365 = .ok (.iadd, 1) := by decide +kernel
theorem dL_law_366 : decode cL_law 366 = .ok (.iaload, 1) := by decide +kernel
theorem dL_law_367 : decode cL_law 367 = .ok (.aload_n 0, 1) := by decide +kernel
theorem dL_law_368 : decode cL_law 368 = .ok (.iload_n 3, 1) := by decide +kernel
theorem dL_law_369 : decode cL_law 369 = .ok (.iconst 2, 1) := by decide +kernel
theorem dL_law_370 : decode cL_law 370 = .ok (.iadd, 1) := by decide +kernel
theorem dL_law_371 : decode cL_law 371 = .ok (.iaload, 1) := by decide +kernel
theorem dL_law_372 : decode cL_law 372 = .ok (.invokevirtual 44, 3) := by decide +kernel
theorem dL_law_375 : decode cL_law 375 = .ok (.pop, 1) := by decide +kernel
theorem dL_law_376 : decode cL_law 376 = .ok (.goto 952, 3) := by decide +kernel
theorem dL_law_379 : decode cL_law 379 = .ok (.aload_n 1, 1) := by decide +kernel
theorem dL_law_380 : decode cL_law 380 = .ok (.aload_n 0, 1) := by decide +kernel
theorem dL_law_381 : decode cL_law 381 = .ok (.iload_n 3, 1) := by decide +kernel
theorem dL_law_382 : decode cL_law 382 = .ok (.iconst 1, 1) := by decide +kernel
theorem dL_law_383 : decode cL_law 383 = .ok (.iadd, 1) := by decide +kernel
theorem dL_law_384 : decode cL_law 384 = .ok (.iaload, 1) := by decide +kernel
theorem dL_law_385 : decode cL_law 385 = .ok (.invokevirtual 45, 3) := by decide +kernel
theorem dL_law_388 : decode cL_law 388 = .ok (.pop, 1) := by decide +kernel
theorem dL_law_389 : decode cL_law 389 = .ok (.aload_n 2, 1) := by decide +kernel
theorem dL_law_390 : decode cL_law 390 = .ok (.aload_n 0, 1) := by decide +kernel
theorem dL_law_391 : decode cL_law 391 = .ok (.iload_n 3, 1) := by decide +kernel
theorem dL_law_392 : decode cL_law 392 = .ok (.iconst 1, 1) := by decide +kernel
theorem dL_law_393 : decode cL_law 393 = .ok (.iadd, 1) := by decide +kernel
theorem dL_law_394 : decode cL_law 394 = .ok (.iaload, 1) := by decide +kernel
theorem dL_law_395 : decode cL_law 395 = .ok (.invokevirtual 48, 3) := by decide +kernel
theorem dL_law_398 : decode cL_law 398 = .ok (.pop, 1) := by decide +kernel
theorem dL_law_399 : decode cL_law 399 = .ok (.goto 929, 3) := by decide +kernel
theorem dL_law_402 : decode cL_law 402 = .ok (.aload_n 1, 1) := by decide +kernel
theorem dL_law_403 : decode cL_law 403 = .ok (.aload_n 0, 1) := by decide +kernel
theorem dL_law_404 : decode cL_law 404 = .ok (.iload_n 3, 1) := by decide +kernel
theorem dL_law_405 : decode cL_law 405 = .ok (.iconst 1, 1) := by decide +kernel
theorem dL_law_406 : decode cL_law 406 = .ok (.iadd, 1) := by decide +kernel
theorem dL_law_407 : decode cL_law 407 = .ok (.iaload, 1) := by decide +kernel
theorem dL_law_408 : decode cL_law 408 = .ok (.invokevirtual 49, 3) := by decide +kernel
theorem dL_law_411 : decode cL_law 411 = .ok (.pop, 1) := by decide +kernel
theorem dL_law_412 : decode cL_law 412 = .ok (.aload_n 2, 1) := by decide +kernel
theorem dL_law_413 : decode cL_law 413 = .ok (.aload_n 0, 1) := by decide +kernel
theorem dL_law_414 : decode cL_law 414 = .ok (.iload_n 3, 1) := by decide +kernel
theorem dL_law_415 : decode cL_law 415 = .ok (.iconst 1, 1) := by decide +kernel
theorem dL_law_416 : decode cL_law 416 = .ok (.iadd, 1) := by decide +kernel
theorem dL_law_417 : decode cL_law 417 = .ok (.iaload, 1) := by decide +kernel
theorem dL_law_418 : decode cL_law 418 = .ok (.invokevirtual 52, 3) := by decide +kernel
theorem dL_law_421 : decode cL_law 421 = .ok (.pop, 1) := by decide +kernel
theorem dL_law_422 : decode cL_law 422 = .ok (.goto 906, 3) := by decide +kernel
theorem dL_law_425 : decode cL_law 425 = .ok (.aload_n 1, 1) := by decide +kernel
theorem dL_law_426 : decode cL_law 426 = .ok (.invokevirtual 53, 3) := by decide +kernel
theorem dL_law_429 : decode cL_law 429 = .ok (.pop, 1) := by decide +kernel
theorem dL_law_430 : decode cL_law 430 = .ok (.aload_n 2, 1) := by decide +kernel
theorem dL_law_431 : decode cL_law 431 = .ok (.invokevirtual 56, 3) := by decide +kernel
theorem dL_law_434 : decode cL_law 434 = .ok (.pop, 1) := by decide +kernel
theorem dL_law_435 : decode cL_law 435 = .ok (.goto 893, 3) := by decide +kernel
theorem dL_law_438 : decode cL_law 438 = .ok (.aload_n 1, 1) := by decide +kernel
theorem dL_law_439 : decode cL_law 439 = .ok (.aload_n 0, 1) := by decide +kernel
theorem dL_law_440 : decode cL_law 440 = .ok (.iload_n 3, 1) := by decide +kernel
theorem dL_law_441 : decode cL_law 441 = .ok (.iconst 1, 1) := by decide +kernel
theorem dL_law_442 : decode cL_law 442 = .ok (.iadd, 1) := by decide +kernel
theorem dL_law_443 : decode cL_law 443 = .ok (.iaload, 1) := by decide +kernel
theorem dL_law_444 : decode cL_law 444 = .ok (.aload_n 0, 1) := by decide +kernel
theorem dL_law_445 : decode cL_law 445 = .ok (.iload_n 3, 1) := by decide +kernel
theorem dL_law_446 : decode cL_law 446 = .ok (.iconst 2, 1) := by decide +kernel
theorem dL_law_447 : decode cL_law 447 = .ok (.iadd, 1) := by decide +kernel
theorem dL_law_448 : decode cL_law 448 = .ok (.iaload, 1) := by decide +kernel
theorem dL_law_449 : decode cL_law 449 = .ok (.invokevirtual 57, 3) := by decide +kernel
theorem dL_law_452 : decode cL_law 452 = .ok (.pop, 1) := by decide +kernel
theorem dL_law_453 : decode cL_law 453 = .ok (.aload_n 2, 1) := by decide +kernel
theorem dL_law_454 : decode cL_law 454 = .ok (.aload_n 0, 1) := by decide +kernel
theorem dL_law_455 : decode cL_law 455 = .ok (.iload_n 3, 1) := by decide +kernel
theorem dL_law_456 : decode cL_law 456 = .ok (.iconst 1, 1) := by decide +kernel
theorem dL_law_457 : decode cL_law 457 = .ok (.iadd, 1) := by decide +kernel
theorem dL_law_458 : decode cL_law 458 = .ok (.iaload, 1) := by decide +kernel
theorem dL_law_459 : decode cL_law 459 = .ok (.aload_n 0, 1) := by decide +kernel
theorem dL_law_460 : decode cL_law 460 = .ok (.iload_n 3, 1) := by decide +kernel
theorem dL_law_461 : decode cL_law 461 = .ok (.iconst 2, 1) := by decide +kernel
theorem dL_law_462 : decode cL_law 462 = .ok (.iadd, 1) := by decide +kernel
theorem dL_law_463 : decode cL_law 463 = .ok (.iaload, 1) := by decide +kernel
theorem dL_law_464 : decode cL_law 464 = .ok (.invokevirtual 60, 3) := by decide +kernel
theorem dL_law_467 : decode cL_law 467 = .ok (.pop, 1) := by decide +kernel
theorem dL_law_468 : decode cL_law 468 = .ok (.goto 860, 3) := by decide +kernel
theorem dL_law_471 : decode cL_law 471 = .ok (.aload_n 1, 1) := by decide +kernel
theorem dL_law_472 : decode cL_law 472 = .ok (.aload_n 0, 1) := by decide +kernel
theorem dL_law_473 : decode cL_law 473 = .ok (.iload_n 3, 1) := by decide +kernel
theorem dL_law_474 : decode cL_law 474 = .ok (.iconst 1, 1) := by decide +kernel
theorem dL_law_475 : decode cL_law 475 = .ok (.iadd, 1) := by decide +kernel
theorem dL_law_476 : decode cL_law 476 = .ok (.iaload, 1) := by decide +kernel
theorem dL_law_477 : decode cL_law 477 = .ok (.aload_n 0, 1) := by decide +kernel
theorem dL_law_478 : decode cL_law 478 = .ok (.iload_n 3, 1) := by decide +kernel
theorem dL_law_479 : decode cL_law 479 = .ok (.iconst 2, 1) := by decide +kernel
theorem dL_law_480 : decode cL_law 480 = .ok (.iadd, 1) := by decide +kernel
theorem dL_law_481 : decode cL_law 481 = .ok (.iaload, 1) := by decide +kernel
theorem dL_law_482 : decode cL_law 482 = .ok (.invokevirtual 61, 3) := by decide +kernel
theorem dL_law_485 : decode cL_law 485 = .ok (.pop, 1) := by decide +kernel
theorem dL_law_486 : decode cL_law 486 = .ok (.aload_n 2, 1) := by decide +kernel
theorem dL_law_487 : decode cL_law 487 = .ok (.aload_n 0, 1) := by decide +kernel
theorem dL_law_488 : decode cL_law 488 = .ok (.iload_n 3, 1) := by decide +kernel
theorem dL_law_489 : decode cL_law 489 = .ok (.iconst 1, 1) := by decide +kernel
theorem dL_law_490 : decode cL_law 490 = .ok (.iadd, 1) := by decide +kernel
theorem dL_law_491 : decode cL_law 491 = .ok (.iaload, 1) := by decide +kernel
theorem dL_law_492 : decode cL_law 492 = .ok (.aload_n 0, 1) := by decide +kernel
theorem dL_law_493 : decode cL_law 493 = .ok (.iload_n 3, 1) := by decide +kernel
theorem dL_law_494 : decode cL_law 494 = .ok (.iconst 2, 1) := by decide +kernel
theorem dL_law_495 : decode cL_law 495 = .ok (.iadd, 1) := by decide +kernel
theorem dL_law_496 : decode cL_law 496 = .ok (.iaload, 1) := by decide +kernel
theorem dL_law_497 : decode cL_law 497 = .ok (.invokevirtual 64, 3) := by decide +kernel
theorem dL_law_500 : decode cL_law 500 = .ok (.pop, 1) := by decide +kernel
theorem dL_law_501 : decode cL_law 501 = .ok (.goto 827, 3) := by decide +kernel
theorem dL_law_504 : decode cL_law 504 = .ok (.aload_n 1, 1) := by decide +kernel
theorem dL_law_505 : decode cL_law 505 = .ok (.aload_n 0, 1) := by decide +kernel
theorem dL_law_506 : decode cL_law 506 = .ok (.iload_n 3, 1) := by decide +kernel
theorem dL_law_507 : decode cL_law 507 = .ok (.iconst 1, 1) := by decide +kernel
theorem dL_law_508 : decode cL_law 508 = .ok (.iadd, 1) := by decide +kernel
theorem dL_law_509 : decode cL_law 509 = .ok (.iaload, 1) := by decide +kernel
theorem dL_law_510 : decode cL_law 510 = .ok (.aload_n 0, 1) := by decide +kernel
theorem dL_law_511 : decode cL_law 511 = .ok (.iload_n 3, 1) := by decide +kernel
theorem dL_law_512 : decode cL_law 512 = .ok (.iconst 2, 1) := by decide +kernel
theorem dL_law_513 : decode cL_law 513 = .ok (.iadd, 1) := by decide +kernel
theorem dL_law_514 : decode cL_law 514 = .ok (.iaload, 1) := by decide +kernel
theorem dL_law_515 : decode cL_law 515 = .ok (.invokevirtual 65, 3) := by decide +kernel
theorem dL_law_518 : decode cL_law 518 = .ok (.pop, 1) := by decide +kernel
theorem dL_law_519 : decode cL_law 519 = .ok (.aload_n 2, 1) := by decide +kernel
theorem dL_law_520 : decode cL_law 520 = .ok (.aload_n 0, 1) := by decide +kernel
theorem dL_law_521 : decode cL_law 521 = .ok (.iload_n 3, 1) := by decide +kernel
theorem dL_law_522 : decode cL_law 522 = .ok (.iconst 1, 1) := by decide +kernel
theorem dL_law_523 : decode cL_law 523 = .ok (.iadd, 1) := by decide +kernel
theorem dL_law_524 : decode cL_law 524 = .ok (.iaload, 1) := by decide +kernel
theorem dL_law_525 : decode cL_law 525 = .ok (.aload_n 0, 1) := by decide +kernel
theorem dL_law_526 : decode cL_law 526 = .ok (.iload_n 3, 1) := by decide +kernel
theorem dL_law_527 : decode cL_law 527 = .ok (.iconst 2, 1) := by decide +kernel
theorem dL_law_528 : decode cL_law 528 = .ok (.iadd, 1) := by decide +kernel
theorem dL_law_529 : decode cL_law 529 = .ok (.iaload, 1) := by decide +kernel
theorem dL_law_530 : decode cL_law 530 = .ok (.invokevirtual 68, 3) := by decide +kernel
theorem dL_law_533 : decode cL_law 533 = .ok (.pop, 1) := by decide +kernel
theorem dL_law_534 : decode cL_law 534 = .ok (.goto 794, 3) := by decide +kernel
theorem dL_law_537 : decode cL_law 537 = .ok (.aload_n 1, 1) := by decide +kernel
theorem dL_law_538 : decode cL_law 538 = .ok (.aload_n 0, 1) := by decide +kernel
theorem dL_law_539 : decode cL_law 539 = .ok (.iload_n 3, 1) := by decide +kernel
theorem dL_law_540 : decode cL_law 540 = .ok (.iconst 1, 1) := by decide +kernel
theorem dL_law_541 : decode cL_law 541 = .ok (.iadd, 1) := by decide +kernel
theorem dL_law_542 : decode cL_law 542 = .ok (.iaload, 1) := by decide +kernel
theorem dL_law_543 : decode cL_law 543 = .ok (.aload_n 0, 1) := by decide +kernel
theorem dL_law_544 : decode cL_law 544 = .ok (.iload_n 3, 1) := by decide +kernel
theorem dL_law_545 : decode cL_law 545 = .ok (.iconst 2, 1) := by decide +kernel
theorem dL_law_546 : decode cL_law 546 = .ok (.iadd, 1) := by decide +kernel
theorem dL_law_547 : decode cL_law 547 = .ok (.iaload, 1) := by decide +kernel
theorem dL_law_548 : decode cL_law 548 = .ok (.invokevirtual 69, 3) := by decide +kernel
theorem dL_law_551 : decode cL_law 551 = .ok (.pop, 1) := by decide +kernel
theorem dL_law_552 : decode cL_law 552 = .ok (.aload_n 2, 1) := by decide +kernel
theorem dL_law_553 : decode cL_law 553 = .ok (.aload_n 0, 1) := by decide +kernel
theorem dL_law_554 : decode cL_law 554 = .ok (.iload_n 3, 1) := by decide +kernel
theorem dL_law_555 : decode cL_law 555 = .ok (.iconst 1, 1) := by decide +kernel
theorem dL_law_556 : decode cL_law 556 = .ok (.iadd, 1) := by decide +kernel
theorem dL_law_557 : decode cL_law 557 = .ok (.iaload, 1) := by decide +kernel
theorem dL_law_558 : decode cL_law 558 = .ok (.aload_n 0, 1) := by decide +kernel
theorem dL_law_559 : decode cL_law 559 = .ok (.iload_n 3, 1) := by decide +kernel
theorem dL_law_560 : decode cL_law 560 = .ok (.iconst 2, 1) := by decide +kernel
theorem dL_law_561 : decode cL_law 561 = .ok (.iadd, 1) := by decide +kernel
theorem dL_law_562 : decode cL_law 562 = .ok (.iaload, 1) := by decide +kernel
theorem dL_law_563 : decode cL_law 563 = .ok (.invokevirtual 72, 3) := by decide +kernel
theorem dL_law_566 : decode cL_law 566 = .ok (.pop, 1) := by decide +kernel
theorem dL_law_567 : decode cL_law 567 = .ok (.goto 761, 3) := by decide +kernel
theorem dL_law_570 : decode cL_law 570 = .ok (.aload_n 1, 1) := by decide +kernel
theorem dL_law_571 : decode cL_law 571 = .ok (.invokevirtual 73, 3) := by decide +kernel
theorem dL_law_574 : decode cL_law 574 = .ok (.pop, 1) := by decide +kernel
theorem dL_law_575 : decode cL_law 575 = .ok (.aload_n 2, 1) := by decide +kernel
theorem dL_law_576 : decode cL_law 576 = .ok (.invokevirtual 76, 3) := by decide +kernel
theorem dL_law_579 : decode cL_law 579 = .ok (.pop, 1) := by decide +kernel
theorem dL_law_580 : decode cL_law 580 = .ok (.goto 748, 3) := by decide +kernel
theorem dL_law_583 : decode cL_law 583 = .ok (.aload_n 1, 1) := by decide +kernel
theorem dL_law_584 : decode cL_law 584 = .ok (.aload_n 0, 1) := by decide +kernel
theorem dL_law_585 : decode cL_law 585 = .ok (.iload_n 3, 1) := by decide +kernel
theorem dL_law_586 : decode cL_law 586 = .ok (.iconst 1, 1) := by decide +kernel
theorem dL_law_587 : decode cL_law 587 = .ok (.iadd, 1) := by decide +kernel
theorem dL_law_588 : decode cL_law 588 = .ok (.iaload, 1) := by decide +kernel
theorem dL_law_589 : decode cL_law 589 = .ok (.invokevirtual 77, 3) := by decide +kernel
theorem dL_law_592 : decode cL_law 592 = .ok (.pop, 1) := by decide +kernel
theorem dL_law_593 : decode cL_law 593 = .ok (.aload_n 2, 1) := by decide +kernel
theorem dL_law_594 : decode cL_law 594 = .ok (.aload_n 0, 1) := by decide +kernel
theorem dL_law_595 : decode cL_law 595 = .ok (.iload_n 3, 1) := by decide +kernel
theorem dL_law_596 : decode cL_law 596 = .ok (.iconst 1, 1) := by decide +kernel
theorem dL_law_597 : decode cL_law 597 = .ok (.iadd, 1) := by decide +kernel
theorem dL_law_598 : decode cL_law 598 = .ok (.iaload, 1) := by decide +kernel
theorem dL_law_599 : decode cL_law 599 = .ok (.invokevirtual 80, 3) := by decide +kernel
theorem dL_law_602 : decode cL_law 602 = .ok (.pop, 1) := by decide +kernel
theorem dL_law_603 : decode cL_law 603 = .ok (.goto 725, 3) := by decide +kernel
theorem dL_law_606 : decode cL_law 606 = .ok (.aload_n 1, 1) := by decide +kernel
theorem dL_law_607 : decode cL_law 607 = .ok (.aload_n 0, 1) := by decide +kernel
theorem dL_law_608 : decode cL_law 608 = .ok (.iload_n 3, 1) := by decide +kernel
theorem dL_law_609 : decode cL_law 609 = .ok (.iconst 1, 1) := by decide +kernel
theorem dL_law_610 : decode cL_law 610 = .ok (.iadd, 1) := by decide +kernel
theorem dL_law_611 : decode cL_law 611 = .ok (.iaload, 1) := by decide +kernel
theorem dL_law_612 : decode cL_law 612 = .ok (.invokevirtual 81, 3) := by decide +kernel
theorem dL_law_615 : decode cL_law 615 = .ok (.pop, 1) := by decide +kernel
theorem dL_law_616 : decode cL_law 616 = .ok (.aload_n 2, 1) := by decide +kernel
theorem dL_law_617 : decode cL_law 617 = .ok (.aload_n 0, 1) := by decide +kernel
theorem dL_law_618 : decode cL_law 618 = .ok (.iload_n 3, 1) := by decide +kernel
theorem dL_law_619 : decode cL_law 619 = .ok (.iconst 1, 1) := by decide +kernel
theorem dL_law_620 : decode cL_law 620 = .ok (.iadd, 1) := by decide +kernel
theorem dL_law_621 : decode cL_law 621 = .ok (.iaload, 1) := by decide +kernel
theorem dL_law_622 : decode cL_law 622 = .ok (.invokevirtual 84, 3) := by decide +kernel
theorem dL_law_625 : decode cL_law 625 = .ok (.pop, 1) := by decide +kernel
theorem dL_law_626 : decode cL_law 626 = .ok (.goto 702, 3) := by decide +kernel
theorem dL_law_629 : decode cL_law 629 = .ok (.aload_n 1, 1) := by decide +kernel
theorem dL_law_630 : decode cL_law 630 = .ok (.aload_n 0, 1) := by decide +kernel
theorem dL_law_631 : decode cL_law 631 = .ok (.iload_n 3, 1) := by decide +kernel
theorem dL_law_632 : decode cL_law 632 = .ok (.iconst 1, 1) := by decide +kernel
theorem dL_law_633 : decode cL_law 633 = .ok (.iadd, 1) := by decide +kernel
theorem dL_law_634 : decode cL_law 634 = .ok (.iaload, 1) := by decide +kernel
theorem dL_law_635 : decode cL_law 635 = .ok (.aload_n 0, 1) := by decide +kernel
theorem dL_law_636 : decode cL_law 636 = .ok (.iload_n 3, 1) := by decide +kernel
theorem dL_law_637 : decode cL_law 637 = .ok (.iconst 2, 1) := by decide +kernel
theorem dL_law_638 : decode cL_law 638 = .ok (.iadd, 1) := by decide +kernel
theorem dL_law_639 : decode cL_law 639 = .ok (.iaload, 1) := by decide +kernel
theorem dL_law_640 : decode cL_law 640 = .ok (.invokevirtual 85, 3) := by decide +kernel
theorem dL_law_643 : decode cL_law 643 = .ok (.pop, 1) := by decide +kernel
theorem dL_law_644 : decode cL_law 644 = .ok (.aload_n 2, 1) := by decide +kernel
theorem dL_law_645 : decode cL_law 645 = .ok (.aload_n 0, 1) := by decide +kernel
theorem dL_law_646 : decode cL_law 646 = .ok (.iload_n 3, 1) := by decide +kernel
theorem dL_law_647 : decode cL_law 647 = .ok (.iconst 1, 1) := by decide +kernel
theorem dL_law_648 : decode cL_law 648 = .ok (.iadd, 1) := by decide +kernel
theorem dL_law_649 : decode cL_law 649 = .ok (.iaload, 1) := by decide +kernel
theorem dL_law_650 : decode cL_law 650 = .ok (.aload_n 0, 1) := by decide +kernel
theorem dL_law_651 : decode cL_law 651 = .ok (.iload_n 3, 1) := by decide +kernel
theorem dL_law_652 : decode cL_law 652 = .ok (.iconst 2, 1) := by decide +kernel
theorem dL_law_653 : decode cL_law 653 = .ok (.iadd, 1) := by decide +kernel
theorem dL_law_654 : decode cL_law 654 = .ok (.iaload, 1) := by decide +kernel
theorem dL_law_655 : decode cL_law 655 = .ok (.invokevirtual 88, 3) := by decide +kernel
theorem dL_law_658 : decode cL_law 658 = .ok (.pop, 1) := by decide +kernel
theorem dL_law_659 : decode cL_law 659 = .ok (.goto 669, 3) := by decide +kernel
theorem dL_law_662 : decode cL_law 662 = .ok (.aload_n 1, 1) := by decide +kernel
theorem dL_law_663 : decode cL_law 663 = .ok (.aload_n 0, 1) := by decide +kernel
theorem dL_law_664 : decode cL_law 664 = .ok (.iload_n 3, 1) := by decide +kernel
theorem dL_law_665 : decode cL_law 665 = .ok (.iconst 1, 1) := by decide +kernel
theorem dL_law_666 : decode cL_law 666 = .ok (.iadd, 1) := by decide +kernel
theorem dL_law_667 : decode cL_law 667 = .ok (.iaload, 1) := by decide +kernel
theorem dL_law_668 : decode cL_law 668 = .ok (.aload_n 0, 1) := by decide +kernel
theorem dL_law_669 : decode cL_law 669 = .ok (.iload_n 3, 1) := by decide +kernel
theorem dL_law_670 : decode cL_law 670 = .ok (.iconst 2, 1) := by decide +kernel
theorem dL_law_671 : decode cL_law 671 = .ok (.iadd, 1) := by decide +kernel
theorem dL_law_672 : decode cL_law 672 = .ok (.iaload, 1) := by decide +kernel
theorem dL_law_673 : decode cL_law 673 = .ok (.invokevirtual 89, 3) := by decide +kernel
theorem dL_law_676 : decode cL_law 676 = .ok (.pop, 1) := by decide +kernel
theorem dL_law_677 : decode cL_law 677 = .ok (.aload_n 2, 1) := by decide +kernel
theorem dL_law_678 : decode cL_law 678 = .ok (.aload_n 0, 1) := by decide +kernel
theorem dL_law_679 : decode cL_law 679 = .ok (.iload_n 3, 1) := by decide +kernel
theorem dL_law_680 : decode cL_law 680 = .ok (.iconst 1, 1) := by decide +kernel
theorem dL_law_681 : decode cL_law 681 = .ok (.iadd, 1) := by decide +kernel
theorem dL_law_682 : decode cL_law 682 = .ok (.iaload, 1) := by decide +kernel
theorem dL_law_683 : decode cL_law 683 = .ok (.aload_n 0, 1) := by decide +kernel
theorem dL_law_684 : decode cL_law 684 = .ok (.iload_n 3, 1) := by decide +kernel
theorem dL_law_685 : decode cL_law 685 = .ok (.iconst 2, 1) := by decide +kernel
theorem dL_law_686 : decode cL_law 686 = .ok (.iadd, 1) := by decide +kernel
theorem dL_law_687 : decode cL_law 687 = .ok (.iaload, 1) := by decide +kernel
theorem dL_law_688 : decode cL_law 688 = .ok (.invokevirtual 92, 3) := by decide +kernel
theorem dL_law_691 : decode cL_law 691 = .ok (.pop, 1) := by decide +kernel
theorem dL_law_692 : decode cL_law 692 = .ok (.goto 636, 3) := by decide +kernel
theorem dL_law_695 : decode cL_law 695 = .ok (.aload_n 1, 1) := by decide +kernel
theorem dL_law_696 : decode cL_law 696 = .ok (.aload_n 0, 1) := by decide +kernel
theorem dL_law_697 : decode cL_law 697 = .ok (.iload_n 3, 1) := by decide +kernel
theorem dL_law_698 : decode cL_law 698 = .ok (.iconst 1, 1) := by decide +kernel
theorem dL_law_699 : decode cL_law 699 = .ok (.iadd, 1) := by decide +kernel
theorem dL_law_700 : decode cL_law 700 = .ok (.iaload, 1) := by decide +kernel
theorem dL_law_701 : decode cL_law 701 = .ok (.invokevirtual 93, 3) := by decide +kernel
theorem dL_law_704 : decode cL_law 704 = .ok (.pop, 1) := by decide +kernel
theorem dL_law_705 : decode cL_law 705 = .ok (.aload_n 2, 1) := by decide +kernel
theorem dL_law_706 : decode cL_law 706 = .ok (.aload_n 0, 1) := by decide +kernel
theorem dL_law_707 : decode cL_law 707 = .ok (.iload_n 3, 1) := by decide +kernel
theorem dL_law_708 : decode cL_law 708 = .ok (.iconst 1, 1) := by decide +kernel
theorem dL_law_709 : decode cL_law 709 = .ok (.iadd, 1) := by decide +kernel
theorem dL_law_710 : decode cL_law 710 = .ok (.iaload, 1) := by decide +kernel
theorem dL_law_711 : decode cL_law 711 = .ok (.invokevirtual 96, 3) := by decide +kernel
theorem dL_law_714 : decode cL_law 714 = .ok (.pop, 1) := by decide +kernel
theorem dL_law_715 : decode cL_law 715 = .ok (.goto 613, 3) := by decide +kernel
theorem dL_law_718 : decode cL_law 718 = .ok (.aload_n 1, 1) := by decide +kernel
theorem dL_law_719 : decode cL_law 719 = .ok (.aload_n 0, 1) := by decide +kernel
theorem dL_law_720 : decode cL_law 720 = .ok (.iload_n 3, 1) := by decide +kernel
theorem dL_law_721 : decode cL_law 721 = .ok (.iconst 1, 1) := by decide +kernel
theorem dL_law_722 : decode cL_law 722 = .ok (.iadd, 1) := by decide +kernel
theorem dL_law_723 : decode cL_law 723 = .ok (.iaload, 1) := by decide +kernel
theorem dL_law_724 : decode cL_law 724 = .ok (.aload_n 0, 1) := by decide +kernel
theorem dL_law_725 : decode cL_law 725 = .ok (.iload_n 3, 1) := by decide +kernel
theorem dL_law_726 : decode cL_law 726 = .ok (.iconst 2, 1) := by decide +kernel
theorem dL_law_727 : decode cL_law 727 = .ok (.iadd, 1) := by decide +kernel
theorem dL_law_728 : decode cL_law 728 = .ok (.iaload, 1) := by decide +kernel
theorem dL_law_729 : decode cL_law 729 = .ok (.invokevirtual 97, 3) := by decide +kernel
theorem dL_law_732 : decode cL_law 732 = .ok (.pop, 1) := by decide +kernel
theorem dL_law_733 : decode cL_law 733 = .ok (.aload_n 2, 1) := by decide +kernel
theorem dL_law_734 : decode cL_law 734 = .ok (.aload_n 0, 1) := by decide +kernel
theorem dL_law_735 : decode cL_law 735 = .ok (.iload_n 3, 1) := by decide +kernel
theorem dL_law_736 : decode cL_law 736 = .ok (.iconst 1, 1) := by decide +kernel
theorem dL_law_737 : decode cL_law 737 = .ok (.iadd, 1) := by decide +kernel
theorem dL_law_738 : decode cL_law 738 = .ok (.iaload, 1) := by decide +kernel
theorem dL_law_739 : decode cL_law 739 = .ok (.aload_n 0, 1) := by decide +kernel
theorem dL_law_740 : decode cL_law 740 = .ok (.iload_n 3, 1) := by decide +kernel
theorem dL_law_741 : decode cL_law 741 = .ok (.iconst 2, 1) := by decide +kernel
theorem dL_law_742 : decode cL_law 742 = .ok (.iadd, 1) := by decide +kernel
theorem dL_law_743 : decode cL_law 743 = .ok (.iaload, 1) := by decide +kernel
theorem dL_law_744 : decode cL_law 744 = .ok (.invokevirtual 100, 3) := by decide +kernel
theorem dL_law_747 : decode cL_law 747 = .ok (.pop, 1) := by decide +kernel
theorem dL_law_748 : decode cL_law 748 = .ok (.goto 580, 3) := by decide +kernel
theorem dL_law_751 : decode cL_law 751 = .ok (.aload_n 1, 1) := by decide +kernel
theorem dL_law_752 : decode cL_law 752 = .ok (.aload_n 0, 1) := by decide +kernel
theorem dL_law_753 : decode cL_law 753 = .ok (.iload_n 3, 1) := by decide +kernel
theorem dL_law_754 : decode cL_law 754 = .ok (.iconst 1, 1) := by decide +kernel
theorem dL_law_755 : decode cL_law 755 = .ok (.iadd, 1) := by decide +kernel
theorem dL_law_756 : decode cL_law 756 = .ok (.iaload, 1) := by decide +kernel
theorem dL_law_757 : decode cL_law 757 = .ok (.aload_n 0, 1) := by decide +kernel
theorem dL_law_758 : decode cL_law 758 = .ok (.iload_n 3, 1) := by decide +kernel
theorem dL_law_759 : decode cL_law 759 = .ok (.iconst 2, 1) := by decide +kernel
theorem dL_law_760 : decode cL_law 760 = .ok (.iadd, 1) := by decide +kernel
theorem dL_law_761 : decode cL_law 761 = .ok (.iaload, 1) := by decide +kernel
theorem dL_law_762 : decode cL_law 762 = .ok (.aload_n 0, 1) := by decide +kernel
theorem dL_law_763 : decode cL_law 763 = .ok (.iload_n 3, 1) := by decide +kernel
theorem dL_law_764 : decode cL_law 764 = .ok (.iconst 3, 1) := by decide +kernel
theorem dL_law_765 : decode cL_law 765 = .ok (.iadd, 1) := by decide +kernel
theorem dL_law_766 : decode cL_law 766 = .ok (.iaload, 1) := by decide +kernel
theorem dL_law_767 : decode cL_law 767 = .ok (.aload_n 0, 1) := by decide +kernel
theorem dL_law_768 : decode cL_law 768 = .ok (.iload_n 3, 1) := by decide +kernel
theorem dL_law_769 : decode cL_law 769 = .ok (.iconst 4, 1) := by decide +kernel
theorem dL_law_770 : decode cL_law 770 = .ok (.iadd, 1) := by decide +kernel
theorem dL_law_771 : decode cL_law 771 = .ok (.iaload, 1) := by decide +kernel
theorem dL_law_772 : decode cL_law 772 = .ok (.invokevirtual 101, 3) := by decide +kernel
theorem dL_law_775 : decode cL_law 775 = .ok (.pop, 1) := by decide +kernel
theorem dL_law_776 : decode cL_law 776 = .ok (.aload_n 2, 1) := by decide +kernel
theorem dL_law_777 : decode cL_law 777 = .ok (.aload_n 0, 1) := by decide +kernel
theorem dL_law_778 : decode cL_law 778 = .ok (.iload_n 3, 1) := by decide +kernel
theorem dL_law_779 : decode cL_law 779 = .ok (.iconst 1, 1) := by decide +kernel
theorem dL_law_780 : decode cL_law 780 = .ok (.iadd, 1) := by decide +kernel
theorem dL_law_781 : decode cL_law 781 = .ok (.iaload, 1) := by decide +kernel
theorem dL_law_782 : decode cL_law 782 = .ok (.aload_n 0, 1) := by decide +kernel
theorem dL_law_783 : decode cL_law 783 = .ok (.iload_n 3, 1) := by decide +kernel
theorem dL_law_784 : decode cL_law 784 = .ok (.iconst 2, 1) := by decide +kernel
theorem dL_law_785 : decode cL_law 785 = .ok (.iadd, 1) := by decide +kernel
theorem dL_law_786 : decode cL_law 786 = .ok (.iaload, 1) := by decide +kernel
theorem dL_law_787 : decode cL_law 787 = .ok (.aload_n 0, 1) := by decide +kernel
theorem dL_law_788 : decode cL_law 788 = .ok (.iload_n 3, 1) := by decide +kernel
theorem dL_law_789 : decode cL_law 789 = .ok (.iconst 3, 1) := by decide +kernel
theorem dL_law_790 : decode cL_law 790 = .ok (.iadd, 1) := by decide +kernel
theorem dL_law_791 : decode cL_law 791 = .ok (.iaload, 1) := by decide +kernel
theorem dL_law_792 : decode cL_law 792 = .ok (.aload_n 0, 1) := by decide +kernel
theorem dL_law_793 : decode cL_law 793 = .ok (.iload_n 3, 1) := by decide +kernel
theorem dL_law_794 : decode cL_law 794 = .ok (.iconst 4, 1) := by decide +kernel
theorem dL_law_795 : decode cL_law 795 = .ok (.iadd, 1) := by decide +kernel
theorem dL_law_796 : decode cL_law 796 = .ok (.iaload, 1) := by decide +kernel
theorem dL_law_797 : decode cL_law 797 = .ok (.invokevirtual 105, 3) := by decide +kernel
theorem dL_law_800 : decode cL_law 800 = .ok (.pop, 1) := by decide +kernel
theorem dL_law_801 : decode cL_law 801 = .ok (.goto 527, 3) := by decide +kernel
theorem dL_law_804 : decode cL_law 804 = .ok (.aload_n 1, 1) := by decide +kernel
theorem dL_law_805 : decode cL_law 805 = .ok (.aload_n 0, 1) := by decide +kernel
theorem dL_law_806 : decode cL_law 806 = .ok (.iload_n 3, 1) := by decide +kernel
theorem dL_law_807 : decode cL_law 807 = .ok (.iconst 1, 1) := by decide +kernel
theorem dL_law_808 : decode cL_law 808 = .ok (.iadd, 1) := by decide +kernel
theorem dL_law_809 : decode cL_law 809 = .ok (.iaload, 1) := by decide +kernel
theorem dL_law_810 : decode cL_law 810 = .ok (.aload_n 0, 1) := by decide +kernel
theorem dL_law_811 : decode cL_law 811 = .ok (.iload_n 3, 1) := by decide +kernel
theorem dL_law_812 : decode cL_law 812 = .ok (.iconst 2, 1) := by decide +kernel
theorem dL_law_813 : decode cL_law 813 = .ok (.iadd, 1) := by decide +kernel
theorem dL_law_814 : decode cL_law 814 = .ok (.iaload, 1) := by decide +kernel
theorem dL_law_815 : decode cL_law 815 = .ok (.invokevirtual 106, 3) := by decide +kernel
theorem dL_law_818 : decode cL_law 818 = .ok (.pop, 1) := by decide +kernel
theorem dL_law_819 : decode cL_law 819 = .ok (.aload_n 2, 1) := by decide +kernel
theorem dL_law_820 : decode cL_law 820 = .ok (.aload_n 0, 1) := by decide +kernel
theorem dL_law_821 : decode cL_law 821 = .ok (.iload_n 3, 1) := by decide +kernel
theorem dL_law_822 : decode cL_law 822 = .ok (.iconst 1, 1) := by decide +kernel
theorem dL_law_823 : decode cL_law 823 = .ok (.iadd, 1) := by decide +kernel
theorem dL_law_824 : decode cL_law 824 = .ok (.iaload, 1) := by decide +kernel
theorem dL_law_825 : decode cL_law 825 = .ok (.aload_n 0, 1) := by decide +kernel
theorem dL_law_826 : decode cL_law 826 = .ok (.iload_n 3, 1) := by decide +kernel
theorem dL_law_827 : decode cL_law 827 = .ok (.iconst 2, 1) := by decide +kernel
theorem dL_law_828 : decode cL_law 828 = .ok (.iadd, 1) := by decide +kernel
theorem dL_law_829 : decode cL_law 829 = .ok (.iaload, 1) := by decide +kernel
theorem dL_law_830 : decode cL_law 830 = .ok (.invokevirtual 109, 3) := by decide +kernel
theorem dL_law_833 : decode cL_law 833 = .ok (.pop, 1) := by decide +kernel
theorem dL_law_834 : decode cL_law 834 = .ok (.goto 494, 3) := by decide +kernel
theorem dL_law_837 : decode cL_law 837 = .ok (.aload_n 1, 1) := by decide +kernel
theorem dL_law_838 : decode cL_law 838 = .ok (.aload_n 0, 1) := by decide +kernel
theorem dL_law_839 : decode cL_law 839 = .ok (.iload_n 3, 1) := by decide +kernel
theorem dL_law_840 : decode cL_law 840 = .ok (.iconst 1, 1) := by decide +kernel
theorem dL_law_841 : decode cL_law 841 = .ok (.iadd, 1) := by decide +kernel
theorem dL_law_842 : decode cL_law 842 = .ok (.iaload, 1) := by decide +kernel
theorem dL_law_843 : decode cL_law 843 = .ok (.invokevirtual 110, 3) := by decide +kernel
theorem dL_law_846 : decode cL_law 846 = .ok (.pop, 1) := by decide +kernel
theorem dL_law_847 : decode cL_law 847 = .ok (.aload_n 2, 1) := by decide +kernel
theorem dL_law_848 : decode cL_law 848 = .ok (.aload_n 0, 1) := by decide +kernel
theorem dL_law_849 : decode cL_law 849 = .ok (.iload_n 3, 1) := by decide +kernel
theorem dL_law_850 : decode cL_law 850 = .ok (.iconst 1, 1) := by decide +kernel
theorem dL_law_851 : decode cL_law 851 = .ok (.iadd, 1) := by decide +kernel
theorem dL_law_852 : decode cL_law 852 = .ok (.iaload, 1) := by decide +kernel
theorem dL_law_853 : decode cL_law 853 = .ok (.invokevirtual 113, 3) := by decide +kernel
theorem dL_law_856 : decode cL_law 856 = .ok (.pop, 1) := by decide +kernel
theorem dL_law_857 : decode cL_law 857 = .ok (.goto 471, 3) := by decide +kernel
theorem dL_law_860 : decode cL_law 860 = .ok (.aload_n 1, 1) := by decide +kernel
theorem dL_law_861 : decode cL_law 861 = .ok (.aload_n 0, 1) := by decide +kernel
theorem dL_law_862 : decode cL_law 862 = .ok (.iload_n 3, 1) := by decide +kernel
theorem dL_law_863 : decode cL_law 863 = .ok (.iconst 1, 1) := by decide +kernel
theorem dL_law_864 : decode cL_law 864 = .ok (.iadd, 1) := by decide +kernel
theorem dL_law_865 : decode cL_law 865 = .ok (.iaload, 1) := by decide +kernel
theorem dL_law_866 : decode cL_law 866 = .ok (.aload_n 0, 1) := by decide +kernel
theorem dL_law_867 : decode cL_law 867 = .ok (.iload_n 3, 1) := by decide +kernel
theorem dL_law_868 : decode cL_law 868 = .ok (.iconst 2, 1) := by decide +kernel
theorem dL_law_869 : decode cL_law 869 = .ok (.iadd, 1) := by decide +kernel
theorem dL_law_870 : decode cL_law 870 = .ok (.iaload, 1) := by decide +kernel
theorem dL_law_871 : decode cL_law 871 = .ok (.aload_n 0, 1) := by decide +kernel
theorem dL_law_872 : decode cL_law 872 = .ok (.iload_n 3, 1) := by decide +kernel
theorem dL_law_873 : decode cL_law 873 = .ok (.iconst 3, 1) := by decide +kernel
theorem dL_law_874 : decode cL_law 874 = .ok (.iadd, 1) := by decide +kernel
theorem dL_law_875 : decode cL_law 875 = .ok (.iaload, 1) := by decide +kernel
theorem dL_law_876 : decode cL_law 876 = .ok (.aload_n 0, 1) := by decide +kernel
theorem dL_law_877 : decode cL_law 877 = .ok (.iload_n 3, 1) := by decide +kernel
theorem dL_law_878 : decode cL_law 878 = .ok (.iconst 4, 1) := by decide +kernel
theorem dL_law_879 : decode cL_law 879 = .ok (.iadd, 1) := by decide +kernel
theorem dL_law_880 : decode cL_law 880 = .ok (.iaload, 1) := by decide +kernel
theorem dL_law_881 : decode cL_law 881 = .ok (.invokevirtual 114, 3) := by decide +kernel
theorem dL_law_884 : decode cL_law 884 = .ok (.pop, 1) := by decide +kernel
theorem dL_law_885 : decode cL_law 885 = .ok (.aload_n 2, 1) := by decide +kernel
theorem dL_law_886 : decode cL_law 886 = .ok (.aload_n 0, 1) := by decide +kernel
theorem dL_law_887 : decode cL_law 887 = .ok (.iload_n 3, 1) := by decide +kernel
theorem dL_law_888 : decode cL_law 888 = .ok (.iconst 1, 1) := by decide +kernel
theorem dL_law_889 : decode cL_law 889 = .ok (.iadd, 1) := by decide +kernel
theorem dL_law_890 : decode cL_law 890 = .ok (.iaload, 1) := by decide +kernel
theorem dL_law_891 : decode cL_law 891 = .ok (.aload_n 0, 1) := by decide +kernel
theorem dL_law_892 : decode cL_law 892 = .ok (.iload_n 3, 1) := by decide +kernel
theorem dL_law_893 : decode cL_law 893 = .ok (.iconst 2, 1) := by decide +kernel
theorem dL_law_894 : decode cL_law 894 = .ok (.iadd, 1) := by decide +kernel
theorem dL_law_895 : decode cL_law 895 = .ok (.iaload, 1) := by decide +kernel
theorem dL_law_896 : decode cL_law 896 = .ok (.aload_n 0, 1) := by decide +kernel
theorem dL_law_897 : decode cL_law 897 = .ok (.iload_n 3, 1) := by decide +kernel
theorem dL_law_898 : decode cL_law 898 = .ok (.iconst 3, 1) := by decide +kernel
theorem dL_law_899 : decode cL_law 899 = .ok (.iadd, 1) := by decide +kernel
theorem dL_law_900 : decode cL_law 900 = .ok (.iaload, 1) := by decide +kernel
theorem dL_law_901 : decode cL_law 901 = .ok (.aload_n 0, 1) := by decide +kernel
theorem dL_law_902 : decode cL_law 902 = .ok (.iload_n 3, 1) := by decide +kernel
theorem dL_law_903 : decode cL_law 903 = .ok (.iconst 4, 1) := by decide +kernel
theorem dL_law_904 : decode cL_law 904 = .ok (.iadd, 1) := by decide +kernel
theorem dL_law_905 : decode cL_law 905 = .ok (.iaload, 1) := by decide +kernel
theorem dL_law_906 : decode cL_law 906 = .ok (.invokevirtual 117, 3) := by decide +kernel
theorem dL_law_909 : decode cL_law 909 = .ok (.pop, 1) := by decide +kernel
theorem dL_law_910 : decode cL_law 910 = .ok (.goto 418, 3) := by decide +kernel
theorem dL_law_913 : decode cL_law 913 = .ok (.aload_n 1, 1) := by decide +kernel
theorem dL_law_914 : decode cL_law 914 = .ok (.aload_n 0, 1) := by decide +kernel
theorem dL_law_915 : decode cL_law 915 = .ok (.iload_n 3, 1) := by decide +kernel
theorem dL_law_916 : decode cL_law 916 = .ok (.iconst 1, 1) := by decide +kernel
theorem dL_law_917 : decode cL_law 917 = .ok (.iadd, 1) := by decide +kernel
theorem dL_law_918 : decode cL_law 918 = .ok (.iaload, 1) := by decide +kernel
theorem dL_law_919 : decode cL_law 919 = .ok (.aload_n 0, 1) := by decide +kernel
theorem dL_law_920 : decode cL_law 920 = .ok (.iload_n 3, 1) := by decide +kernel
theorem dL_law_921 : decode cL_law 921 = .ok (.iconst 2, 1) := by decide +kernel
theorem dL_law_922 : decode cL_law 922 = .ok (.iadd, 1) := by decide +kernel
theorem dL_law_923 : decode cL_law 923 = .ok (.iaload, 1) := by decide +kernel
theorem dL_law_924 : decode cL_law 924 = .ok (.aload_n 0, 1) := by decide +kernel
theorem dL_law_925 : decode cL_law 925 = .ok (.iload_n 3, 1) := by decide +kernel
theorem dL_law_926 : decode cL_law 926 = .ok (.iconst 3, 1) := by decide +kernel
theorem dL_law_927 : decode cL_law 927 = .ok (.iadd, 1) := by decide +kernel
theorem dL_law_928 : decode cL_law 928 = .ok (.iaload, 1) := by decide +kernel
theorem dL_law_929 : decode cL_law 929 = .ok (.aload_n 0, 1) := by decide +kernel
theorem dL_law_930 : decode cL_law 930 = .ok (.iload_n 3, 1) := by decide +kernel
theorem dL_law_931 : decode cL_law 931 = .ok (.iconst 4, 1) := by decide +kernel
theorem dL_law_932 : decode cL_law 932 = .ok (.iadd, 1) := by decide +kernel
theorem dL_law_933 : decode cL_law 933 = .ok (.iaload, 1) := by decide +kernel
theorem dL_law_934 : decode cL_law 934 = .ok (.invokevirtual 118, 3) := by decide +kernel
theorem dL_law_937 : decode cL_law 937 = .ok (.pop, 1) := by decide +kernel
theorem dL_law_938 : decode cL_law 938 = .ok (.aload_n 2, 1) := by decide +kernel
theorem dL_law_939 : decode cL_law 939 = .ok (.aload_n 0, 1) := by decide +kernel
theorem dL_law_940 : decode cL_law 940 = .ok (.iload_n 3, 1) := by decide +kernel
theorem dL_law_941 : decode cL_law 941 = .ok (.iconst 1, 1) := by decide +kernel
theorem dL_law_942 : decode cL_law 942 = .ok (.iadd, 1) := by decide +kernel
theorem dL_law_943 : decode cL_law 943 = .ok (.iaload, 1) := by decide +kernel
theorem dL_law_944 : decode cL_law 944 = .ok (.aload_n 0, 1) := by decide +kernel
theorem dL_law_945 : decode cL_law 945 = .ok (.iload_n 3, 1) := by decide +kernel
theorem dL_law_946 : decode cL_law 946 = .ok (.iconst 2, 1) := by decide +kernel
theorem dL_law_947 : decode cL_law 947 = .ok (.iadd, 1) := by decide +kernel
theorem dL_law_948 : decode cL_law 948 = .ok (.iaload, 1) := by decide +kernel
theorem dL_law_949 : decode cL_law 949 = .ok (.aload_n 0, 1) := by decide +kernel
theorem dL_law_950 : decode cL_law 950 = .ok (.iload_n 3, 1) := by decide +kernel
theorem dL_law_951 : decode cL_law 951 = .ok (.iconst 3, 1) := by decide +kernel
theorem dL_law_952 : decode cL_law 952 = .ok (.iadd, 1) := by decide +kernel
theorem dL_law_953 : decode cL_law 953 = .ok (.iaload, 1) := by decide +kernel
theorem dL_law_954 : decode cL_law 954 = .ok (.aload_n 0, 1) := by decide +kernel
theorem dL_law_955 : decode cL_law 955 = .ok (.iload_n 3, 1) := by decide +kernel
theorem dL_law_956 : decode cL_law 956 = .ok (.iconst 4, 1) := by decide +kernel
theorem dL_law_957 : decode cL_law 957 = .ok (.iadd, 1) := by decide +kernel
theorem dL_law_958 : decode cL_law 958 = .ok (.iaload, 1) := by decide +kernel
theorem dL_law_959 : decode cL_law 959 = .ok (.invokevirtual 121, 3) := by decide +kernel
theorem dL_law_962 : decode cL_law 962 = .ok (.pop, 1) := by decide +kernel
theorem dL_law_963 : decode cL_law 963 = .ok (.goto 365, 3) := by decide +kernel
theorem dL_law_966 : decode cL_law 966 = .ok (.aload_n 1, 1) := by decide +kernel
theorem dL_law_967 : decode cL_law 967 = .ok (.aload_n 0, 1) := by decide +kernel
theorem dL_law_968 : decode cL_law 968 = .ok (.iload_n 3, 1) := by decide +kernel
theorem dL_law_969 : decode cL_law 969 = .ok (.iconst 1, 1) := by decide +kernel
theorem dL_law_970 : decode cL_law 970 = .ok (.iadd, 1) := by decide +kernel
theorem dL_law_971 : decode cL_law 971 = .ok (.iaload, 1) := by decide +kernel
theorem dL_law_972 : decode cL_law 972 = .ok (.invokevirtual 122, 3) := by decide +kernel
theorem dL_law_975 : decode cL_law 975 = .ok (.pop, 1) := by decide +kernel
theorem dL_law_976 : decode cL_law 976 = .ok (.aload_n 2, 1) := by decide +kernel
theorem dL_law_977 : decode cL_law 977 = .ok (.aload_n 0, 1) := by decide +kernel
theorem dL_law_978 : decode cL_law 978 = .ok (.iload_n 3, 1) := by decide +kernel
theorem dL_law_979 : decode cL_law 979 = .ok (.iconst 1, 1) := by decide +kernel
theorem dL_law_980 : decode cL_law 980 = .ok (.iadd, 1) := by decide +kernel
theorem dL_law_981 : decode cL_law 981 = .ok (.iaload, 1) := by decide +kernel
theorem dL_law_982 : decode cL_law 982 = .ok (.invokevirtual 125, 3) := by decide +kernel
theorem dL_law_985 : decode cL_law 985 = .ok (.pop, 1) := by decide +kernel
theorem dL_law_986 : decode cL_law 986 = .ok (.goto 342, 3) := by decide +kernel
theorem dL_law_989 : decode cL_law 989 = .ok (.aload_n 1, 1) := by decide +kernel
theorem dL_law_990 : decode cL_law 990 = .ok (.aload_n 0, 1) := by decide +kernel
theorem dL_law_991 : decode cL_law 991 = .ok (.iload_n 3, 1) := by decide +kernel
theorem dL_law_992 : decode cL_law 992 = .ok (.iconst 1, 1) := by decide +kernel
theorem dL_law_993 : decode cL_law 993 = .ok (.iadd, 1) := by decide +kernel
theorem dL_law_994 : decode cL_law 994 = .ok (.iaload, 1) := by decide +kernel
theorem dL_law_995 : decode cL_law 995 = .ok (.invokevirtual 126, 3) := by decide +kernel
theorem dL_law_998 : decode cL_law 998 = .ok (.pop, 1) := by decide +kernel
theorem dL_law_999 : decode cL_law 999 = .ok (.aload_n 2, 1) := by decide +kernel
theorem dL_law_1000 : decode cL_law 1000 = .ok (.aload_n 0, 1) := by decide +kernel
theorem dL_law_1001 : decode cL_law 1001 = .ok (.iload_n 3, 1) := by decide +kernel
theorem dL_law_1002 : decode cL_law 1002 = .ok (.iconst 1, 1) := by decide +kernel
theorem dL_law_1003 : decode cL_law 1003 = .ok (.iadd, 1) := by decide +kernel
theorem dL_law_1004 : decode cL_law 1004 = .ok (.iaload, 1) := by decide +kernel
theorem dL_law_1005 : decode cL_law 1005 = .ok (.invokevirtual 129, 3) := by decide +kernel
theorem dL_law_1008 : decode cL_law 1008 = .ok (.pop, 1) := by decide +kernel
theorem dL_law_1009 : decode cL_law 1009 = .ok (.goto 319, 3) := by decide +kernel
theorem dL_law_1012 : decode cL_law 1012 = .ok (.aload_n 1, 1) := by decide +kernel
theorem dL_law_1013 : decode cL_law 1013 = .ok (.aload_n 0, 1) := by decide +kernel
theorem dL_law_1014 : decode cL_law 1014 = .ok (.iload_n 3, 1) := by decide +kernel
theorem dL_law_1015 : decode cL_law 1015 = .ok (.iconst 1, 1) := by decide +kernel
theorem dL_law_1016 : decode cL_law 1016 = .ok (.iadd, 1) := by decide +kernel
theorem dL_law_1017 : decode cL_law 1017 = .ok (.iaload, 1) := by decide +kernel
theorem dL_law_1018 : decode cL_law 1018 = .ok (.invokevirtual 130, 3) := by decide +kernel
theorem dL_law_1021 : decode cL_law 1021 = .ok (.pop, 1) := by decide +kernel
theorem dL_law_1022 : decode cL_law 1022 = .ok (.aload_n 2, 1) := by decide +kernel
theorem dL_law_1023 : decode cL_law 1023 = .ok (.aload_n 0, 1) := by decide +kernel
theorem dL_law_1024 : decode cL_law 1024 = .ok (.iload_n 3, 1) := by decide +kernel
theorem dL_law_1025 : decode cL_law 1025 = .ok (.iconst 1, 1) := by decide +kernel
theorem dL_law_1026 : decode cL_law 1026 = .ok (.iadd, 1) := by decide +kernel
theorem dL_law_1027 : decode cL_law 1027 = .ok (.iaload, 1) := by decide +kernel
theorem dL_law_1028 : decode cL_law 1028 = .ok (.invokevirtual 133, 3) := by decide +kernel
theorem dL_law_1031 : decode cL_law 1031 = .ok (.pop, 1) := by decide +kernel
theorem dL_law_1032 : decode cL_law 1032 = .ok (.goto 296, 3) := by decide +kernel
theorem dL_law_1035 : decode cL_law 1035 = .ok (.aload_n 1, 1) := by decide +kernel
theorem dL_law_1036 : decode cL_law 1036 = .ok (.aload_n 0, 1) := by decide +kernel
theorem dL_law_1037 : decode cL_law 1037 = .ok (.iload_n 3, 1) := by decide +kernel
theorem dL_law_1038 : decode cL_law 1038 = .ok (.iconst 1, 1) := by decide +kernel
theorem dL_law_1039 : decode cL_law 1039 = .ok (.iadd, 1) := by decide +kernel
theorem dL_law_1040 : decode cL_law 1040 = .ok (.iaload, 1) := by decide +kernel
theorem dL_law_1041 : decode cL_law 1041 = .ok (.invokevirtual 134, 3) := by decide +kernel
theorem dL_law_1044 : decode cL_law 1044 = .ok (.pop, 1) := by decide +kernel
theorem dL_law_1045 : decode cL_law 1045 = .ok (.aload_n 2, 1) := by decide +kernel
theorem dL_law_1046 : decode cL_law 1046 = .ok (.aload_n 0, 1) := by decide +kernel
theorem dL_law_1047 : decode cL_law 1047 = .ok (.iload_n 3, 1) := by decide +kernel
theorem dL_law_1048 : decode cL_law 1048 = .ok (.iconst 1, 1) := by decide +kernel
theorem dL_law_1049 : decode cL_law 1049 = .ok (.iadd, 1) := by decide +kernel
theorem dL_law_1050 : decode cL_law 1050 = .ok (.iaload, 1) := by decide +kernel
theorem dL_law_1051 : decode cL_law 1051 = .ok (.invokevirtual 137, 3) := by decide +kernel
theorem dL_law_1054 : decode cL_law 1054 = .ok (.pop, 1) := by decide +kernel
theorem dL_law_1055 : decode cL_law 1055 = .ok (.goto 273, 3) := by decide +kernel
theorem dL_law_1058 : decode cL_law 1058 = .ok (.aload_n 1, 1) := by decide +kernel
theorem dL_law_1059 : decode cL_law 1059 = .ok (.aload_n 0, 1) := by decide +kernel
theorem dL_law_1060 : decode cL_law 1060 = .ok (.iload_n 3, 1) := by decide +kernel
theorem dL_law_1061 : decode cL_law 1061 = .ok (.iconst 1, 1) := by decide +kernel
theorem dL_law_1062 : decode cL_law 1062 = .ok (.iadd, 1) := by decide +kernel
theorem dL_law_1063 : decode cL_law 1063 = .ok (.iaload, 1) := by decide +kernel
theorem dL_law_1064 : decode cL_law 1064 = .ok (.invokevirtual 138, 3) := by decide +kernel
theorem dL_law_1067 : decode cL_law 1067 = .ok (.pop, 1) := by decide +kernel
theorem dL_law_1068 : decode cL_law 1068 = .ok (.aload_n 2, 1) := by decide +kernel
theorem dL_law_1069 : decode cL_law 1069 = .ok (.aload_n 0, 1) := by decide +kernel
theorem dL_law_1070 : decode cL_law 1070 = .ok (.iload_n 3, 1) := by decide +kernel
theorem dL_law_1071 : decode cL_law 1071 = .ok (.iconst 1, 1) := by decide +kernel
theorem dL_law_1072 : decode cL_law 1072 = .ok (.iadd, 1) := by decide +kernel
theorem dL_law_1073 : decode cL_law 1073 = .ok (.iaload, 1) := by decide +kernel
theorem dL_law_1074 : decode cL_law 1074 = .ok (.invokevirtual 141, 3) := by decide +kernel
theorem dL_law_1077 : decode cL_law 1077 = .ok (.pop, 1) := by decide +kernel
theorem dL_law_1078 : decode cL_law 1078 = .ok (.goto 250, 3) := by decide +kernel
theorem dL_law_1081 : decode cL_law 1081 = .ok (.aload_n 1, 1) := by decide +kernel
theorem dL_law_1082 : decode cL_law 1082 = .ok (.aload_n 0, 1) := by decide +kernel
theorem dL_law_1083 : decode cL_law 1083 = .ok (.iload_n 3, 1) := by decide +kernel
theorem dL_law_1084 : decode cL_law 1084 = .ok (.iconst 1, 1) := by decide +kernel
theorem dL_law_1085 : decode cL_law 1085 = .ok (.iadd, 1) := by decide +kernel
theorem dL_law_1086 : decode cL_law 1086 = .ok (.iaload, 1) := by decide +kernel
theorem dL_law_1087 : decode cL_law 1087 = .ok (.aload_n 0, 1) := by decide +kernel
theorem dL_law_1088 : decode cL_law 1088 = .ok (.iload_n 3, 1) := by decide +kernel
theorem dL_law_1089 : decode cL_law 1089 = .ok (.iconst 2, 1) := by decide +kernel
theorem dL_law_1090 : decode cL_law 1090 = .ok (.iadd, 1) := by decide +kernel
theorem dL_law_1091 : decode cL_law 1091 = .ok (.iaload, 1) := by decide +kernel
theorem dL_law_1092 : decode cL_law 1092 = .ok (.aload_n 0, 1) := by decide +kernel
theorem dL_law_1093 : decode cL_law 1093 = .ok (.iload_n 3, 1) := by decide +kernel
theorem dL_law_1094 : decode cL_law 1094 = .ok (.iconst 3, 1) := by decide +kernel
theorem dL_law_1095 : decode cL_law 1095 = .ok (.iadd, 1) := by decide +kernel
theorem dL_law_1096 : decode cL_law 1096 = .ok (.iaload, 1) := by decide +kernel
theorem dL_law_1097 : decode cL_law 1097 = .ok (.invokevirtual 142, 3) := by decide +kernel
theorem dL_law_1100 : decode cL_law 1100 = .ok (.pop, 1) := by decide +kernel
theorem dL_law_1101 : decode cL_law 1101 = .ok (.aload_n 2, 1) := by decide +kernel
theorem dL_law_1102 : decode cL_law 1102 = .ok (.aload_n 0, 1) := by decide +kernel
theorem dL_law_1103 : decode cL_law 1103 = .ok (.iload_n 3, 1) := by decide +kernel
theorem dL_law_1104 : decode cL_law 1104 = .ok (.iconst 1, 1) := by decide +kernel
theorem dL_law_1105 : decode cL_law 1105 = .ok (.iadd, 1) := by decide +kernel
theorem dL_law_1106 : decode cL_law 1106 = .ok (.iaload, 1) := by decide +kernel
theorem dL_law_1107 : decode cL_law 1107 = .ok (.aload_n 0, 1) := by decide +kernel
theorem dL_law_1108 : decode cL_law 1108 = .ok (.iload_n 3, 1) := by decide +kernel
theorem dL_law_1109 : decode cL_law 1109 = .ok (.iconst 2, 1) := by decide +kernel
theorem dL_law_1110 : decode cL_law 1110 = .ok (.iadd, 1) := by decide +kernel
theorem dL_law_1111 : decode cL_law 1111 = .ok (.iaload, 1) := by decide +kernel
theorem dL_law_1112 : decode cL_law 1112 = .ok (.aload_n 0, 1) := by decide +kernel
theorem dL_law_1113 : decode cL_law 1113 = .ok (.iload_n 3, 1) := by decide +kernel
theorem dL_law_1114 : decode cL_law 1114 = .ok (.iconst 3, 1) := by decide +kernel
theorem dL_law_1115 : decode cL_law 1115 = .ok (.iadd, 1) := by decide +kernel
theorem dL_law_1116 : decode cL_law 1116 = .ok (.iaload, 1) := by decide +kernel
theorem dL_law_1117 : decode cL_law 1117 = .ok (.invokevirtual 145, 3) := by decide +kernel
theorem dL_law_1120 : decode cL_law 1120 = .ok (.pop, 1) := by decide +kernel
theorem dL_law_1121 : decode cL_law 1121 = .ok (.goto 207, 3) := by decide +kernel
theorem dL_law_1124 : decode cL_law 1124 = .ok (.aload_n 1, 1) := by decide +kernel
theorem dL_law_1125 : decode cL_law 1125 = .ok (.aload_n 0, 1) := by decide +kernel
theorem dL_law_1126 : decode cL_law 1126 = .ok (.iload_n 3, 1) := by decide +kernel
theorem dL_law_1127 : decode cL_law 1127 = .ok (.iconst 1, 1) := by decide +kernel
theorem dL_law_1128 : decode cL_law 1128 = .ok (.iadd, 1) := by decide +kernel
theorem dL_law_1129 : decode cL_law 1129 = .ok (.iaload, 1) := by decide +kernel
theorem dL_law_1130 : decode cL_law 1130 = .ok (.aload_n 0, 1) := by decide +kernel
theorem dL_law_1131 : decode cL_law 1131 = .ok (.iload_n 3, 1) := by decide +kernel
theorem dL_law_1132 : decode cL_law 1132 = .ok (.iconst 2, 1) := by decide +kernel
theorem dL_law_1133 : decode cL_law 1133 = .ok (.iadd, 1) := by decide +kernel
theorem dL_law_1134 : decode cL_law 1134 = .ok (.iaload, 1) := by decide +kernel
theorem dL_law_1135 : decode cL_law 1135 = .ok (.aload_n 0, 1) := by decide +kernel
theorem dL_law_1136 : decode cL_law 1136 = .ok (.iload_n 3, 1) := by decide +kernel
theorem dL_law_1137 : decode cL_law 1137 = .ok (.iconst 3, 1) := by decide +kernel
theorem dL_law_1138 : decode cL_law 1138 = .ok (.iadd, 1) := by decide +kernel
theorem dL_law_1139 : decode cL_law 1139 = .ok (.iaload, 1) := by decide +kernel
theorem dL_law_1140 : decode cL_law 1140 = .ok (.invokevirtual 146, 3) := by decide +kernel
theorem dL_law_1143 : decode cL_law 1143 = .ok (.pop, 1) := by decide +kernel
theorem dL_law_1144 : decode cL_law 1144 = .ok (.aload_n 2, 1) := by decide +kernel
theorem dL_law_1145 : decode cL_law 1145 = .ok (.aload_n 0, 1) := by decide +kernel
theorem dL_law_1146 : decode cL_law 1146 = .ok (.iload_n 3, 1) := by decide +kernel
theorem dL_law_1147 : decode cL_law 1147 = .ok (.iconst 1, 1) := by decide +kernel
theorem dL_law_1148 : decode cL_law 1148 = .ok (.iadd, 1) := by decide +kernel
theorem dL_law_1149 : decode cL_law 1149 = .ok (.iaload, 1) := by decide +kernel
theorem dL_law_1150 : decode cL_law 1150 = .ok (.aload_n 0, 1) := by decide +kernel
theorem dL_law_1151 : decode cL_law 1151 = .ok (.iload_n 3, 1) := by decide +kernel
theorem dL_law_1152 : decode cL_law 1152 = .ok (.iconst 2, 1) := by decide +kernel
theorem dL_law_1153 : decode cL_law 1153 = .ok (.iadd, 1) := by decide +kernel
theorem dL_law_1154 : decode cL_law 1154 = .ok (.iaload, 1) := by decide +kernel
theorem dL_law_1155 : decode cL_law 1155 = .ok (.aload_n 0, 1) := by decide +kernel
theorem dL_law_1156 : decode cL_law 1156 = .ok (.iload_n 3, 1) := by decide +kernel
theorem dL_law_1157 : decode cL_law 1157 = .ok (.iconst 3, 1) := by decide +kernel
theorem dL_law_1158 : decode cL_law 1158 = .ok (.iadd, 1) := by decide +kernel
theorem dL_law_1159 : decode cL_law 1159 = .ok (.iaload, 1) := by decide +kernel
theorem dL_law_1160 : decode cL_law 1160 = .ok (.invokevirtual 149, 3) := by decide +kernel
theorem dL_law_1163 : decode cL_law 1163 = .ok (.pop, 1) := by decide +kernel
theorem dL_law_1164 : decode cL_law 1164 = .ok (.goto 164, 3) := by decide +kernel
theorem dL_law_1167 : decode cL_law 1167 = .ok (.aload_n 1, 1) := by decide +kernel
theorem dL_law_1168 : decode cL_law 1168 = .ok (.aload_n 0, 1) := by decide +kernel
theorem dL_law_1169 : decode cL_law 1169 = .ok (.iload_n 3, 1) := by decide +kernel
theorem dL_law_1170 : decode cL_law 1170 = .ok (.iconst 1, 1) := by decide +kernel
theorem dL_law_1171 : decode cL_law 1171 = .ok (.iadd, 1) := by decide +kernel
theorem dL_law_1172 : decode cL_law 1172 = .ok (.iaload, 1) := by decide +kernel
theorem dL_law_1173 : decode cL_law 1173 = .ok (.aload_n 0, 1) := by decide +kernel
theorem dL_law_1174 : decode cL_law 1174 = .ok (.iload_n 3, 1) := by decide +kernel
theorem dL_law_1175 : decode cL_law 1175 = .ok (.iconst 2, 1) := by decide +kernel
theorem dL_law_1176 : decode cL_law 1176 = .ok (.iadd, 1) := by decide +kernel
theorem dL_law_1177 : decode cL_law 1177 = .ok (.iaload, 1) := by decide +kernel
theorem dL_law_1178 : decode cL_law 1178 = .ok (.invokevirtual 150, 3) := by decide +kernel
theorem dL_law_1181 : decode cL_law 1181 = .ok (.pop, 1) := by decide +kernel
theorem dL_law_1182 : decode cL_law 1182 = .ok (.aload_n 2, 1) := by decide +kernel
theorem dL_law_1183 : decode cL_law 1183 = .ok (.aload_n 0, 1) := by decide +kernel
theorem dL_law_1184 : decode cL_law 1184 = .ok (.iload_n 3, 1) := by decide +kernel
theorem dL_law_1185 : decode cL_law 1185 = .ok (.iconst 1, 1) := by decide +kernel
theorem dL_law_1186 : decode cL_law 1186 = .ok (.iadd, 1) := by decide +kernel
theorem dL_law_1187 : decode cL_law 1187 = .ok (.iaload, 1) := by decide +kernel
theorem dL_law_1188 : decode cL_law 1188 = .ok (.aload_n 0, 1) := by decide +kernel
theorem dL_law_1189 : decode cL_law 1189 = .ok (.iload_n 3, 1) := by decide +kernel
theorem dL_law_1190 : decode cL_law 1190 = .ok (.iconst 2, 1) := by decide +kernel
theorem dL_law_1191 : decode cL_law 1191 = .ok (.iadd, 1) := by decide +kernel
theorem dL_law_1192 : decode cL_law 1192 = .ok (.iaload, 1) := by decide +kernel
theorem dL_law_1193 : decode cL_law 1193 = .ok (.invokevirtual 153, 3) := by decide +kernel
theorem dL_law_1196 : decode cL_law 1196 = .ok (.pop, 1) := by decide +kernel
theorem dL_law_1197 : decode cL_law 1197 = .ok (.goto 131, 3) := by decide +kernel
theorem dL_law_1200 : decode cL_law 1200 = .ok (.aload_n 1, 1) := by decide +kernel
theorem dL_law_1201 : decode cL_law 1201 = .ok (.aload_n 0, 1) := by decide +kernel
theorem dL_law_1202 : decode cL_law 1202 = .ok (.iload_n 3, 1) := by decide +kernel
theorem dL_law_1203 : decode cL_law 1203 = .ok (.iconst 1, 1) := by decide +kernel
theorem dL_law_1204 : decode cL_law 1204 = .ok (.iadd, 1) := by decide +kernel
theorem dL_law_1205 : decode cL_law 1205 = .ok (.iaload, 1) := by decide +kernel
theorem dL_law_1206 : decode cL_law 1206 = .ok (.invokevirtual 154, 3) := by decide +kernel
theorem dL_law_1209 : decode cL_law 1209 = .ok (.pop2, 1) := by decide +kernel
theorem dL_law_1210 : decode cL_law 1210 = .ok (.aload_n 2, 1) := by decide +kernel
theorem dL_law_1211 : decode cL_law 1211 = .ok (.aload_n 0, 1) := by decide +kernel
theorem dL_law_1212 : decode cL_law 1212 = .ok (.iload_n 3, 1) := by decide +kernel
theorem dL_law_1213 : decode cL_law 1213 = .ok (.iconst 1, 1) := by decide +kernel
theorem dL_law_1214 : decode cL_law 1214 = .ok (.iadd, 1) := by decide +kernel
theorem dL_law_1215 : decode cL_law 1215 = .ok (.iaload, 1) := by decide +kernel
theorem dL_law_1216 : decode cL_law 1216 = .ok (.invokevirtual 158, 3) := by decide +kernel
theorem dL_law_1219 : decode cL_law 1219 = .ok (.pop2, 1) := by decide +kernel
theorem dL_law_1220 : decode cL_law 1220 = .ok (.goto 108, 3) := by decide +kernel
theorem dL_law_1223 : decode cL_law 1223 = .ok (.aload_n 1, 1) := by decide +kernel
theorem dL_law_1224 : decode cL_law 1224 = .ok (.aload_n 0, 1) := by decide +kernel
theorem dL_law_1225 : decode cL_law 1225 = .ok (.iload_n 3, 1) := by decide +kernel
theorem dL_law_1226 : decode cL_law 1226 = .ok (.iconst 1, 1) := by decide +kernel
theorem dL_law_1227 : decode cL_law 1227 = .ok (.iadd, 1) := by decide +kernel
theorem dL_law_1228 : decode cL_law 1228 = .ok (.iaload, 1) := by decide +kernel
theorem dL_law_1229 : decode cL_law 1229 = .ok (.invokevirtual 159, 3) := by decide +kernel
theorem dL_law_1232 : decode cL_law 1232 = .ok (.aload_n 2, 1) := by decide +kernel
theorem dL_law_1233 : decode cL_law 1233 = .ok (.aload_n 0, 1) := by decide +kernel
theorem dL_law_1234 : decode cL_law 1234 = .ok (.iload_n 3, 1) := by decide +kernel
theorem dL_law_1235 : decode cL_law 1235 = .ok (.iconst 1, 1) := by decide +kernel
theorem dL_law_1236 : decode cL_law 1236 = .ok (.iadd, 1) := by decide +kernel
theorem dL_law_1237 : decode cL_law 1237 = .ok (.iaload, 1) := by decide +kernel
theorem dL_law_1238 : decode cL_law 1238 = .ok (.invokevirtual 162, 3) := by decide +kernel
theorem dL_law_1241 : decode cL_law 1241 = .ok (.if_icmp .eq 87, 3) := by decide +kernel
theorem dL_law_1244 : decode cL_law 1244 = .ok (.iconst 0, 1) := by decide +kernel
theorem dL_law_1245 : decode cL_law 1245 = .ok (.ireturn, 1) := by decide +kernel
theorem dL_law_1246 : decode cL_law 1246 = .ok (.aload_n 1, 1) := by decide +kernel
theorem dL_law_1247 : decode cL_law 1247 = .ok (.aload_n 0, 1) := by decide +kernel
theorem dL_law_1248 : decode cL_law 1248 = .ok (.iload_n 3, 1) := by decide +kernel
theorem dL_law_1249 : decode cL_law 1249 = .ok (.iconst 1, 1) := by decide +kernel
theorem dL_law_1250 : decode cL_law 1250 = .ok (.iadd, 1) := by decide +kernel
theorem dL_law_1251 : decode cL_law 1251 = .ok (.iaload, 1) := by decide +kernel
theorem dL_law_1252 : decode cL_law 1252 = .ok (.invokevirtual 163, 3) := by decide +kernel
theorem dL_law_1255 : decode cL_law 1255 = .ok (.pop, 1) := by decide +kernel
theorem dL_law_1256 : decode cL_law 1256 = .ok (.aload_n 2, 1) := by decide +kernel
theorem dL_law_1257 : decode cL_law 1257 = .ok (.aload_n 0, 1) := by decide +kernel
theorem dL_law_1258 : decode cL_law 1258 = .ok (.iload_n 3, 1) := by decide +kernel
theorem dL_law_1259 : decode cL_law 1259 = .ok (.iconst 1, 1) := by decide +kernel
theorem dL_law_1260 : decode cL_law 1260 = .ok (.iadd, 1) := by decide +kernel
theorem dL_law_1261 : decode cL_law 1261 = .ok (.iaload, 1) := by decide +kernel
theorem dL_law_1262 : decode cL_law 1262 = .ok (.invokevirtual 166, 3) := by decide +kernel
theorem dL_law_1265 : decode cL_law 1265 = .ok (.pop, 1) := by decide +kernel
theorem dL_law_1266 : decode cL_law 1266 = .ok (.goto 62, 3) := by decide +kernel
theorem dL_law_1269 : decode cL_law 1269 = .ok (.aload_n 1, 1) := by decide +kernel
theorem dL_law_1270 : decode cL_law 1270 = .ok (.aload_n 0, 1) := by decide +kernel
theorem dL_law_1271 : decode cL_law 1271 = .ok (.iload_n 3, 1) := by decide +kernel
theorem dL_law_1272 : decode cL_law 1272 = .ok (.iconst 1, 1) := by decide +kernel
theorem dL_law_1273 : decode cL_law 1273 = .ok (.iadd, 1) := by decide +kernel
theorem dL_law_1274 : decode cL_law 1274 = .ok (.iaload, 1) := by decide +kernel
theorem dL_law_1275 : decode cL_law 1275 = .ok (.invokevirtual 167, 3) := by decide +kernel
theorem dL_law_1278 : decode cL_law 1278 = .ok (.pop, 1) := by decide +kernel
theorem dL_law_1279 : decode cL_law 1279 = .ok (.aload_n 2, 1) := by decide +kernel
theorem dL_law_1280 : decode cL_law 1280 = .ok (.aload_n 0, 1) := by decide +kernel
theorem dL_law_1281 : decode cL_law 1281 = .ok (.iload_n 3, 1) := by decide +kernel
theorem dL_law_1282 : decode cL_law 1282 = .ok (.iconst 1, 1) := by decide +kernel
theorem dL_law_1283 : decode cL_law 1283 = .ok (.iadd, 1) := by decide +kernel
theorem dL_law_1284 : decode cL_law 1284 = .ok (.iaload, 1) := by decide +kernel
theorem dL_law_1285 : decode cL_law 1285 = .ok (.invokevirtual 170, 3) := by decide +kernel
theorem dL_law_1288 : decode cL_law 1288 = .ok (.pop, 1) := by decide +kernel
theorem dL_law_1289 : decode cL_law 1289 = .ok (.goto 39, 3) := by decide +kernel
theorem dL_law_1292 : decode cL_law 1292 = .ok (.aload_n 1, 1) := by decide +kernel
theorem dL_law_1293 : decode cL_law 1293 = .ok (.aload_n 0, 1) := by decide +kernel
theorem dL_law_1294 : decode cL_law 1294 = .ok (.iload_n 3, 1) := by decide +kernel
theorem dL_law_1295 : decode cL_law 1295 = .ok (.iconst 1, 1) := by decide +kernel
theorem dL_law_1296 : decode cL_law 1296 = .ok (.iadd, 1) := by decide +kernel
theorem dL_law_1297 : decode cL_law 1297 = .ok (.iaload, 1) := by decide +kernel
theorem dL_law_1298 : decode cL_law 1298 = .ok (.invokevirtual 171, 3) := by decide +kernel
theorem dL_law_1301 : decode cL_law 1301 = .ok (.pop, 1) := by decide +kernel
theorem dL_law_1302 : decode cL_law 1302 = .ok (.aload_n 2, 1) := by decide +kernel
theorem dL_law_1303 : decode cL_law 1303 = .ok (.aload_n 0, 1) := by decide +kernel
theorem dL_law_1304 : decode cL_law 1304 = .ok (.iload_n 3, 1) := by decide +kernel
theorem dL_law_1305 : decode cL_law 1305 = .ok (.iconst 1, 1) := by decide +kernel
theorem dL_law_1306 : decode cL_law 1306 = .ok (.iadd, 1) := by decide +kernel
theorem dL_law_1307 : decode cL_law 1307 = .ok (.iaload, 1) := by decide +kernel
theorem dL_law_1308 : decode cL_law 1308 = .ok (.invokevirtual 174, 3) := by decide +kernel
theorem dL_law_1311 : decode cL_law 1311 = .ok (.pop, 1) := by decide +kernel
theorem dL_law_1312 : decode cL_law 1312 = .ok (.goto 16, 3) := by decide +kernel
theorem dL_law_1315 : decode cL_law 1315 = .ok (.aload_n 1, 1) := by decide +kernel
theorem dL_law_1316 : decode cL_law 1316 = .ok (.invokevirtual 175, 3) := by decide +kernel
theorem dL_law_1319 : decode cL_law 1319 = .ok (.pop2, 1) := by decide +kernel
theorem dL_law_1320 : decode cL_law 1320 = .ok (.aload_n 2, 1) := by decide +kernel
theorem dL_law_1321 : decode cL_law 1321 = .ok (.invokevirtual 179, 3) := by decide +kernel
theorem dL_law_1324 : decode cL_law 1324 = .ok (.pop2, 1) := by decide +kernel
theorem dL_law_1325 : decode cL_law 1325 = .ok (.goto 3, 3) := by decide +kernel
theorem dL_law_1328 : decode cL_law 1328 = .ok (.iinc 3 5, 3) := by decide +kernel
theorem dL_law_1331 : decode cL_law 1331 = .ok (.goto (-1313), 3) := by decide +kernel
theorem dL_law_1334 : decode cL_law 1334 = .ok (.iconst 1, 1) := by decide +kernel
theorem dL_law_1335 : decode cL_law 1335 = .ok (.ireturn, 1) := by decide +kernel
end
section
theorem wd0 : Cond.selects RX6 yX6_startAnew yX6_startAnew ∈ lw_tbl := List.mem_of_getElem? (i := 0) (by decide +kernel)
theorem wd1 : Cond.selects RX4 yX4_drop yX4_drop ∈ lw_tbl := List.mem_of_getElem? (i := 1) (by decide +kernel)
theorem wd2 : Cond.selects RX7 yX7_bad yX7_bad ∈ lw_tbl := List.mem_of_getElem? (i := 2) (by decide +kernel)
theorem wd3 : Cond.selects RX7 yX7_full yX7_full ∈ lw_tbl := List.mem_of_getElem? (i := 3) (by decide +kernel)
theorem wd4 : Cond.selects RX6 yX6_addThing yX6_addThing ∈ lw_tbl := List.mem_of_getElem? (i := 4) (by decide +kernel)
theorem wd5 : Cond.selects RX6 yX6_addOne yX6_addOne ∈ lw_tbl := List.mem_of_getElem? (i := 5) (by decide +kernel)
theorem wd6 : Cond.selects RX3 yX3_append yX3_append ∈ lw_tbl := List.mem_of_getElem? (i := 6) (by decide +kernel)
theorem wd7 : Cond.selects RX3 yX3_readItems yX3_readItems ∈ lw_tbl := List.mem_of_getElem? (i := 7) (by decide +kernel)
theorem wd8 : Cond.selects RX3 yX3_nextToken yX3_nextToken ∈ lw_tbl := List.mem_of_getElem? (i := 8) (by decide +kernel)
theorem wd9 : Cond.selects RX3 yX3_passRun yX3_passRun ∈ lw_tbl := List.mem_of_getElem? (i := 9) (by decide +kernel)
theorem wd10 : Cond.selects RX3 yX3_takeItem yX3_takeItem ∈ lw_tbl := List.mem_of_getElem? (i := 10) (by decide +kernel)
theorem wd11 : Cond.selects RX3 yX3_isWord yX3_isWord ∈ lw_tbl := List.mem_of_getElem? (i := 11) (by decide +kernel)
theorem wd12 : Cond.selects RX3 yX3_takeThing yX3_takeThing ∈ lw_tbl := List.mem_of_getElem? (i := 12) (by decide +kernel)
theorem wd13 : Cond.selects RX3 yX3_takeNumber yX3_takeNumber ∈ lw_tbl := List.mem_of_getElem? (i := 13) (by decide +kernel)
theorem wd14 : Cond.selects RX3 yX3_takeOne yX3_takeOne ∈ lw_tbl := List.mem_of_getElem? (i := 14) (by decide +kernel)
theorem wd15 : Cond.selects RX3 yX3_takeOwn yX3_takeOwn ∈ lw_tbl := List.mem_of_getElem? (i := 15) (by decide +kernel)
theorem wd16 : Cond.selects RX6 yX6_mayGet yX6_mayGet ∈ lw_tbl := List.mem_of_getElem? (i := 16) (by decide +kernel)
theorem wd17 : Cond.selects RX2 yX2_isHere yX2_isHere ∈ lw_tbl := List.mem_of_getElem? (i := 17) (by decide +kernel)
theorem wd18 : Cond.selects RX6 yX6_ownerOf yX6_ownerOf ∈ lw_tbl := List.mem_of_getElem? (i := 18) (by decide +kernel)
theorem wd19 : Cond.selects RX6 yX6_ownerIn yX6_ownerIn ∈ lw_tbl := List.mem_of_getElem? (i := 19) (by decide +kernel)
theorem wd20 : Cond.selects RX3 yX3_takeLeave yX3_takeLeave ∈ lw_tbl := List.mem_of_getElem? (i := 20) (by decide +kernel)
theorem wd21 : Cond.selects RX3 yX3_takeYears yX3_takeYears ∈ lw_tbl := List.mem_of_getElem? (i := 21) (by decide +kernel)
theorem wd22 : Cond.selects RX6 yX6_passYears yX6_passYears ∈ lw_tbl := List.mem_of_getElem? (i := 22) (by decide +kernel)
theorem wd23 : Cond.selects RX6 yX6_isHeldIn yX6_isHeldIn ∈ lw_tbl := List.mem_of_getElem? (i := 23) (by decide +kernel)
theorem wd24 : Cond.selects RX6 yX6_hasThing yX6_hasThing ∈ lw_tbl := List.mem_of_getElem? (i := 24) (by decide +kernel)
theorem wd25 : Cond.selects RX2 yX2_growOlder yX2_growOlder ∈ lw_tbl := List.mem_of_getElem? (i := 25) (by decide +kernel)
theorem wd26 : Cond.selects RX2 yX2_lose yX2_lose ∈ lw_tbl := List.mem_of_getElem? (i := 26) (by decide +kernel)
theorem wd27 : Cond.selects RX3 yX3_takeStop yX3_takeStop ∈ lw_tbl := List.mem_of_getElem? (i := 27) (by decide +kernel)
theorem wd28 : Cond.selects RX6 yX6_copyFrom yX6_copyFrom ∈ lw_tbl := List.mem_of_getElem? (i := 28) (by decide +kernel)
theorem wd29 : Cond.selects RX2 yX2_copyFrom yX2_copyFrom ∈ lw_tbl := List.mem_of_getElem? (i := 29) (by decide +kernel)
theorem wd30 : Cond.selects RX4 yX4_copyFrom yX4_copyFrom ∈ lw_tbl := List.mem_of_getElem? (i := 30) (by decide +kernel)
theorem wd31 : Cond.selects RX6 yX6_hasOne yX6_hasOne ∈ lw_tbl := List.mem_of_getElem? (i := 31) (by decide +kernel)
theorem wd32 : Cond.selects RX7 yX7_no yX7_no ∈ lw_tbl := List.mem_of_getElem? (i := 32) (by decide +kernel)
theorem wd33 : Cond.selects RX6 yX6_remember yX6_remember ∈ lw_tbl := List.mem_of_getElem? (i := 33) (by decide +kernel)
theorem wd34 : Cond.selects RX6 yX6_holdsFor yX6_holdsFor ∈ lw_tbl := List.mem_of_getElem? (i := 34) (by decide +kernel)
theorem wd35 : Cond.selects RX6 yX6_weightOf yX6_weightOf ∈ lw_tbl := List.mem_of_getElem? (i := 35) (by decide +kernel)
theorem wd36 : Cond.selects RX6 yX6_liftOf yX6_liftOf ∈ lw_tbl := List.mem_of_getElem? (i := 36) (by decide +kernel)
theorem wd37 : Cond.selects RX2 yX2_countHere yX2_countHere ∈ lw_tbl := List.mem_of_getElem? (i := 37) (by decide +kernel)
theorem wd38 : Cond.selects RX6 yX6_bringBack yX6_bringBack ∈ lw_tbl := List.mem_of_getElem? (i := 38) (by decide +kernel)
theorem wd39 : Cond.selects RX6 yX6_factOfOne yX6_factOfOne ∈ lw_tbl := List.mem_of_getElem? (i := 39) (by decide +kernel)
theorem wd40 : Cond.selects RX1 yX1_fill yX1_fill ∈ lw_tbl := List.mem_of_getElem? (i := 40) (by decide +kernel)
theorem wd41 : Cond.selects RX6 yX6_thingsHolding yX6_thingsHolding ∈ lw_tbl := List.mem_of_getElem? (i := 41) (by decide +kernel)
theorem wd42 : Cond.selects RX1 yX1_best yX1_best ∈ lw_tbl := List.mem_of_getElem? (i := 42) (by decide +kernel)
theorem wd43 : Cond.selects RX1 yX1_most yX1_most ∈ lw_tbl := List.mem_of_getElem? (i := 43) (by decide +kernel)
theorem wd44 : Cond.selects RX1 yX1_firstThingOf yX1_firstThingOf ∈ lw_tbl := List.mem_of_getElem? (i := 44) (by decide +kernel)
theorem wd45 : Cond.selects RX1 yX1_firstThing yX1_firstThing ∈ lw_tbl := List.mem_of_getElem? (i := 45) (by decide +kernel)
theorem wd46 : Cond.selects RX6 yX6_toldWeight yX6_toldWeight ∈ lw_tbl := List.mem_of_getElem? (i := 46) (by decide +kernel)
theorem wd47 : Cond.selects RX6 yX6_liftByTwo yX6_liftByTwo ∈ lw_tbl := List.mem_of_getElem? (i := 47) (by decide +kernel)
theorem wd48 : Cond.selects RX4 yX4_isFull yX4_isFull ∈ lw_tbl := List.mem_of_getElem? (i := 48) (by decide +kernel)
theorem wd49 : Cond.selects RX4 yX4_add yX4_add ∈ lw_tbl := List.mem_of_getElem? (i := 49) (by decide +kernel)
theorem wd50 : Cond.selects RX6 yX6_fittingStrengths yX6_fittingStrengths ∈ lw_tbl := List.mem_of_getElem? (i := 50) (by decide +kernel)
theorem wd51 : Cond.selects RX6 yX6_fitsSeen yX6_fitsSeen ∈ lw_tbl := List.mem_of_getElem? (i := 51) (by decide +kernel)
theorem wd52 : Cond.selects RX4 yX4_cell yX4_cell ∈ lw_tbl := List.mem_of_getElem? (i := 52) (by decide +kernel)
theorem wd53 : Cond.selects RX0 yX0_fillByStrength yX0_fillByStrength ∈ lw_tbl := List.mem_of_getElem? (i := 53) (by decide +kernel)
theorem wd54 : Cond.selects RX0 yX0_put yX0_put ∈ lw_tbl := List.mem_of_getElem? (i := 54) (by decide +kernel)
theorem wd55 : Cond.selects RX0 yX0_greaterPart yX0_greaterPart ∈ lw_tbl := List.mem_of_getElem? (i := 55) (by decide +kernel)
theorem wd56 : Cond.selects RX6 yX6_fittingThingKinds yX6_fittingThingKinds ∈ lw_tbl := List.mem_of_getElem? (i := 56) (by decide +kernel)
theorem wd57 : Cond.selects RX6 yX6_fitsNotes yX6_fitsNotes ∈ lw_tbl := List.mem_of_getElem? (i := 57) (by decide +kernel)
theorem wd58 : Cond.selects RX0 yX0_fillByThingKind yX0_fillByThingKind ∈ lw_tbl := List.mem_of_getElem? (i := 58) (by decide +kernel)
theorem wd59 : Cond.selects RX0 yX0_mostAlike yX0_mostAlike ∈ lw_tbl := List.mem_of_getElem? (i := 59) (by decide +kernel)
theorem wd60 : Cond.selects RX6 yX6_fittingOneKinds yX6_fittingOneKinds ∈ lw_tbl := List.mem_of_getElem? (i := 60) (by decide +kernel)
theorem wd61 : Cond.selects RX6 yX6_fitsMarks yX6_fitsMarks ∈ lw_tbl := List.mem_of_getElem? (i := 61) (by decide +kernel)
theorem wd62 : Cond.selects RX0 yX0_fillByOneKind yX0_fillByOneKind ∈ lw_tbl := List.mem_of_getElem? (i := 62) (by decide +kernel)
theorem wd63 : Cond.selects RX6 yX6_tenthsHeld yX6_tenthsHeld ∈ lw_tbl := List.mem_of_getElem? (i := 63) (by decide +kernel)
theorem wd64 : Cond.selects RX7 yX7_setFraction yX7_setFraction ∈ lw_tbl := List.mem_of_getElem? (i := 64) (by decide +kernel)
theorem wd65 : Cond.selects RX6 yX6_giveIfFree yX6_giveIfFree ∈ lw_tbl := List.mem_of_getElem? (i := 65) (by decide +kernel)
theorem wd66 : Cond.selects RX7 yX7_howMany yX7_howMany ∈ lw_tbl := List.mem_of_getElem? (i := 66) (by decide +kernel)
theorem wd67 : Cond.selects RX6 yX6_countOwned yX6_countOwned ∈ lw_tbl := List.mem_of_getElem? (i := 67) (by decide +kernel)
theorem wd68 : Cond.selects RX6 yX6_mixInto yX6_mixInto ∈ lw_tbl := List.mem_of_getElem? (i := 68) (by decide +kernel)
theorem wd69 : Cond.selects RX4 yX4_mixInto yX4_mixInto ∈ lw_tbl := List.mem_of_getElem? (i := 69) (by decide +kernel)
theorem wd70 : Cond.selects RX8 yX8_begin yX8_begin ∈ lw_tbl := List.mem_of_getElem? (i := 70) (by decide +kernel)
theorem wd71 : Cond.selects RX8 yX8_bad yX8_bad ∈ lw_tbl := List.mem_of_getElem? (i := 71) (by decide +kernel)
theorem wd72 : Cond.selects RX8 yX8_full yX8_full ∈ lw_tbl := List.mem_of_getElem? (i := 72) (by decide +kernel)
theorem wd73 : Cond.selects RX8 yX8_add yX8_add ∈ lw_tbl := List.mem_of_getElem? (i := 73) (by decide +kernel)
theorem wd74 : Cond.selects RX8 yX8_join yX8_join ∈ lw_tbl := List.mem_of_getElem? (i := 74) (by decide +kernel)
theorem wd75 : Cond.selects RX8 yX8_step yX8_step ∈ lw_tbl := List.mem_of_getElem? (i := 75) (by decide +kernel)
theorem wd76 : Cond.selects RX8 yX8_here yX8_here ∈ lw_tbl := List.mem_of_getElem? (i := 76) (by decide +kernel)
theorem wd77 : Cond.selects RX8 yX8_wordOf yX8_wordOf ∈ lw_tbl := List.mem_of_getElem? (i := 77) (by decide +kernel)
theorem wd78 : Cond.selects RX8 yX8_spells yX8_spells ∈ lw_tbl := List.mem_of_getElem? (i := 78) (by decide +kernel)
theorem wd79 : Cond.selects RX8 yX8_may yX8_may ∈ lw_tbl := List.mem_of_getElem? (i := 79) (by decide +kernel)
theorem wd80 : Cond.selects RX8 yX8_due yX8_due ∈ lw_tbl := List.mem_of_getElem? (i := 80) (by decide +kernel)
theorem wd81 : Cond.selects RX8 yX8_item yX8_item ∈ lw_tbl := List.mem_of_getElem? (i := 81) (by decide +kernel)
theorem wd82 : Cond.selects RX8 yX8_readThing yX8_readThing ∈ lw_tbl := List.mem_of_getElem? (i := 82) (by decide +kernel)
theorem wd83 : Cond.selects RX8 yX8_number yX8_number ∈ lw_tbl := List.mem_of_getElem? (i := 83) (by decide +kernel)
theorem wd84 : Cond.selects RX8 yX8_readOne yX8_readOne ∈ lw_tbl := List.mem_of_getElem? (i := 84) (by decide +kernel)
theorem wd85 : Cond.selects RX8 yX8_readOwn yX8_readOwn ∈ lw_tbl := List.mem_of_getElem? (i := 85) (by decide +kernel)
theorem wd86 : Cond.selects RX8 yX8_ownerOf yX8_ownerOf ∈ lw_tbl := List.mem_of_getElem? (i := 86) (by decide +kernel)
theorem wd87 : Cond.selects RX8 yX8_readLeave yX8_readLeave ∈ lw_tbl := List.mem_of_getElem? (i := 87) (by decide +kernel)
theorem wd88 : Cond.selects RX8 yX8_readYears yX8_readYears ∈ lw_tbl := List.mem_of_getElem? (i := 88) (by decide +kernel)
theorem wd89 : Cond.selects RX8 yX8_passOn yX8_passOn ∈ lw_tbl := List.mem_of_getElem? (i := 89) (by decide +kernel)
theorem wd90 : Cond.selects RX8 yX8_isHeld yX8_isHeld ∈ lw_tbl := List.mem_of_getElem? (i := 90) (by decide +kernel)
theorem wd91 : Cond.selects RX8 yX8_weighsOf yX8_weighsOf ∈ lw_tbl := List.mem_of_getElem? (i := 91) (by decide +kernel)
theorem wd92 : Cond.selects RX8 yX8_liftsOf yX8_liftsOf ∈ lw_tbl := List.mem_of_getElem? (i := 92) (by decide +kernel)
theorem wd93 : Cond.selects RX8 yX8_copyRow yX8_copyRow ∈ lw_tbl := List.mem_of_getElem? (i := 93) (by decide +kernel)
theorem wd94 : Cond.selects RX8 yX8_isOne yX8_isOne ∈ lw_tbl := List.mem_of_getElem? (i := 94) (by decide +kernel)
theorem wd95 : Cond.selects RX8 yX8_isThing yX8_isThing ∈ lw_tbl := List.mem_of_getElem? (i := 95) (by decide +kernel)
theorem wd96 : Cond.selects RX8 yX8_isLost yX8_isLost ∈ lw_tbl := List.mem_of_getElem? (i := 96) (by decide +kernel)
theorem wd97 : Cond.selects RX8 yX8_no yX8_no ∈ lw_tbl := List.mem_of_getElem? (i := 97) (by decide +kernel)
theorem wd98 : Cond.selects RX8 yX8_know yX8_know ∈ lw_tbl := List.mem_of_getElem? (i := 98) (by decide +kernel)
theorem wd99 : Cond.selects RX8 yX8_hereOf yX8_hereOf ∈ lw_tbl := List.mem_of_getElem? (i := 99) (by decide +kernel)
theorem wd100 : Cond.selects RX8 yX8_told yX8_told ∈ lw_tbl := List.mem_of_getElem? (i := 100) (by decide +kernel)
theorem wd101 : Cond.selects RX8 yX8_liftsIn yX8_liftsIn ∈ lw_tbl := List.mem_of_getElem? (i := 101) (by decide +kernel)
theorem wd102 : Cond.selects RX8 yX8_ageIn yX8_ageIn ∈ lw_tbl := List.mem_of_getElem? (i := 102) (by decide +kernel)
theorem wd103 : Cond.selects RX8 yX8_weighsIn yX8_weighsIn ∈ lw_tbl := List.mem_of_getElem? (i := 103) (by decide +kernel)
theorem wd104 : Cond.selects RX8 yX8_take yX8_take ∈ lw_tbl := List.mem_of_getElem? (i := 104) (by decide +kernel)
theorem wd105 : Cond.selects RX8 yX8_longOf yX8_longOf ∈ lw_tbl := List.mem_of_getElem? (i := 105) (by decide +kernel)
theorem wd106 : Cond.selects RX8 yX8_tellMost yX8_tellMost ∈ lw_tbl := List.mem_of_getElem? (i := 106) (by decide +kernel)
theorem wd107 : Cond.selects RX8 yX8_doTwo yX8_doTwo ∈ lw_tbl := List.mem_of_getElem? (i := 107) (by decide +kernel)
theorem wd108 : Cond.selects RX8 yX8_tell4 yX8_tell4 ∈ lw_tbl := List.mem_of_getElem? (i := 108) (by decide +kernel)
theorem wd109 : Cond.selects RX8 yX8_strengthsOf yX8_strengthsOf ∈ lw_tbl := List.mem_of_getElem? (i := 109) (by decide +kernel)
theorem wd110 : Cond.selects RX8 yX8_kindsOf yX8_kindsOf ∈ lw_tbl := List.mem_of_getElem? (i := 110) (by decide +kernel)
theorem wd111 : Cond.selects RX8 yX8_partBy yX8_partBy ∈ lw_tbl := List.mem_of_getElem? (i := 111) (by decide +kernel)
theorem wd112 : Cond.selects RX8 yX8_fraction yX8_fraction ∈ lw_tbl := List.mem_of_getElem? (i := 112) (by decide +kernel)
theorem wd113 : Cond.selects RX8 yX8_many yX8_many ∈ lw_tbl := List.mem_of_getElem? (i := 113) (by decide +kernel)
theorem wd114 : Cond.initialized RL ∈ lw_tbl := List.mem_of_getElem? (i := 114) (by decide +kernel)
theorem wd115 : Cond.initialized RX7 ∈ lw_tbl := List.mem_of_getElem? (i := 115) (by decide +kernel)
theorem wd116 : Cond.initialized RX6 ∈ lw_tbl := List.mem_of_getElem? (i := 116) (by decide +kernel)
theorem wd117 : Cond.initialized RX2 ∈ lw_tbl := List.mem_of_getElem? (i := 117) (by decide +kernel)
theorem wd118 : Cond.initialized RX4 ∈ lw_tbl := List.mem_of_getElem? (i := 118) (by decide +kernel)
theorem wd119 : Cond.initialized RX3 ∈ lw_tbl := List.mem_of_getElem? (i := 119) (by decide +kernel)
theorem wd120 : Cond.initialized RX1 ∈ lw_tbl := List.mem_of_getElem? (i := 120) (by decide +kernel)
theorem wd121 : Cond.initialized RX0 ∈ lw_tbl := List.mem_of_getElem? (i := 121) (by decide +kernel)
theorem wd122 : Cond.initialized RX8 ∈ lw_tbl := List.mem_of_getElem? (i := 122) (by decide +kernel)
theorem wd123 : Cond.initialized RJ0 ∈ lw_tbl := List.mem_of_getElem? (i := 123) (by decide +kernel)
theorem wd124 : Cond.initialized RJ1 ∈ lw_tbl := List.mem_of_getElem? (i := 124) (by decide +kernel)
theorem wd125 : Cond.initialized RJ3 ∈ lw_tbl := List.mem_of_getElem? (i := 125) (by decide +kernel)
theorem wd126 : Cond.initialized RJ2 ∈ lw_tbl := List.mem_of_getElem? (i := 126) (by decide +kernel)
theorem wd127 : Cond.initialized RX5 ∈ lw_tbl := List.mem_of_getElem? (i := 127) (by decide +kernel)
theorem wd128 : Cond.initialized RJ9 ∈ lw_tbl := List.mem_of_getElem? (i := 128) (by decide +kernel)
theorem wd129 : Cond.initialized RJ6 ∈ lw_tbl := List.mem_of_getElem? (i := 129) (by decide +kernel)
theorem wd130 : Cond.classLink RL 7 RX7 ∈ lw_tbl := List.mem_of_getElem? (i := 130) (by decide +kernel)
theorem wd131 : Cond.instantiable RX7 12 ∈ lw_tbl := List.mem_of_getElem? (i := 131) (by decide +kernel)
theorem wd132 : Cond.methodLink RL 9 yX7_init ∈ lw_tbl := List.mem_of_getElem? (i := 132) (by decide +kernel)
theorem wd133 : Cond.instanceMethod yX7_init ∈ lw_tbl := List.mem_of_getElem? (i := 133) (by decide +kernel)
theorem wd134 : Cond.code yX7_init cX7_init 2 none ∈ lw_tbl := List.mem_of_getElem? (i := 134) (by decide +kernel)
theorem wd135 : Cond.methodLink RX7 3 objectInit ∈ lw_tbl := List.mem_of_getElem? (i := 135) (by decide +kernel)
theorem wd136 : Cond.instanceMethod objectInit ∈ lw_tbl := List.mem_of_getElem? (i := 136) (by decide +kernel)
theorem wd138 : Cond.classLink RX7 9 RX6 ∈ lw_tbl := List.mem_of_getElem? (i := 138) (by decide +kernel)
theorem wd139 : Cond.instantiable RX6 12 ∈ lw_tbl := List.mem_of_getElem? (i := 139) (by decide +kernel)
theorem wd140 : Cond.methodLinkNest RX7 11 yX6_init "StoneHeld" ∈ lw_tbl := List.mem_of_getElem? (i := 140) (by decide +kernel)
theorem wd141 : Cond.instanceMethod yX6_init ∈ lw_tbl := List.mem_of_getElem? (i := 141) (by decide +kernel)
theorem wd142 : Cond.code yX6_init cX6_init 2 none ∈ lw_tbl := List.mem_of_getElem? (i := 142) (by decide +kernel)
theorem wd143 : Cond.methodLink RX6 3 objectInit ∈ lw_tbl := List.mem_of_getElem? (i := 143) (by decide +kernel)
theorem wd144 : Cond.classLink RX6 24 RX2 ∈ lw_tbl := List.mem_of_getElem? (i := 144) (by decide +kernel)
theorem wd145 : Cond.instantiable RX2 4 ∈ lw_tbl := List.mem_of_getElem? (i := 145) (by decide +kernel)
theorem wd146 : Cond.methodLinkNest RX6 26 yX2_init "StoneHeld" ∈ lw_tbl := List.mem_of_getElem? (i := 146) (by decide +kernel)
theorem wd147 : Cond.instanceMethod yX2_init ∈ lw_tbl := List.mem_of_getElem? (i := 147) (by decide +kernel)
theorem wd148 : Cond.code yX2_init cX2_init 2 none ∈ lw_tbl := List.mem_of_getElem? (i := 148) (by decide +kernel)
theorem wd149 : Cond.methodLink RX2 3 objectInit ∈ lw_tbl := List.mem_of_getElem? (i := 149) (by decide +kernel)
theorem wd150 : Cond.fieldLink RX2 9 (TX2 0).1 (TX2 0).2.1 (TX2 0).2.2.1 ∈ lw_tbl := List.mem_of_getElem? (i := 150) (by decide +kernel)
theorem wd151 : Cond.fieldLinkNest RX6 77 (TX2 0).1 (TX2 0).2.1 (TX2 0).2.2.1 "StoneHeld" ∈ lw_tbl := List.mem_of_getElem? (i := 151) (by decide +kernel)
theorem wd152 : Cond.fieldLink RX2 15 (TX2 1).1 (TX2 1).2.1 (TX2 1).2.2.1 ∈ lw_tbl := List.mem_of_getElem? (i := 152) (by decide +kernel)
theorem wd153 : Cond.fieldLinkNest RX6 80 (TX2 1).1 (TX2 1).2.1 (TX2 1).2.2.1 "StoneHeld" ∈ lw_tbl := List.mem_of_getElem? (i := 153) (by decide +kernel)
theorem wd154 : Cond.fieldLinkNest RX3 113 (TX2 1).1 (TX2 1).2.1 (TX2 1).2.2.1 "StoneHeld" ∈ lw_tbl := List.mem_of_getElem? (i := 154) (by decide +kernel)
theorem wd155 : Cond.fieldLinkNest RX7 120 (TX2 1).1 (TX2 1).2.1 (TX2 1).2.2.1 "StoneHeld" ∈ lw_tbl := List.mem_of_getElem? (i := 155) (by decide +kernel)
theorem wd156 : Cond.fieldLinkNest RX6 57 (TX2 2).1 (TX2 2).2.1 (TX2 2).2.2.1 "StoneHeld" ∈ lw_tbl := List.mem_of_getElem? (i := 156) (by decide +kernel)
theorem wd157 : Cond.fieldLink RX2 18 (TX2 2).1 (TX2 2).2.1 (TX2 2).2.2.1 ∈ lw_tbl := List.mem_of_getElem? (i := 157) (by decide +kernel)
theorem wd158 : Cond.fieldLinkNest RX7 168 (TX2 2).1 (TX2 2).2.1 (TX2 2).2.2.1 "StoneHeld" ∈ lw_tbl := List.mem_of_getElem? (i := 158) (by decide +kernel)
theorem wd159 : Cond.fieldLinkNest RX6 60 (TX2 3).1 (TX2 3).2.1 (TX2 3).2.2.1 "StoneHeld" ∈ lw_tbl := List.mem_of_getElem? (i := 159) (by decide +kernel)
theorem wd160 : Cond.fieldLink RX2 22 (TX2 3).1 (TX2 3).2.1 (TX2 3).2.2.1 ∈ lw_tbl := List.mem_of_getElem? (i := 160) (by decide +kernel)
theorem wd161 : Cond.fieldLinkNest RX7 127 (TX2 3).1 (TX2 3).2.1 (TX2 3).2.2.1 "StoneHeld" ∈ lw_tbl := List.mem_of_getElem? (i := 161) (by decide +kernel)
theorem wd171 : Cond.arrayClass .int ∈ lw_tbl := List.mem_of_getElem? (i := 171) (by decide +kernel)
theorem wd172 : Cond.arrayOver (.object RX2) ∈ lw_tbl := List.mem_of_getElem? (i := 172) (by decide +kernel)
theorem wd173 : Cond.classLink RX6 35 RX4 ∈ lw_tbl := List.mem_of_getElem? (i := 173) (by decide +kernel)
theorem wd174 : Cond.instantiable RX4 3 ∈ lw_tbl := List.mem_of_getElem? (i := 174) (by decide +kernel)
theorem wd175 : Cond.methodLinkNest RX6 37 yX4_init "StoneHeld" ∈ lw_tbl := List.mem_of_getElem? (i := 175) (by decide +kernel)
theorem wd176 : Cond.instanceMethod yX4_init ∈ lw_tbl := List.mem_of_getElem? (i := 176) (by decide +kernel)
theorem wd177 : Cond.code yX4_init cX4_init 2 none ∈ lw_tbl := List.mem_of_getElem? (i := 177) (by decide +kernel)
theorem wd178 : Cond.methodLink RX4 1 objectInit ∈ lw_tbl := List.mem_of_getElem? (i := 178) (by decide +kernel)
theorem wd179 : Cond.fieldLink RX4 7 (TX4 0).1 (TX4 0).2.1 (TX4 0).2.2.1 ∈ lw_tbl := List.mem_of_getElem? (i := 179) (by decide +kernel)
theorem wd180 : Cond.fieldLink RX4 13 (TX4 1).1 (TX4 1).2.1 (TX4 1).2.2.1 ∈ lw_tbl := List.mem_of_getElem? (i := 180) (by decide +kernel)
theorem wd181 : Cond.fieldLink RX4 17 (TX4 2).1 (TX4 2).2.1 (TX4 2).2.2.1 ∈ lw_tbl := List.mem_of_getElem? (i := 181) (by decide +kernel)
theorem wd182 : Cond.fieldLinkNest RX6 135 (TX4 2).1 (TX4 2).2.1 (TX4 2).2.2.1 "StoneHeld" ∈ lw_tbl := List.mem_of_getElem? (i := 182) (by decide +kernel)
theorem wd183 : Cond.fieldLinkNest RX7 315 (TX4 2).1 (TX4 2).2.1 (TX4 2).2.2.1 "StoneHeld" ∈ lw_tbl := List.mem_of_getElem? (i := 183) (by decide +kernel)
theorem wd191 : Cond.fieldLink RX6 50 (TX6 0).1 (TX6 0).2.1 (TX6 0).2.2.1 ∈ lw_tbl := List.mem_of_getElem? (i := 191) (by decide +kernel)
theorem wd192 : Cond.fieldLinkNest RX1 29 (TX6 0).1 (TX6 0).2.1 (TX6 0).2.2.1 "StoneHeld" ∈ lw_tbl := List.mem_of_getElem? (i := 192) (by decide +kernel)
theorem wd193 : Cond.fieldLinkNest RX7 67 (TX6 0).1 (TX6 0).2.1 (TX6 0).2.2.1 "StoneHeld" ∈ lw_tbl := List.mem_of_getElem? (i := 193) (by decide +kernel)
theorem wd194 : Cond.fieldLinkNest RX3 80 (TX6 0).1 (TX6 0).2.1 (TX6 0).2.2.1 "StoneHeld" ∈ lw_tbl := List.mem_of_getElem? (i := 194) (by decide +kernel)
theorem wd195 : Cond.fieldLink RX6 9 (TX6 1).1 (TX6 1).2.1 (TX6 1).2.2.1 ∈ lw_tbl := List.mem_of_getElem? (i := 195) (by decide +kernel)
theorem wd196 : Cond.fieldLinkNest RX7 146 (TX6 1).1 (TX6 1).2.1 (TX6 1).2.2.1 "StoneHeld" ∈ lw_tbl := List.mem_of_getElem? (i := 196) (by decide +kernel)
theorem wd197 : Cond.fieldLink RX6 15 (TX6 2).1 (TX6 2).2.1 (TX6 2).2.2.1 ∈ lw_tbl := List.mem_of_getElem? (i := 197) (by decide +kernel)
theorem wd198 : Cond.fieldLinkNest RX7 149 (TX6 2).1 (TX6 2).2.1 (TX6 2).2.2.1 "StoneHeld" ∈ lw_tbl := List.mem_of_getElem? (i := 198) (by decide +kernel)
theorem wd199 : Cond.fieldLinkNest RX1 18 (TX6 3).1 (TX6 3).2.1 (TX6 3).2.2.1 "StoneHeld" ∈ lw_tbl := List.mem_of_getElem? (i := 199) (by decide +kernel)
theorem wd200 : Cond.fieldLinkNest RX7 52 (TX6 3).1 (TX6 3).2.1 (TX6 3).2.2.1 "StoneHeld" ∈ lw_tbl := List.mem_of_getElem? (i := 200) (by decide +kernel)
theorem wd201 : Cond.fieldLink RX6 54 (TX6 3).1 (TX6 3).2.1 (TX6 3).2.2.1 ∈ lw_tbl := List.mem_of_getElem? (i := 201) (by decide +kernel)
theorem wd202 : Cond.fieldLinkNest RX3 94 (TX6 3).1 (TX6 3).2.1 (TX6 3).2.2.1 "StoneHeld" ∈ lw_tbl := List.mem_of_getElem? (i := 202) (by decide +kernel)
theorem wd203 : Cond.fieldLink RX6 18 (TX6 4).1 (TX6 4).2.1 (TX6 4).2.2.1 ∈ lw_tbl := List.mem_of_getElem? (i := 203) (by decide +kernel)
theorem wd204 : Cond.fieldLinkNest RX7 220 (TX6 4).1 (TX6 4).2.1 (TX6 4).2.2.1 "StoneHeld" ∈ lw_tbl := List.mem_of_getElem? (i := 204) (by decide +kernel)
theorem wd205 : Cond.fieldLink RX6 21 (TX6 5).1 (TX6 5).2.1 (TX6 5).2.2.1 ∈ lw_tbl := List.mem_of_getElem? (i := 205) (by decide +kernel)
theorem wd206 : Cond.fieldLinkNest RX7 251 (TX6 5).1 (TX6 5).2.1 (TX6 5).2.2.1 "StoneHeld" ∈ lw_tbl := List.mem_of_getElem? (i := 206) (by decide +kernel)
theorem wd207 : Cond.fieldLink RX6 27 (TX6 6).1 (TX6 6).2.1 (TX6 6).2.2.1 ∈ lw_tbl := List.mem_of_getElem? (i := 207) (by decide +kernel)
theorem wd208 : Cond.fieldLinkNest RX3 109 (TX6 6).1 (TX6 6).2.1 (TX6 6).2.2.1 "StoneHeld" ∈ lw_tbl := List.mem_of_getElem? (i := 208) (by decide +kernel)
theorem wd209 : Cond.fieldLinkNest RX7 117 (TX6 6).1 (TX6 6).2.1 (TX6 6).2.2.1 "StoneHeld" ∈ lw_tbl := List.mem_of_getElem? (i := 209) (by decide +kernel)
theorem wd210 : Cond.fieldLink RX6 31 (TX6 7).1 (TX6 7).2.1 (TX6 7).2.2.1 ∈ lw_tbl := List.mem_of_getElem? (i := 210) (by decide +kernel)
theorem wd211 : Cond.fieldLink RX6 63 (TX6 8).1 (TX6 8).2.1 (TX6 8).2.2.1 ∈ lw_tbl := List.mem_of_getElem? (i := 211) (by decide +kernel)
theorem wd212 : Cond.fieldLinkNest RX7 137 (TX6 8).1 (TX6 8).2.1 (TX6 8).2.2.1 "StoneHeld" ∈ lw_tbl := List.mem_of_getElem? (i := 212) (by decide +kernel)
theorem wd213 : Cond.fieldLink RX6 40 (TX6 9).1 (TX6 9).2.1 (TX6 9).2.2.1 ∈ lw_tbl := List.mem_of_getElem? (i := 213) (by decide +kernel)
theorem wd214 : Cond.fieldLinkNest RX7 192 (TX6 9).1 (TX6 9).2.1 (TX6 9).2.2.1 "StoneHeld" ∈ lw_tbl := List.mem_of_getElem? (i := 214) (by decide +kernel)
theorem wd215 : Cond.fieldLink RX6 44 (TX6 10).1 (TX6 10).2.1 (TX6 10).2.2.1 ∈ lw_tbl := List.mem_of_getElem? (i := 215) (by decide +kernel)
theorem wd216 : Cond.fieldLinkNest RX7 230 (TX6 10).1 (TX6 10).2.1 (TX6 10).2.2.1 "StoneHeld" ∈ lw_tbl := List.mem_of_getElem? (i := 216) (by decide +kernel)
theorem wd217 : Cond.fieldLink RX6 47 (TX6 11).1 (TX6 11).2.1 (TX6 11).2.2.1 ∈ lw_tbl := List.mem_of_getElem? (i := 217) (by decide +kernel)
theorem wd218 : Cond.fieldLinkNest RX7 233 (TX6 11).1 (TX6 11).2.1 (TX6 11).2.2.1 "StoneHeld" ∈ lw_tbl := List.mem_of_getElem? (i := 218) (by decide +kernel)
theorem wd244 : Cond.classLink RX7 16 RX3 ∈ lw_tbl := List.mem_of_getElem? (i := 244) (by decide +kernel)
theorem wd245 : Cond.instantiable RX3 7 ∈ lw_tbl := List.mem_of_getElem? (i := 245) (by decide +kernel)
theorem wd246 : Cond.methodLinkNest RX7 18 yX3_init "StoneHeld" ∈ lw_tbl := List.mem_of_getElem? (i := 246) (by decide +kernel)
theorem wd247 : Cond.instanceMethod yX3_init ∈ lw_tbl := List.mem_of_getElem? (i := 247) (by decide +kernel)
theorem wd248 : Cond.code yX3_init cX3_init 1 none ∈ lw_tbl := List.mem_of_getElem? (i := 248) (by decide +kernel)
theorem wd249 : Cond.methodLink RX3 3 objectInit ∈ lw_tbl := List.mem_of_getElem? (i := 249) (by decide +kernel)
theorem wd250 : Cond.classLink RX3 15 RX6 ∈ lw_tbl := List.mem_of_getElem? (i := 250) (by decide +kernel)
theorem wd251 : Cond.methodLinkNest RX3 17 yX6_init "StoneHeld" ∈ lw_tbl := List.mem_of_getElem? (i := 251) (by decide +kernel)
theorem wd252 : Cond.fieldLink RX3 9 (TX3 0).1 (TX3 0).2.1 (TX3 0).2.2.1 ∈ lw_tbl := List.mem_of_getElem? (i := 252) (by decide +kernel)
theorem wd253 : Cond.fieldLink RX3 22 (TX3 1).1 (TX3 1).2.1 (TX3 1).2.2.1 ∈ lw_tbl := List.mem_of_getElem? (i := 253) (by decide +kernel)
theorem wd254 : Cond.fieldLinkNest RX7 81 (TX3 1).1 (TX3 1).2.1 (TX3 1).2.2.1 "StoneHeld" ∈ lw_tbl := List.mem_of_getElem? (i := 254) (by decide +kernel)
theorem wd255 : Cond.fieldLink RX3 26 (TX3 2).1 (TX3 2).2.1 (TX3 2).2.2.1 ∈ lw_tbl := List.mem_of_getElem? (i := 255) (by decide +kernel)
theorem wd256 : Cond.fieldLink RX3 35 (TX3 3).1 (TX3 3).2.1 (TX3 3).2.2.1 ∈ lw_tbl := List.mem_of_getElem? (i := 256) (by decide +kernel)
theorem wd257 : Cond.fieldLink RX3 46 (TX3 4).1 (TX3 4).2.1 (TX3 4).2.2.1 ∈ lw_tbl := List.mem_of_getElem? (i := 257) (by decide +kernel)
theorem wd258 : Cond.fieldLink RX3 87 (TX3 5).1 (TX3 5).2.1 (TX3 5).2.2.1 ∈ lw_tbl := List.mem_of_getElem? (i := 258) (by decide +kernel)
theorem wd259 : Cond.fieldLink RX3 18 (TX3 6).1 (TX3 6).2.1 (TX3 6).2.2.1 ∈ lw_tbl := List.mem_of_getElem? (i := 259) (by decide +kernel)
theorem wd260 : Cond.fieldLinkNest RX7 91 (TX3 6).1 (TX3 6).2.1 (TX3 6).2.2.1 "StoneHeld" ∈ lw_tbl := List.mem_of_getElem? (i := 260) (by decide +kernel)
theorem wd276 : Cond.arrayOver (.object RX6) ∈ lw_tbl := List.mem_of_getElem? (i := 276) (by decide +kernel)
theorem wd277 : Cond.classLink RX7 27 RX1 ∈ lw_tbl := List.mem_of_getElem? (i := 277) (by decide +kernel)
theorem wd278 : Cond.instantiable RX1 3 ∈ lw_tbl := List.mem_of_getElem? (i := 278) (by decide +kernel)
theorem wd279 : Cond.methodLinkNest RX7 29 yX1_init "StoneHeld" ∈ lw_tbl := List.mem_of_getElem? (i := 279) (by decide +kernel)
theorem wd280 : Cond.instanceMethod yX1_init ∈ lw_tbl := List.mem_of_getElem? (i := 280) (by decide +kernel)
theorem wd281 : Cond.code yX1_init cX1_init 1 none ∈ lw_tbl := List.mem_of_getElem? (i := 281) (by decide +kernel)
theorem wd282 : Cond.methodLink RX1 3 objectInit ∈ lw_tbl := List.mem_of_getElem? (i := 282) (by decide +kernel)
theorem wd283 : Cond.fieldLink RX1 9 (TX1 0).1 (TX1 0).2.1 (TX1 0).2.2.1 ∈ lw_tbl := List.mem_of_getElem? (i := 283) (by decide +kernel)
theorem wd284 : Cond.fieldLink RX1 15 (TX1 1).1 (TX1 1).2.1 (TX1 1).2.2.1 ∈ lw_tbl := List.mem_of_getElem? (i := 284) (by decide +kernel)
theorem wd285 : Cond.fieldLink RX1 24 (TX1 2).1 (TX1 2).2.1 (TX1 2).2.2.1 ∈ lw_tbl := List.mem_of_getElem? (i := 285) (by decide +kernel)
theorem wd293 : Cond.classLink RX7 34 RX0 ∈ lw_tbl := List.mem_of_getElem? (i := 293) (by decide +kernel)
theorem wd294 : Cond.instantiable RX0 2 ∈ lw_tbl := List.mem_of_getElem? (i := 294) (by decide +kernel)
theorem wd295 : Cond.methodLinkNest RX7 36 yX0_init "StoneHeld" ∈ lw_tbl := List.mem_of_getElem? (i := 295) (by decide +kernel)
theorem wd296 : Cond.instanceMethod yX0_init ∈ lw_tbl := List.mem_of_getElem? (i := 296) (by decide +kernel)
theorem wd297 : Cond.code yX0_init cX0_init 1 none ∈ lw_tbl := List.mem_of_getElem? (i := 297) (by decide +kernel)
theorem wd298 : Cond.methodLink RX0 3 objectInit ∈ lw_tbl := List.mem_of_getElem? (i := 298) (by decide +kernel)
theorem wd299 : Cond.fieldLink RX0 9 (TX0 0).1 (TX0 0).2.1 (TX0 0).2.2.1 ∈ lw_tbl := List.mem_of_getElem? (i := 299) (by decide +kernel)
theorem wd300 : Cond.fieldLink RX0 15 (TX0 1).1 (TX0 1).2.1 (TX0 1).2.2.1 ∈ lw_tbl := List.mem_of_getElem? (i := 300) (by decide +kernel)
theorem wd306 : Cond.classLink RX7 41 RX2 ∈ lw_tbl := List.mem_of_getElem? (i := 306) (by decide +kernel)
theorem wd307 : Cond.methodLinkNest RX7 43 yX2_init "StoneHeld" ∈ lw_tbl := List.mem_of_getElem? (i := 307) (by decide +kernel)
theorem wd308 : Cond.fieldLink RX7 12 (TX7 0).1 (TX7 0).2.1 (TX7 0).2.2.1 ∈ lw_tbl := List.mem_of_getElem? (i := 308) (by decide +kernel)
theorem wd309 : Cond.fieldLink RX7 19 (TX7 1).1 (TX7 1).2.1 (TX7 1).2.2.1 ∈ lw_tbl := List.mem_of_getElem? (i := 309) (by decide +kernel)
theorem wd310 : Cond.fieldLink RX7 23 (TX7 2).1 (TX7 2).2.1 (TX7 2).2.2.1 ∈ lw_tbl := List.mem_of_getElem? (i := 310) (by decide +kernel)
theorem wd311 : Cond.fieldLink RX7 289 (TX7 3).1 (TX7 3).2.1 (TX7 3).2.2.1 ∈ lw_tbl := List.mem_of_getElem? (i := 311) (by decide +kernel)
theorem wd312 : Cond.fieldLink RX7 30 (TX7 4).1 (TX7 4).2.1 (TX7 4).2.2.1 ∈ lw_tbl := List.mem_of_getElem? (i := 312) (by decide +kernel)
theorem wd313 : Cond.fieldLink RX7 37 (TX7 5).1 (TX7 5).2.1 (TX7 5).2.2.1 ∈ lw_tbl := List.mem_of_getElem? (i := 313) (by decide +kernel)
theorem wd314 : Cond.fieldLink RX7 44 (TX7 6).1 (TX7 6).2.1 (TX7 6).2.2.1 ∈ lw_tbl := List.mem_of_getElem? (i := 314) (by decide +kernel)
theorem wd315 : Cond.fieldLink RX7 286 (TX7 7).1 (TX7 7).2.1 (TX7 7).2.2.1 ∈ lw_tbl := List.mem_of_getElem? (i := 315) (by decide +kernel)
theorem wd316 : Cond.fieldLink RX7 48 (TX7 8).1 (TX7 8).2.1 (TX7 8).2.2.1 ∈ lw_tbl := List.mem_of_getElem? (i := 316) (by decide +kernel)
theorem wd317 : Cond.fieldLink RX7 292 (TX7 9).1 (TX7 9).2.1 (TX7 9).2.2.1 ∈ lw_tbl := List.mem_of_getElem? (i := 317) (by decide +kernel)
theorem wd318 : Cond.fieldLink RX7 295 (TX7 10).1 (TX7 10).2.1 (TX7 10).2.2.1 ∈ lw_tbl := List.mem_of_getElem? (i := 318) (by decide +kernel)
theorem wd319 : Cond.fieldLink RX7 298 (TX7 11).1 (TX7 11).2.1 (TX7 11).2.2.1 ∈ lw_tbl := List.mem_of_getElem? (i := 319) (by decide +kernel)
theorem wd345 : Cond.methodLink RL 13 yX7_people ∈ lw_tbl := List.mem_of_getElem? (i := 345) (by decide +kernel)
theorem wd346 : Cond.instanceMethod yX7_people ∈ lw_tbl := List.mem_of_getElem? (i := 346) (by decide +kernel)
theorem wd347 : Cond.selects RX7 yX7_people yX7_people ∈ lw_tbl := List.mem_of_getElem? (i := 347) (by decide +kernel)
theorem wd348 : Cond.code yX7_people cX7_people 2 (some .int) ∈ lw_tbl := List.mem_of_getElem? (i := 348) (by decide +kernel)
theorem wd349 : Cond.methodLinkNest RX7 56 yX6_startAnew "StoneHeld" ∈ lw_tbl := List.mem_of_getElem? (i := 349) (by decide +kernel)
theorem wd351 : Cond.instanceMethod yX6_startAnew ∈ lw_tbl := List.mem_of_getElem? (i := 351) (by decide +kernel)
theorem wd352 : Cond.code yX6_startAnew cX6_startAnew 1 none ∈ lw_tbl := List.mem_of_getElem? (i := 352) (by decide +kernel)
theorem wd353 : Cond.methodLinkNest RX6 66 yX4_drop "StoneHeld" ∈ lw_tbl := List.mem_of_getElem? (i := 353) (by decide +kernel)
theorem wd355 : Cond.instanceMethod yX4_drop ∈ lw_tbl := List.mem_of_getElem? (i := 355) (by decide +kernel)
theorem wd356 : Cond.code yX4_drop cX4_drop 2 (some .int) ∈ lw_tbl := List.mem_of_getElem? (i := 356) (by decide +kernel)
theorem wd357 : Cond.methodLink RL 18 yX7_thing ∈ lw_tbl := List.mem_of_getElem? (i := 357) (by decide +kernel)
theorem wd358 : Cond.instanceMethod yX7_thing ∈ lw_tbl := List.mem_of_getElem? (i := 358) (by decide +kernel)
theorem wd359 : Cond.selects RX7 yX7_thing yX7_thing ∈ lw_tbl := List.mem_of_getElem? (i := 359) (by decide +kernel)
theorem wd360 : Cond.code yX7_thing cX7_thing 3 (some .int) ∈ lw_tbl := List.mem_of_getElem? (i := 360) (by decide +kernel)
theorem wd361 : Cond.methodLink RX7 59 yX7_isWithin ∈ lw_tbl := List.mem_of_getElem? (i := 361) (by decide +kernel)
theorem wd362 : Cond.static yX7_isWithin ∈ lw_tbl := List.mem_of_getElem? (i := 362) (by decide +kernel)
theorem wd363 : Cond.code yX7_isWithin cX7_isWithin 3 (some .boolean) ∈ lw_tbl := List.mem_of_getElem? (i := 363) (by decide +kernel)
theorem wd364 : Cond.methodLink RX7 63 yX7_bad ∈ lw_tbl := List.mem_of_getElem? (i := 364) (by decide +kernel)
theorem wd366 : Cond.instanceMethod yX7_bad ∈ lw_tbl := List.mem_of_getElem? (i := 366) (by decide +kernel)
theorem wd367 : Cond.code yX7_bad cX7_bad 1 (some .int) ∈ lw_tbl := List.mem_of_getElem? (i := 367) (by decide +kernel)
theorem wd368 : Cond.methodLink RX7 70 yX7_full ∈ lw_tbl := List.mem_of_getElem? (i := 368) (by decide +kernel)
theorem wd370 : Cond.instanceMethod yX7_full ∈ lw_tbl := List.mem_of_getElem? (i := 370) (by decide +kernel)
theorem wd371 : Cond.code yX7_full cX7_full 1 (some .int) ∈ lw_tbl := List.mem_of_getElem? (i := 371) (by decide +kernel)
theorem wd372 : Cond.methodLinkNest RX7 73 yX6_addThing "StoneHeld" ∈ lw_tbl := List.mem_of_getElem? (i := 372) (by decide +kernel)
theorem wd374 : Cond.instanceMethod yX6_addThing ∈ lw_tbl := List.mem_of_getElem? (i := 374) (by decide +kernel)
theorem wd375 : Cond.code yX6_addThing cX6_addThing 4 (some .int) ∈ lw_tbl := List.mem_of_getElem? (i := 375) (by decide +kernel)
theorem wd376 : Cond.methodLink RL 23 yX7_one ∈ lw_tbl := List.mem_of_getElem? (i := 376) (by decide +kernel)
theorem wd377 : Cond.instanceMethod yX7_one ∈ lw_tbl := List.mem_of_getElem? (i := 377) (by decide +kernel)
theorem wd378 : Cond.selects RX7 yX7_one yX7_one ∈ lw_tbl := List.mem_of_getElem? (i := 378) (by decide +kernel)
theorem wd379 : Cond.code yX7_one cX7_one 4 (some .int) ∈ lw_tbl := List.mem_of_getElem? (i := 379) (by decide +kernel)
theorem wd380 : Cond.methodLinkNest RX7 77 yX6_addOne "StoneHeld" ∈ lw_tbl := List.mem_of_getElem? (i := 380) (by decide +kernel)
theorem wd382 : Cond.instanceMethod yX6_addOne ∈ lw_tbl := List.mem_of_getElem? (i := 382) (by decide +kernel)
theorem wd383 : Cond.code yX6_addOne cX6_addOne 5 (some .int) ∈ lw_tbl := List.mem_of_getElem? (i := 383) (by decide +kernel)
theorem wd384 : Cond.methodLink RL 28 yX7_type ∈ lw_tbl := List.mem_of_getElem? (i := 384) (by decide +kernel)
theorem wd385 : Cond.instanceMethod yX7_type ∈ lw_tbl := List.mem_of_getElem? (i := 385) (by decide +kernel)
theorem wd386 : Cond.selects RX7 yX7_type yX7_type ∈ lw_tbl := List.mem_of_getElem? (i := 386) (by decide +kernel)
theorem wd387 : Cond.code yX7_type cX7_type 2 (some .int) ∈ lw_tbl := List.mem_of_getElem? (i := 387) (by decide +kernel)
theorem wd388 : Cond.methodLinkNest RX7 84 yX3_append "StoneHeld" ∈ lw_tbl := List.mem_of_getElem? (i := 388) (by decide +kernel)
theorem wd390 : Cond.instanceMethod yX3_append ∈ lw_tbl := List.mem_of_getElem? (i := 390) (by decide +kernel)
theorem wd391 : Cond.code yX3_append cX3_append 2 (some .int) ∈ lw_tbl := List.mem_of_getElem? (i := 391) (by decide +kernel)
theorem wd392 : Cond.methodLink RL 33 yX7_clear ∈ lw_tbl := List.mem_of_getElem? (i := 392) (by decide +kernel)
theorem wd393 : Cond.instanceMethod yX7_clear ∈ lw_tbl := List.mem_of_getElem? (i := 393) (by decide +kernel)
theorem wd394 : Cond.selects RX7 yX7_clear yX7_clear ∈ lw_tbl := List.mem_of_getElem? (i := 394) (by decide +kernel)
theorem wd395 : Cond.code yX7_clear cX7_clear 2 (some .int) ∈ lw_tbl := List.mem_of_getElem? (i := 395) (by decide +kernel)
theorem wd396 : Cond.methodLink RL 37 yX7_read ∈ lw_tbl := List.mem_of_getElem? (i := 396) (by decide +kernel)
theorem wd397 : Cond.instanceMethod yX7_read ∈ lw_tbl := List.mem_of_getElem? (i := 397) (by decide +kernel)
theorem wd398 : Cond.selects RX7 yX7_read yX7_read ∈ lw_tbl := List.mem_of_getElem? (i := 398) (by decide +kernel)
theorem wd399 : Cond.code yX7_read cX7_read 2 (some .int) ∈ lw_tbl := List.mem_of_getElem? (i := 399) (by decide +kernel)
theorem wd400 : Cond.methodLinkNest RX7 88 yX3_readItems "StoneHeld" ∈ lw_tbl := List.mem_of_getElem? (i := 400) (by decide +kernel)
theorem wd402 : Cond.instanceMethod yX3_readItems ∈ lw_tbl := List.mem_of_getElem? (i := 402) (by decide +kernel)
theorem wd403 : Cond.code yX3_readItems cX3_readItems 2 (some .int) ∈ lw_tbl := List.mem_of_getElem? (i := 403) (by decide +kernel)
theorem wd404 : Cond.methodLinkNest RX3 29 yX6_startAnew "StoneHeld" ∈ lw_tbl := List.mem_of_getElem? (i := 404) (by decide +kernel)
theorem wd405 : Cond.methodLink RX3 32 yX3_nextToken ∈ lw_tbl := List.mem_of_getElem? (i := 405) (by decide +kernel)
theorem wd407 : Cond.instanceMethod yX3_nextToken ∈ lw_tbl := List.mem_of_getElem? (i := 407) (by decide +kernel)
theorem wd408 : Cond.code yX3_nextToken cX3_nextToken 1 none ∈ lw_tbl := List.mem_of_getElem? (i := 408) (by decide +kernel)
theorem wd409 : Cond.methodLinkNest RX3 122 yX7_isWithin "StoneHeld" ∈ lw_tbl := List.mem_of_getElem? (i := 409) (by decide +kernel)
theorem wd410 : Cond.methodLink RX3 135 yX3_passRun ∈ lw_tbl := List.mem_of_getElem? (i := 410) (by decide +kernel)
theorem wd412 : Cond.instanceMethod yX3_passRun ∈ lw_tbl := List.mem_of_getElem? (i := 412) (by decide +kernel)
theorem wd413 : Cond.code yX3_passRun cX3_passRun 3 none ∈ lw_tbl := List.mem_of_getElem? (i := 413) (by decide +kernel)
theorem wd414 : Cond.methodLink RX3 38 yX3_takeItem ∈ lw_tbl := List.mem_of_getElem? (i := 414) (by decide +kernel)
theorem wd416 : Cond.instanceMethod yX3_takeItem ∈ lw_tbl := List.mem_of_getElem? (i := 416) (by decide +kernel)
theorem wd417 : Cond.code yX3_takeItem cX3_takeItem 2 (some .boolean) ∈ lw_tbl := List.mem_of_getElem? (i := 417) (by decide +kernel)
theorem wd418 : Cond.stringRef RX3 49 "people" ∈ lw_tbl := List.mem_of_getElem? (i := 418) (by decide +kernel)
theorem wd419 : Cond.methodLink RX3 51 yX3_isWord ∈ lw_tbl := List.mem_of_getElem? (i := 419) (by decide +kernel)
theorem wd421 : Cond.instanceMethod yX3_isWord ∈ lw_tbl := List.mem_of_getElem? (i := 421) (by decide +kernel)
theorem wd422 : Cond.code yX3_isWord cX3_isWord 3 (some .boolean) ∈ lw_tbl := List.mem_of_getElem? (i := 422) (by decide +kernel)
theorem wd423 : Cond.methodLink RX3 126 yJ0_length_8abf5 ∈ lw_tbl := List.mem_of_getElem? (i := 423) (by decide +kernel)
theorem wd424 : Cond.instanceMethod yJ0_length_8abf5 ∈ lw_tbl := List.mem_of_getElem? (i := 424) (by decide +kernel)
theorem wd425 : Cond.selects RJ0 yJ0_length_8abf5 yJ0_length_8abf5 ∈ lw_tbl := List.mem_of_getElem? (i := 425) (by decide +kernel)
theorem wd426 : Cond.code yJ0_length_8abf5 cJ0_length_8abf5 1 (some .int) ∈ lw_tbl := List.mem_of_getElem? (i := 426) (by decide +kernel)
theorem wd427 : Cond.methodLink RJ0 335 yJ0_coder_7d493 ∈ lw_tbl := List.mem_of_getElem? (i := 427) (by decide +kernel)
theorem wd428 : Cond.instanceMethod yJ0_coder_7d493 ∈ lw_tbl := List.mem_of_getElem? (i := 428) (by decide +kernel)
theorem wd429 : Cond.selects RJ0 yJ0_coder_7d493 yJ0_coder_7d493 ∈ lw_tbl := List.mem_of_getElem? (i := 429) (by decide +kernel)
theorem wd430 : Cond.code yJ0_coder_7d493 cJ0_coder_7d493 1 (some .byte) ∈ lw_tbl := List.mem_of_getElem? (i := 430) (by decide +kernel)
theorem wd433 : Cond.methodLink RX3 131 yJ0_charAt_5068e ∈ lw_tbl := List.mem_of_getElem? (i := 433) (by decide +kernel)
theorem wd434 : Cond.instanceMethod yJ0_charAt_5068e ∈ lw_tbl := List.mem_of_getElem? (i := 434) (by decide +kernel)
theorem wd435 : Cond.selects RJ0 yJ0_charAt_5068e yJ0_charAt_5068e ∈ lw_tbl := List.mem_of_getElem? (i := 435) (by decide +kernel)
theorem wd436 : Cond.code yJ0_charAt_5068e cJ0_charAt_5068e 2 (some .char) ∈ lw_tbl := List.mem_of_getElem? (i := 436) (by decide +kernel)
theorem wd437 : Cond.methodLink RJ0 492 yJ0_isLatin1_aae02 ∈ lw_tbl := List.mem_of_getElem? (i := 437) (by decide +kernel)
theorem wd438 : Cond.instanceMethod yJ0_isLatin1_aae02 ∈ lw_tbl := List.mem_of_getElem? (i := 438) (by decide +kernel)
theorem wd439 : Cond.selects RJ0 yJ0_isLatin1_aae02 yJ0_isLatin1_aae02 ∈ lw_tbl := List.mem_of_getElem? (i := 439) (by decide +kernel)
theorem wd440 : Cond.code yJ0_isLatin1_aae02 cJ0_isLatin1_aae02 1 (some .boolean) ∈ lw_tbl := List.mem_of_getElem? (i := 440) (by decide +kernel)
theorem wd441 : Cond.methodLink RJ0 495 yJ1_charAt_3b067 ∈ lw_tbl := List.mem_of_getElem? (i := 441) (by decide +kernel)
theorem wd442 : Cond.static yJ1_charAt_3b067 ∈ lw_tbl := List.mem_of_getElem? (i := 442) (by decide +kernel)
theorem wd443 : Cond.code yJ1_charAt_3b067 cJ1_charAt_3b067 2 (some .char) ∈ lw_tbl := List.mem_of_getElem? (i := 443) (by decide +kernel)
theorem wd444 : Cond.methodLink RJ1 9 yJ0_checkIndex_df160 ∈ lw_tbl := List.mem_of_getElem? (i := 444) (by decide +kernel)
theorem wd445 : Cond.static yJ0_checkIndex_df160 ∈ lw_tbl := List.mem_of_getElem? (i := 445) (by decide +kernel)
theorem wd446 : Cond.code yJ0_checkIndex_df160 cJ0_checkIndex_df160 2 none ∈ lw_tbl := List.mem_of_getElem? (i := 446) (by decide +kernel)
theorem wd449 : Cond.methodLink RJ0 1059 yJ3_checkIndex_8e157 ∈ lw_tbl := List.mem_of_getElem? (i := 449) (by decide +kernel)
theorem wd450 : Cond.static yJ3_checkIndex_8e157 ∈ lw_tbl := List.mem_of_getElem? (i := 450) (by decide +kernel)
theorem wd451 : Cond.code yJ3_checkIndex_8e157 cJ3_checkIndex_8e157 3 (some .int) ∈ lw_tbl := List.mem_of_getElem? (i := 451) (by decide +kernel)
theorem wd452 : Cond.methodLink RJ0 498 yJ2_charAt_3b067 ∈ lw_tbl := List.mem_of_getElem? (i := 452) (by decide +kernel)
theorem wd453 : Cond.static yJ2_charAt_3b067 ∈ lw_tbl := List.mem_of_getElem? (i := 453) (by decide +kernel)
theorem wd454 : Cond.code yJ2_charAt_3b067 cJ2_charAt_3b067 2 (some .char) ∈ lw_tbl := List.mem_of_getElem? (i := 454) (by decide +kernel)
theorem wd455 : Cond.methodLink RJ2 67 yJ2_checkIndex_2214a ∈ lw_tbl := List.mem_of_getElem? (i := 455) (by decide +kernel)
theorem wd456 : Cond.static yJ2_checkIndex_2214a ∈ lw_tbl := List.mem_of_getElem? (i := 456) (by decide +kernel)
theorem wd457 : Cond.code yJ2_checkIndex_2214a cJ2_checkIndex_2214a 2 none ∈ lw_tbl := List.mem_of_getElem? (i := 457) (by decide +kernel)
theorem wd458 : Cond.methodLink RJ2 48 yJ2_length_9d52b ∈ lw_tbl := List.mem_of_getElem? (i := 458) (by decide +kernel)
theorem wd459 : Cond.static yJ2_length_9d52b ∈ lw_tbl := List.mem_of_getElem? (i := 459) (by decide +kernel)
theorem wd460 : Cond.code yJ2_length_9d52b cJ2_length_9d52b 1 (some .int) ∈ lw_tbl := List.mem_of_getElem? (i := 460) (by decide +kernel)
theorem wd461 : Cond.methodLink RJ2 414 yJ0_checkIndex_df160 ∈ lw_tbl := List.mem_of_getElem? (i := 461) (by decide +kernel)
theorem wd462 : Cond.methodLink RJ2 71 yJ2_getChar_3b067 ∈ lw_tbl := List.mem_of_getElem? (i := 462) (by decide +kernel)
theorem wd463 : Cond.static yJ2_getChar_3b067 ∈ lw_tbl := List.mem_of_getElem? (i := 463) (by decide +kernel)
theorem wd464 : Cond.code yJ2_getChar_3b067 cJ2_getChar_3b067 2 (some .char) ∈ lw_tbl := List.mem_of_getElem? (i := 464) (by decide +kernel)
theorem wd471 : Cond.stringRef RX3 55 "thing" ∈ lw_tbl := List.mem_of_getElem? (i := 471) (by decide +kernel)
theorem wd472 : Cond.methodLink RX3 57 yX3_takeThing ∈ lw_tbl := List.mem_of_getElem? (i := 472) (by decide +kernel)
theorem wd474 : Cond.instanceMethod yX3_takeThing ∈ lw_tbl := List.mem_of_getElem? (i := 474) (by decide +kernel)
theorem wd475 : Cond.code yX3_takeThing cX3_takeThing 2 (some .boolean) ∈ lw_tbl := List.mem_of_getElem? (i := 475) (by decide +kernel)
theorem wd476 : Cond.methodLink RX3 83 yX3_takeNumber ∈ lw_tbl := List.mem_of_getElem? (i := 476) (by decide +kernel)
theorem wd478 : Cond.instanceMethod yX3_takeNumber ∈ lw_tbl := List.mem_of_getElem? (i := 478) (by decide +kernel)
theorem wd479 : Cond.code yX3_takeNumber cX3_takeNumber 3 (some .boolean) ∈ lw_tbl := List.mem_of_getElem? (i := 479) (by decide +kernel)
theorem wd480 : Cond.methodLinkNest RX3 90 yX6_addThing "StoneHeld" ∈ lw_tbl := List.mem_of_getElem? (i := 480) (by decide +kernel)
theorem wd481 : Cond.stringRef RX3 60 "one" ∈ lw_tbl := List.mem_of_getElem? (i := 481) (by decide +kernel)
theorem wd482 : Cond.methodLink RX3 62 yX3_takeOne ∈ lw_tbl := List.mem_of_getElem? (i := 482) (by decide +kernel)
theorem wd484 : Cond.instanceMethod yX3_takeOne ∈ lw_tbl := List.mem_of_getElem? (i := 484) (by decide +kernel)
theorem wd485 : Cond.code yX3_takeOne cX3_takeOne 3 (some .boolean) ∈ lw_tbl := List.mem_of_getElem? (i := 485) (by decide +kernel)
theorem wd486 : Cond.methodLinkNest RX3 97 yX6_addOne "StoneHeld" ∈ lw_tbl := List.mem_of_getElem? (i := 486) (by decide +kernel)
theorem wd487 : Cond.stringRef RX3 65 "own" ∈ lw_tbl := List.mem_of_getElem? (i := 487) (by decide +kernel)
theorem wd488 : Cond.methodLink RX3 67 yX3_takeOwn ∈ lw_tbl := List.mem_of_getElem? (i := 488) (by decide +kernel)
theorem wd490 : Cond.instanceMethod yX3_takeOwn ∈ lw_tbl := List.mem_of_getElem? (i := 490) (by decide +kernel)
theorem wd491 : Cond.code yX3_takeOwn cX3_takeOwn 2 (some .boolean) ∈ lw_tbl := List.mem_of_getElem? (i := 491) (by decide +kernel)
theorem wd492 : Cond.methodLinkNest RX3 101 yX6_mayGet "StoneHeld" ∈ lw_tbl := List.mem_of_getElem? (i := 492) (by decide +kernel)
theorem wd494 : Cond.instanceMethod yX6_mayGet ∈ lw_tbl := List.mem_of_getElem? (i := 494) (by decide +kernel)
theorem wd495 : Cond.code yX6_mayGet cX6_mayGet 2 (some .boolean) ∈ lw_tbl := List.mem_of_getElem? (i := 495) (by decide +kernel)
theorem wd496 : Cond.methodLinkNest RX6 83 yX2_isHere "StoneHeld" ∈ lw_tbl := List.mem_of_getElem? (i := 496) (by decide +kernel)
theorem wd498 : Cond.instanceMethod yX2_isHere ∈ lw_tbl := List.mem_of_getElem? (i := 498) (by decide +kernel)
theorem wd499 : Cond.code yX2_isHere cX2_isHere 2 (some .boolean) ∈ lw_tbl := List.mem_of_getElem? (i := 499) (by decide +kernel)
theorem wd500 : Cond.methodLinkNest RX3 105 yX6_ownerOf "StoneHeld" ∈ lw_tbl := List.mem_of_getElem? (i := 500) (by decide +kernel)
theorem wd502 : Cond.instanceMethod yX6_ownerOf ∈ lw_tbl := List.mem_of_getElem? (i := 502) (by decide +kernel)
theorem wd503 : Cond.code yX6_ownerOf cX6_ownerOf 2 (some .int) ∈ lw_tbl := List.mem_of_getElem? (i := 503) (by decide +kernel)
theorem wd504 : Cond.methodLink RX6 87 yX6_ownerIn ∈ lw_tbl := List.mem_of_getElem? (i := 504) (by decide +kernel)
theorem wd506 : Cond.instanceMethod yX6_ownerIn ∈ lw_tbl := List.mem_of_getElem? (i := 506) (by decide +kernel)
theorem wd507 : Cond.code yX6_ownerIn cX6_ownerIn 4 (some .int) ∈ lw_tbl := List.mem_of_getElem? (i := 507) (by decide +kernel)
theorem wd508 : Cond.stringRef RX3 70 "leave" ∈ lw_tbl := List.mem_of_getElem? (i := 508) (by decide +kernel)
theorem wd509 : Cond.methodLink RX3 72 yX3_takeLeave ∈ lw_tbl := List.mem_of_getElem? (i := 509) (by decide +kernel)
theorem wd511 : Cond.instanceMethod yX3_takeLeave ∈ lw_tbl := List.mem_of_getElem? (i := 511) (by decide +kernel)
theorem wd512 : Cond.code yX3_takeLeave cX3_takeLeave 1 (some .boolean) ∈ lw_tbl := List.mem_of_getElem? (i := 512) (by decide +kernel)
theorem wd513 : Cond.stringRef RX3 75 "years" ∈ lw_tbl := List.mem_of_getElem? (i := 513) (by decide +kernel)
theorem wd514 : Cond.methodLink RX3 77 yX3_takeYears ∈ lw_tbl := List.mem_of_getElem? (i := 514) (by decide +kernel)
theorem wd516 : Cond.instanceMethod yX3_takeYears ∈ lw_tbl := List.mem_of_getElem? (i := 516) (by decide +kernel)
theorem wd517 : Cond.code yX3_takeYears cX3_takeYears 1 (some .boolean) ∈ lw_tbl := List.mem_of_getElem? (i := 517) (by decide +kernel)
theorem wd518 : Cond.methodLinkNest RX3 118 yX6_passYears "StoneHeld" ∈ lw_tbl := List.mem_of_getElem? (i := 518) (by decide +kernel)
theorem wd520 : Cond.instanceMethod yX6_passYears ∈ lw_tbl := List.mem_of_getElem? (i := 520) (by decide +kernel)
theorem wd521 : Cond.code yX6_passYears cX6_passYears 6 none ∈ lw_tbl := List.mem_of_getElem? (i := 521) (by decide +kernel)
theorem wd522 : Cond.methodLink RX6 118 yX6_isHeldIn ∈ lw_tbl := List.mem_of_getElem? (i := 522) (by decide +kernel)
theorem wd524 : Cond.instanceMethod yX6_isHeldIn ∈ lw_tbl := List.mem_of_getElem? (i := 524) (by decide +kernel)
theorem wd525 : Cond.code yX6_isHeldIn cX6_isHeldIn 4 (some .boolean) ∈ lw_tbl := List.mem_of_getElem? (i := 525) (by decide +kernel)
theorem wd526 : Cond.methodLink RX6 115 yX6_hasThing ∈ lw_tbl := List.mem_of_getElem? (i := 526) (by decide +kernel)
theorem wd528 : Cond.instanceMethod yX6_hasThing ∈ lw_tbl := List.mem_of_getElem? (i := 528) (by decide +kernel)
theorem wd529 : Cond.code yX6_hasThing cX6_hasThing 2 (some .boolean) ∈ lw_tbl := List.mem_of_getElem? (i := 529) (by decide +kernel)
theorem wd530 : Cond.methodLinkNest RX6 91 yX5_thingWeighs "StoneHeld" ∈ lw_tbl := List.mem_of_getElem? (i := 530) (by decide +kernel)
theorem wd531 : Cond.static yX5_thingWeighs ∈ lw_tbl := List.mem_of_getElem? (i := 531) (by decide +kernel)
theorem wd532 : Cond.code yX5_thingWeighs cX5_thingWeighs 3 (some .int) ∈ lw_tbl := List.mem_of_getElem? (i := 532) (by decide +kernel)
theorem wd533 : Cond.methodLink RX5 7 yX5_bell ∈ lw_tbl := List.mem_of_getElem? (i := 533) (by decide +kernel)
theorem wd534 : Cond.static yX5_bell ∈ lw_tbl := List.mem_of_getElem? (i := 534) (by decide +kernel)
theorem wd535 : Cond.code yX5_bell cX5_bell 1 (some .int) ∈ lw_tbl := List.mem_of_getElem? (i := 535) (by decide +kernel)
theorem wd536 : Cond.methodLink RX5 13 yX5_trunk ∈ lw_tbl := List.mem_of_getElem? (i := 536) (by decide +kernel)
theorem wd537 : Cond.static yX5_trunk ∈ lw_tbl := List.mem_of_getElem? (i := 537) (by decide +kernel)
theorem wd538 : Cond.code yX5_trunk cX5_trunk 1 (some .int) ∈ lw_tbl := List.mem_of_getElem? (i := 538) (by decide +kernel)
theorem wd539 : Cond.methodLink RX5 16 yJ9_min_7cf53 ∈ lw_tbl := List.mem_of_getElem? (i := 539) (by decide +kernel)
theorem wd540 : Cond.static yJ9_min_7cf53 ∈ lw_tbl := List.mem_of_getElem? (i := 540) (by decide +kernel)
theorem wd541 : Cond.code yJ9_min_7cf53 cJ9_min_7cf53 2 (some .int) ∈ lw_tbl := List.mem_of_getElem? (i := 541) (by decide +kernel)
theorem wd542 : Cond.methodLinkNest RX6 103 yX5_oneLifts "StoneHeld" ∈ lw_tbl := List.mem_of_getElem? (i := 542) (by decide +kernel)
theorem wd543 : Cond.static yX5_oneLifts ∈ lw_tbl := List.mem_of_getElem? (i := 543) (by decide +kernel)
theorem wd544 : Cond.code yX5_oneLifts cX5_oneLifts 4 (some .int) ∈ lw_tbl := List.mem_of_getElem? (i := 544) (by decide +kernel)
theorem wd545 : Cond.methodLink RX5 22 yX5_smith ∈ lw_tbl := List.mem_of_getElem? (i := 545) (by decide +kernel)
theorem wd546 : Cond.static yX5_smith ∈ lw_tbl := List.mem_of_getElem? (i := 546) (by decide +kernel)
theorem wd547 : Cond.code yX5_smith cX5_smith 1 (some .int) ∈ lw_tbl := List.mem_of_getElem? (i := 547) (by decide +kernel)
theorem wd548 : Cond.methodLink RX5 25 yX5_weak ∈ lw_tbl := List.mem_of_getElem? (i := 548) (by decide +kernel)
theorem wd549 : Cond.static yX5_weak ∈ lw_tbl := List.mem_of_getElem? (i := 549) (by decide +kernel)
theorem wd550 : Cond.code yX5_weak cX5_weak 1 (some .int) ∈ lw_tbl := List.mem_of_getElem? (i := 550) (by decide +kernel)
theorem wd551 : Cond.methodLink RX5 28 yJ9_max_7cf53 ∈ lw_tbl := List.mem_of_getElem? (i := 551) (by decide +kernel)
theorem wd552 : Cond.static yJ9_max_7cf53 ∈ lw_tbl := List.mem_of_getElem? (i := 552) (by decide +kernel)
theorem wd553 : Cond.code yJ9_max_7cf53 cJ9_max_7cf53 2 (some .int) ∈ lw_tbl := List.mem_of_getElem? (i := 553) (by decide +kernel)
theorem wd554 : Cond.methodLinkNest RX6 122 yX2_growOlder "StoneHeld" ∈ lw_tbl := List.mem_of_getElem? (i := 554) (by decide +kernel)
theorem wd556 : Cond.instanceMethod yX2_growOlder ∈ lw_tbl := List.mem_of_getElem? (i := 556) (by decide +kernel)
theorem wd557 : Cond.code yX2_growOlder cX2_growOlder 2 none ∈ lw_tbl := List.mem_of_getElem? (i := 557) (by decide +kernel)
theorem wd558 : Cond.methodLink RX2 31 yJ9_min_7cf53 ∈ lw_tbl := List.mem_of_getElem? (i := 558) (by decide +kernel)
theorem wd559 : Cond.methodLinkNest RX6 125 yX2_lose "StoneHeld" ∈ lw_tbl := List.mem_of_getElem? (i := 559) (by decide +kernel)
theorem wd561 : Cond.instanceMethod yX2_lose ∈ lw_tbl := List.mem_of_getElem? (i := 561) (by decide +kernel)
theorem wd562 : Cond.code yX2_lose cX2_lose 2 none ∈ lw_tbl := List.mem_of_getElem? (i := 562) (by decide +kernel)
theorem wd563 : Cond.methodLink RX3 42 yX3_takeStop ∈ lw_tbl := List.mem_of_getElem? (i := 563) (by decide +kernel)
theorem wd565 : Cond.instanceMethod yX3_takeStop ∈ lw_tbl := List.mem_of_getElem? (i := 565) (by decide +kernel)
theorem wd566 : Cond.code yX3_takeStop cX3_takeStop 1 (some .boolean) ∈ lw_tbl := List.mem_of_getElem? (i := 566) (by decide +kernel)
theorem wd567 : Cond.methodLinkNest RX7 94 yX6_copyFrom "StoneHeld" ∈ lw_tbl := List.mem_of_getElem? (i := 567) (by decide +kernel)
theorem wd569 : Cond.instanceMethod yX6_copyFrom ∈ lw_tbl := List.mem_of_getElem? (i := 569) (by decide +kernel)
theorem wd570 : Cond.code yX6_copyFrom cX6_copyFrom 3 none ∈ lw_tbl := List.mem_of_getElem? (i := 570) (by decide +kernel)
theorem wd571 : Cond.methodLinkNest RX6 70 yX2_copyFrom "StoneHeld" ∈ lw_tbl := List.mem_of_getElem? (i := 571) (by decide +kernel)
theorem wd573 : Cond.instanceMethod yX2_copyFrom ∈ lw_tbl := List.mem_of_getElem? (i := 573) (by decide +kernel)
theorem wd574 : Cond.code yX2_copyFrom cX2_copyFrom 3 none ∈ lw_tbl := List.mem_of_getElem? (i := 574) (by decide +kernel)
theorem wd575 : Cond.methodLinkNest RX6 74 yX4_copyFrom "StoneHeld" ∈ lw_tbl := List.mem_of_getElem? (i := 575) (by decide +kernel)
theorem wd577 : Cond.instanceMethod yX4_copyFrom ∈ lw_tbl := List.mem_of_getElem? (i := 577) (by decide +kernel)
theorem wd578 : Cond.code yX4_copyFrom cX4_copyFrom 3 none ∈ lw_tbl := List.mem_of_getElem? (i := 578) (by decide +kernel)
theorem wd579 : Cond.arrayClass .byte ∈ lw_tbl := List.mem_of_getElem? (i := 579) (by decide +kernel)
theorem wd580 : Cond.methodLink RL 41 yX7_owns ∈ lw_tbl := List.mem_of_getElem? (i := 580) (by decide +kernel)
theorem wd581 : Cond.instanceMethod yX7_owns ∈ lw_tbl := List.mem_of_getElem? (i := 581) (by decide +kernel)
theorem wd582 : Cond.selects RX7 yX7_owns yX7_owns ∈ lw_tbl := List.mem_of_getElem? (i := 582) (by decide +kernel)
theorem wd583 : Cond.code yX7_owns cX7_owns 3 (some .int) ∈ lw_tbl := List.mem_of_getElem? (i := 583) (by decide +kernel)
theorem wd584 : Cond.methodLinkNest RX7 98 yX6_hasOne "StoneHeld" ∈ lw_tbl := List.mem_of_getElem? (i := 584) (by decide +kernel)
theorem wd586 : Cond.instanceMethod yX6_hasOne ∈ lw_tbl := List.mem_of_getElem? (i := 586) (by decide +kernel)
theorem wd587 : Cond.code yX6_hasOne cX6_hasOne 2 (some .boolean) ∈ lw_tbl := List.mem_of_getElem? (i := 587) (by decide +kernel)
theorem wd588 : Cond.methodLinkNest RX7 102 yX6_hasThing "StoneHeld" ∈ lw_tbl := List.mem_of_getElem? (i := 588) (by decide +kernel)
theorem wd589 : Cond.methodLinkNest RX7 105 yX6_mayGet "StoneHeld" ∈ lw_tbl := List.mem_of_getElem? (i := 589) (by decide +kernel)
theorem wd590 : Cond.methodLinkNest RX7 108 yX6_ownerOf "StoneHeld" ∈ lw_tbl := List.mem_of_getElem? (i := 590) (by decide +kernel)
theorem wd591 : Cond.methodLink RX7 111 yX7_no ∈ lw_tbl := List.mem_of_getElem? (i := 591) (by decide +kernel)
theorem wd593 : Cond.instanceMethod yX7_no ∈ lw_tbl := List.mem_of_getElem? (i := 593) (by decide +kernel)
theorem wd594 : Cond.code yX7_no cX7_no 1 (some .int) ∈ lw_tbl := List.mem_of_getElem? (i := 594) (by decide +kernel)
theorem wd595 : Cond.methodLinkNest RX7 114 yX6_remember "StoneHeld" ∈ lw_tbl := List.mem_of_getElem? (i := 595) (by decide +kernel)
theorem wd597 : Cond.instanceMethod yX6_remember ∈ lw_tbl := List.mem_of_getElem? (i := 597) (by decide +kernel)
theorem wd598 : Cond.code yX6_remember cX6_remember 3 none ∈ lw_tbl := List.mem_of_getElem? (i := 598) (by decide +kernel)
theorem wd599 : Cond.methodLinkNest RX7 124 yX6_holdsFor "StoneHeld" ∈ lw_tbl := List.mem_of_getElem? (i := 599) (by decide +kernel)
theorem wd601 : Cond.instanceMethod yX6_holdsFor ∈ lw_tbl := List.mem_of_getElem? (i := 601) (by decide +kernel)
theorem wd602 : Cond.code yX6_holdsFor cX6_holdsFor 5 (some .int) ∈ lw_tbl := List.mem_of_getElem? (i := 602) (by decide +kernel)
theorem wd603 : Cond.methodLink RX6 106 yX6_weightOf ∈ lw_tbl := List.mem_of_getElem? (i := 603) (by decide +kernel)
theorem wd605 : Cond.instanceMethod yX6_weightOf ∈ lw_tbl := List.mem_of_getElem? (i := 605) (by decide +kernel)
theorem wd606 : Cond.code yX6_weightOf cX6_weightOf 3 (some .int) ∈ lw_tbl := List.mem_of_getElem? (i := 606) (by decide +kernel)
theorem wd607 : Cond.methodLink RX6 109 yX6_liftOf ∈ lw_tbl := List.mem_of_getElem? (i := 607) (by decide +kernel)
theorem wd609 : Cond.instanceMethod yX6_liftOf ∈ lw_tbl := List.mem_of_getElem? (i := 609) (by decide +kernel)
theorem wd610 : Cond.code yX6_liftOf cX6_liftOf 4 (some .int) ∈ lw_tbl := List.mem_of_getElem? (i := 610) (by decide +kernel)
theorem wd611 : Cond.methodLink RX6 97 yJ9_min_7cf53 ∈ lw_tbl := List.mem_of_getElem? (i := 611) (by decide +kernel)
theorem wd612 : Cond.methodLink RL 45 yX7_leaves ∈ lw_tbl := List.mem_of_getElem? (i := 612) (by decide +kernel)
theorem wd613 : Cond.instanceMethod yX7_leaves ∈ lw_tbl := List.mem_of_getElem? (i := 613) (by decide +kernel)
theorem wd614 : Cond.selects RX7 yX7_leaves yX7_leaves ∈ lw_tbl := List.mem_of_getElem? (i := 614) (by decide +kernel)
theorem wd615 : Cond.code yX7_leaves cX7_leaves 3 (some .int) ∈ lw_tbl := List.mem_of_getElem? (i := 615) (by decide +kernel)
theorem wd616 : Cond.methodLink RL 49 yX7_years ∈ lw_tbl := List.mem_of_getElem? (i := 616) (by decide +kernel)
theorem wd617 : Cond.instanceMethod yX7_years ∈ lw_tbl := List.mem_of_getElem? (i := 617) (by decide +kernel)
theorem wd618 : Cond.selects RX7 yX7_years yX7_years ∈ lw_tbl := List.mem_of_getElem? (i := 618) (by decide +kernel)
theorem wd619 : Cond.code yX7_years cX7_years 2 (some .int) ∈ lw_tbl := List.mem_of_getElem? (i := 619) (by decide +kernel)
theorem wd620 : Cond.methodLinkNest RX7 130 yX6_passYears "StoneHeld" ∈ lw_tbl := List.mem_of_getElem? (i := 620) (by decide +kernel)
theorem wd621 : Cond.methodLinkNest RX7 134 yX2_countHere "StoneHeld" ∈ lw_tbl := List.mem_of_getElem? (i := 621) (by decide +kernel)
theorem wd623 : Cond.instanceMethod yX2_countHere ∈ lw_tbl := List.mem_of_getElem? (i := 623) (by decide +kernel)
theorem wd624 : Cond.code yX2_countHere cX2_countHere 1 (some .int) ∈ lw_tbl := List.mem_of_getElem? (i := 624) (by decide +kernel)
theorem wd625 : Cond.methodLink RX2 25 yJ6_bitCount_0f7a4 ∈ lw_tbl := List.mem_of_getElem? (i := 625) (by decide +kernel)
theorem wd626 : Cond.static yJ6_bitCount_0f7a4 ∈ lw_tbl := List.mem_of_getElem? (i := 626) (by decide +kernel)
theorem wd627 : Cond.code yJ6_bitCount_0f7a4 cJ6_bitCount_0f7a4 1 (some .int) ∈ lw_tbl := List.mem_of_getElem? (i := 627) (by decide +kernel)
theorem wd628 : Cond.constant RJ6 265 (1431655765) ∈ lw_tbl := List.mem_of_getElem? (i := 628) (by decide +kernel)
theorem wd629 : Cond.constant RJ6 266 (858993459) ∈ lw_tbl := List.mem_of_getElem? (i := 629) (by decide +kernel)
theorem wd630 : Cond.constant RJ6 267 (252645135) ∈ lw_tbl := List.mem_of_getElem? (i := 630) (by decide +kernel)
theorem wd631 : Cond.methodLink RL 53 yX7_undo ∈ lw_tbl := List.mem_of_getElem? (i := 631) (by decide +kernel)
theorem wd632 : Cond.instanceMethod yX7_undo ∈ lw_tbl := List.mem_of_getElem? (i := 632) (by decide +kernel)
theorem wd633 : Cond.selects RX7 yX7_undo yX7_undo ∈ lw_tbl := List.mem_of_getElem? (i := 633) (by decide +kernel)
theorem wd634 : Cond.code yX7_undo cX7_undo 1 (some .int) ∈ lw_tbl := List.mem_of_getElem? (i := 634) (by decide +kernel)
theorem wd635 : Cond.methodLinkNest RX7 140 yX6_bringBack "StoneHeld" ∈ lw_tbl := List.mem_of_getElem? (i := 635) (by decide +kernel)
theorem wd637 : Cond.instanceMethod yX6_bringBack ∈ lw_tbl := List.mem_of_getElem? (i := 637) (by decide +kernel)
theorem wd638 : Cond.code yX6_bringBack cX6_bringBack 1 none ∈ lw_tbl := List.mem_of_getElem? (i := 638) (by decide +kernel)
theorem wd639 : Cond.methodLink RL 57 yX7_of ∈ lw_tbl := List.mem_of_getElem? (i := 639) (by decide +kernel)
theorem wd640 : Cond.instanceMethod yX7_of ∈ lw_tbl := List.mem_of_getElem? (i := 640) (by decide +kernel)
theorem wd641 : Cond.selects RX7 yX7_of yX7_of ∈ lw_tbl := List.mem_of_getElem? (i := 641) (by decide +kernel)
theorem wd642 : Cond.code yX7_of cX7_of 3 (some .int) ∈ lw_tbl := List.mem_of_getElem? (i := 642) (by decide +kernel)
theorem wd643 : Cond.methodLinkNest RX7 143 yX6_factOfOne "StoneHeld" ∈ lw_tbl := List.mem_of_getElem? (i := 643) (by decide +kernel)
theorem wd645 : Cond.instanceMethod yX6_factOfOne ∈ lw_tbl := List.mem_of_getElem? (i := 645) (by decide +kernel)
theorem wd646 : Cond.code yX6_factOfOne cX6_factOfOne 3 (some .int) ∈ lw_tbl := List.mem_of_getElem? (i := 646) (by decide +kernel)
theorem wd647 : Cond.methodLink RL 61 yX7_about ∈ lw_tbl := List.mem_of_getElem? (i := 647) (by decide +kernel)
theorem wd648 : Cond.instanceMethod yX7_about ∈ lw_tbl := List.mem_of_getElem? (i := 648) (by decide +kernel)
theorem wd649 : Cond.selects RX7 yX7_about yX7_about ∈ lw_tbl := List.mem_of_getElem? (i := 649) (by decide +kernel)
theorem wd650 : Cond.code yX7_about cX7_about 3 (some .int) ∈ lw_tbl := List.mem_of_getElem? (i := 650) (by decide +kernel)
theorem wd651 : Cond.methodLink RL 65 yX7_lifts ∈ lw_tbl := List.mem_of_getElem? (i := 651) (by decide +kernel)
theorem wd652 : Cond.instanceMethod yX7_lifts ∈ lw_tbl := List.mem_of_getElem? (i := 652) (by decide +kernel)
theorem wd653 : Cond.selects RX7 yX7_lifts yX7_lifts ∈ lw_tbl := List.mem_of_getElem? (i := 653) (by decide +kernel)
theorem wd654 : Cond.code yX7_lifts cX7_lifts 3 (some .int) ∈ lw_tbl := List.mem_of_getElem? (i := 654) (by decide +kernel)
theorem wd655 : Cond.methodLinkNest RX7 152 yX6_liftOf "StoneHeld" ∈ lw_tbl := List.mem_of_getElem? (i := 655) (by decide +kernel)
theorem wd656 : Cond.methodLink RL 69 yX7_weighs ∈ lw_tbl := List.mem_of_getElem? (i := 656) (by decide +kernel)
theorem wd657 : Cond.instanceMethod yX7_weighs ∈ lw_tbl := List.mem_of_getElem? (i := 657) (by decide +kernel)
theorem wd658 : Cond.selects RX7 yX7_weighs yX7_weighs ∈ lw_tbl := List.mem_of_getElem? (i := 658) (by decide +kernel)
theorem wd659 : Cond.code yX7_weighs cX7_weighs 3 (some .int) ∈ lw_tbl := List.mem_of_getElem? (i := 659) (by decide +kernel)
theorem wd660 : Cond.methodLinkNest RX7 155 yX6_weightOf "StoneHeld" ∈ lw_tbl := List.mem_of_getElem? (i := 660) (by decide +kernel)
theorem wd661 : Cond.methodLink RL 73 yX7_held ∈ lw_tbl := List.mem_of_getElem? (i := 661) (by decide +kernel)
theorem wd662 : Cond.instanceMethod yX7_held ∈ lw_tbl := List.mem_of_getElem? (i := 662) (by decide +kernel)
theorem wd663 : Cond.selects RX7 yX7_held yX7_held ∈ lw_tbl := List.mem_of_getElem? (i := 663) (by decide +kernel)
theorem wd664 : Cond.code yX7_held cX7_held 3 (some .int) ∈ lw_tbl := List.mem_of_getElem? (i := 664) (by decide +kernel)
theorem wd665 : Cond.methodLinkNest RX7 158 yX2_isHere "StoneHeld" ∈ lw_tbl := List.mem_of_getElem? (i := 665) (by decide +kernel)
theorem wd666 : Cond.methodLinkNest RX7 161 yX6_isHeldIn "StoneHeld" ∈ lw_tbl := List.mem_of_getElem? (i := 666) (by decide +kernel)
theorem wd667 : Cond.methodLink RL 77 yX7_left ∈ lw_tbl := List.mem_of_getElem? (i := 667) (by decide +kernel)
theorem wd668 : Cond.instanceMethod yX7_left ∈ lw_tbl := List.mem_of_getElem? (i := 668) (by decide +kernel)
theorem wd669 : Cond.selects RX7 yX7_left yX7_left ∈ lw_tbl := List.mem_of_getElem? (i := 669) (by decide +kernel)
theorem wd670 : Cond.code yX7_left cX7_left 2 (some .int) ∈ lw_tbl := List.mem_of_getElem? (i := 670) (by decide +kernel)
theorem wd671 : Cond.methodLinkNest RX7 165 yX2_copyFrom "StoneHeld" ∈ lw_tbl := List.mem_of_getElem? (i := 671) (by decide +kernel)
theorem wd672 : Cond.methodLink RL 81 yX7_when ∈ lw_tbl := List.mem_of_getElem? (i := 672) (by decide +kernel)
theorem wd673 : Cond.instanceMethod yX7_when ∈ lw_tbl := List.mem_of_getElem? (i := 673) (by decide +kernel)
theorem wd674 : Cond.selects RX7 yX7_when yX7_when ∈ lw_tbl := List.mem_of_getElem? (i := 674) (by decide +kernel)
theorem wd675 : Cond.code yX7_when cX7_when 4 (some .int) ∈ lw_tbl := List.mem_of_getElem? (i := 675) (by decide +kernel)
theorem wd676 : Cond.methodLink RL 85 yX7_lasts ∈ lw_tbl := List.mem_of_getElem? (i := 676) (by decide +kernel)
theorem wd677 : Cond.instanceMethod yX7_lasts ∈ lw_tbl := List.mem_of_getElem? (i := 677) (by decide +kernel)
theorem wd678 : Cond.selects RX7 yX7_lasts yX7_lasts ∈ lw_tbl := List.mem_of_getElem? (i := 678) (by decide +kernel)
theorem wd679 : Cond.code yX7_lasts cX7_lasts 3 (some .int) ∈ lw_tbl := List.mem_of_getElem? (i := 679) (by decide +kernel)
theorem wd680 : Cond.methodLink RL 89 yX7_match ∈ lw_tbl := List.mem_of_getElem? (i := 680) (by decide +kernel)
theorem wd681 : Cond.instanceMethod yX7_match ∈ lw_tbl := List.mem_of_getElem? (i := 681) (by decide +kernel)
theorem wd682 : Cond.selects RX7 yX7_match yX7_match ∈ lw_tbl := List.mem_of_getElem? (i := 682) (by decide +kernel)
theorem wd683 : Cond.code yX7_match cX7_match 4 (some .int) ∈ lw_tbl := List.mem_of_getElem? (i := 683) (by decide +kernel)
theorem wd684 : Cond.methodLinkNest RX7 171 yX1_fill "StoneHeld" ∈ lw_tbl := List.mem_of_getElem? (i := 684) (by decide +kernel)
theorem wd686 : Cond.instanceMethod yX1_fill ∈ lw_tbl := List.mem_of_getElem? (i := 686) (by decide +kernel)
theorem wd687 : Cond.code yX1_fill cX1_fill 5 none ∈ lw_tbl := List.mem_of_getElem? (i := 687) (by decide +kernel)
theorem wd688 : Cond.methodLinkNest RX1 25 yX6_thingsHolding "StoneHeld" ∈ lw_tbl := List.mem_of_getElem? (i := 688) (by decide +kernel)
theorem wd690 : Cond.instanceMethod yX6_thingsHolding ∈ lw_tbl := List.mem_of_getElem? (i := 690) (by decide +kernel)
theorem wd691 : Cond.code yX6_thingsHolding cX6_thingsHolding 5 (some .int) ∈ lw_tbl := List.mem_of_getElem? (i := 691) (by decide +kernel)
theorem wd692 : Cond.methodLink RX6 112 yX6_holdsFor ∈ lw_tbl := List.mem_of_getElem? (i := 692) (by decide +kernel)
theorem wd693 : Cond.methodLink RX1 32 yX1_best ∈ lw_tbl := List.mem_of_getElem? (i := 693) (by decide +kernel)
theorem wd695 : Cond.instanceMethod yX1_best ∈ lw_tbl := List.mem_of_getElem? (i := 695) (by decide +kernel)
theorem wd696 : Cond.code yX1_best cX1_best 6 (some .int) ∈ lw_tbl := List.mem_of_getElem? (i := 696) (by decide +kernel)
theorem wd697 : Cond.methodLink RX1 35 yX1_most ∈ lw_tbl := List.mem_of_getElem? (i := 697) (by decide +kernel)
theorem wd699 : Cond.instanceMethod yX1_most ∈ lw_tbl := List.mem_of_getElem? (i := 699) (by decide +kernel)
theorem wd700 : Cond.code yX1_most cX1_most 3 (some .int) ∈ lw_tbl := List.mem_of_getElem? (i := 700) (by decide +kernel)
theorem wd701 : Cond.methodLinkNest RX7 175 yX1_most "StoneHeld" ∈ lw_tbl := List.mem_of_getElem? (i := 701) (by decide +kernel)
theorem wd702 : Cond.methodLinkNest RX7 178 yX1_firstThingOf "StoneHeld" ∈ lw_tbl := List.mem_of_getElem? (i := 702) (by decide +kernel)
theorem wd704 : Cond.instanceMethod yX1_firstThingOf ∈ lw_tbl := List.mem_of_getElem? (i := 704) (by decide +kernel)
theorem wd705 : Cond.code yX1_firstThingOf cX1_firstThingOf 6 (some .int) ∈ lw_tbl := List.mem_of_getElem? (i := 705) (by decide +kernel)
theorem wd706 : Cond.methodLink RX1 38 yX1_firstThing ∈ lw_tbl := List.mem_of_getElem? (i := 706) (by decide +kernel)
theorem wd708 : Cond.instanceMethod yX1_firstThing ∈ lw_tbl := List.mem_of_getElem? (i := 708) (by decide +kernel)
theorem wd709 : Cond.code yX1_firstThing cX1_firstThing 6 (some .int) ∈ lw_tbl := List.mem_of_getElem? (i := 709) (by decide +kernel)
theorem wd710 : Cond.methodLink RL 93 yX7_light ∈ lw_tbl := List.mem_of_getElem? (i := 710) (by decide +kernel)
theorem wd711 : Cond.instanceMethod yX7_light ∈ lw_tbl := List.mem_of_getElem? (i := 711) (by decide +kernel)
theorem wd712 : Cond.selects RX7 yX7_light yX7_light ∈ lw_tbl := List.mem_of_getElem? (i := 712) (by decide +kernel)
theorem wd713 : Cond.code yX7_light cX7_light 6 (some .int) ∈ lw_tbl := List.mem_of_getElem? (i := 713) (by decide +kernel)
theorem wd714 : Cond.methodLinkNest RX7 181 yX6_toldWeight "StoneHeld" ∈ lw_tbl := List.mem_of_getElem? (i := 714) (by decide +kernel)
theorem wd716 : Cond.instanceMethod yX6_toldWeight ∈ lw_tbl := List.mem_of_getElem? (i := 716) (by decide +kernel)
theorem wd717 : Cond.code yX6_toldWeight cX6_toldWeight 4 (some .int) ∈ lw_tbl := List.mem_of_getElem? (i := 717) (by decide +kernel)
theorem wd718 : Cond.methodLink RX7 184 yJ9_min_7cf53 ∈ lw_tbl := List.mem_of_getElem? (i := 718) (by decide +kernel)
theorem wd719 : Cond.methodLink RL 97 yX7_two ∈ lw_tbl := List.mem_of_getElem? (i := 719) (by decide +kernel)
theorem wd720 : Cond.instanceMethod yX7_two ∈ lw_tbl := List.mem_of_getElem? (i := 720) (by decide +kernel)
theorem wd721 : Cond.selects RX7 yX7_two yX7_two ∈ lw_tbl := List.mem_of_getElem? (i := 721) (by decide +kernel)
theorem wd722 : Cond.code yX7_two cX7_two 6 (some .int) ∈ lw_tbl := List.mem_of_getElem? (i := 722) (by decide +kernel)
theorem wd723 : Cond.methodLinkNest RX7 189 yX6_liftByTwo "StoneHeld" ∈ lw_tbl := List.mem_of_getElem? (i := 723) (by decide +kernel)
theorem wd725 : Cond.instanceMethod yX6_liftByTwo ∈ lw_tbl := List.mem_of_getElem? (i := 725) (by decide +kernel)
theorem wd726 : Cond.code yX6_liftByTwo cX6_liftByTwo 7 (some .boolean) ∈ lw_tbl := List.mem_of_getElem? (i := 726) (by decide +kernel)
theorem wd727 : Cond.methodLink RL 101 yX7_seen ∈ lw_tbl := List.mem_of_getElem? (i := 727) (by decide +kernel)
theorem wd728 : Cond.instanceMethod yX7_seen ∈ lw_tbl := List.mem_of_getElem? (i := 728) (by decide +kernel)
theorem wd729 : Cond.selects RX7 yX7_seen yX7_seen ∈ lw_tbl := List.mem_of_getElem? (i := 729) (by decide +kernel)
theorem wd730 : Cond.code yX7_seen cX7_seen 5 (some .int) ∈ lw_tbl := List.mem_of_getElem? (i := 730) (by decide +kernel)
theorem wd731 : Cond.methodLinkNest RX7 196 yX4_isFull "StoneHeld" ∈ lw_tbl := List.mem_of_getElem? (i := 731) (by decide +kernel)
theorem wd733 : Cond.instanceMethod yX4_isFull ∈ lw_tbl := List.mem_of_getElem? (i := 733) (by decide +kernel)
theorem wd734 : Cond.code yX4_isFull cX4_isFull 1 (some .boolean) ∈ lw_tbl := List.mem_of_getElem? (i := 734) (by decide +kernel)
theorem wd735 : Cond.methodLinkNest RX7 202 yX4_add "StoneHeld" ∈ lw_tbl := List.mem_of_getElem? (i := 735) (by decide +kernel)
theorem wd737 : Cond.instanceMethod yX4_add ∈ lw_tbl := List.mem_of_getElem? (i := 737) (by decide +kernel)
theorem wd738 : Cond.code yX4_add cX4_add 6 (some .int) ∈ lw_tbl := List.mem_of_getElem? (i := 738) (by decide +kernel)
theorem wd739 : Cond.methodLink RL 106 yX7_strong ∈ lw_tbl := List.mem_of_getElem? (i := 739) (by decide +kernel)
theorem wd740 : Cond.instanceMethod yX7_strong ∈ lw_tbl := List.mem_of_getElem? (i := 740) (by decide +kernel)
theorem wd741 : Cond.selects RX7 yX7_strong yX7_strong ∈ lw_tbl := List.mem_of_getElem? (i := 741) (by decide +kernel)
theorem wd742 : Cond.code yX7_strong cX7_strong 4 (some .int) ∈ lw_tbl := List.mem_of_getElem? (i := 742) (by decide +kernel)
theorem wd743 : Cond.methodLinkNest RX7 206 yX6_fittingStrengths "StoneHeld" ∈ lw_tbl := List.mem_of_getElem? (i := 743) (by decide +kernel)
theorem wd745 : Cond.instanceMethod yX6_fittingStrengths ∈ lw_tbl := List.mem_of_getElem? (i := 745) (by decide +kernel)
theorem wd746 : Cond.code yX6_fittingStrengths cX6_fittingStrengths 4 (some .int) ∈ lw_tbl := List.mem_of_getElem? (i := 746) (by decide +kernel)
theorem wd747 : Cond.methodLink RX6 131 yX6_fitsSeen ∈ lw_tbl := List.mem_of_getElem? (i := 747) (by decide +kernel)
theorem wd749 : Cond.instanceMethod yX6_fitsSeen ∈ lw_tbl := List.mem_of_getElem? (i := 749) (by decide +kernel)
theorem wd750 : Cond.code yX6_fitsSeen cX6_fitsSeen 6 (some .boolean) ∈ lw_tbl := List.mem_of_getElem? (i := 750) (by decide +kernel)
theorem wd751 : Cond.methodLinkNest RX6 138 yX4_cell "StoneHeld" ∈ lw_tbl := List.mem_of_getElem? (i := 751) (by decide +kernel)
theorem wd753 : Cond.instanceMethod yX4_cell ∈ lw_tbl := List.mem_of_getElem? (i := 753) (by decide +kernel)
theorem wd754 : Cond.code yX4_cell cX4_cell 3 (some .int) ∈ lw_tbl := List.mem_of_getElem? (i := 754) (by decide +kernel)
theorem wd755 : Cond.methodLink RX7 209 yJ6_bitCount_0f7a4 ∈ lw_tbl := List.mem_of_getElem? (i := 755) (by decide +kernel)
theorem wd756 : Cond.methodLink RX7 214 yX7_leastBit ∈ lw_tbl := List.mem_of_getElem? (i := 756) (by decide +kernel)
theorem wd757 : Cond.static yX7_leastBit ∈ lw_tbl := List.mem_of_getElem? (i := 757) (by decide +kernel)
theorem wd758 : Cond.code yX7_leastBit cX7_leastBit 2 (some .int) ∈ lw_tbl := List.mem_of_getElem? (i := 758) (by decide +kernel)
theorem wd759 : Cond.methodLink RX7 217 yX7_greatestBit ∈ lw_tbl := List.mem_of_getElem? (i := 759) (by decide +kernel)
theorem wd760 : Cond.static yX7_greatestBit ∈ lw_tbl := List.mem_of_getElem? (i := 760) (by decide +kernel)
theorem wd761 : Cond.code yX7_greatestBit cX7_greatestBit 2 (some .int) ∈ lw_tbl := List.mem_of_getElem? (i := 761) (by decide +kernel)
theorem wd762 : Cond.methodLink RL 110 yX7_tell ∈ lw_tbl := List.mem_of_getElem? (i := 762) (by decide +kernel)
theorem wd763 : Cond.instanceMethod yX7_tell ∈ lw_tbl := List.mem_of_getElem? (i := 763) (by decide +kernel)
theorem wd764 : Cond.selects RX7 yX7_tell yX7_tell ∈ lw_tbl := List.mem_of_getElem? (i := 764) (by decide +kernel)
theorem wd765 : Cond.code yX7_tell cX7_tell 8 (some .int) ∈ lw_tbl := List.mem_of_getElem? (i := 765) (by decide +kernel)
theorem wd766 : Cond.methodLinkNest RX7 223 yX0_fillByStrength "StoneHeld" ∈ lw_tbl := List.mem_of_getElem? (i := 766) (by decide +kernel)
theorem wd768 : Cond.instanceMethod yX0_fillByStrength ∈ lw_tbl := List.mem_of_getElem? (i := 768) (by decide +kernel)
theorem wd769 : Cond.code yX0_fillByStrength cX0_fillByStrength 5 none ∈ lw_tbl := List.mem_of_getElem? (i := 769) (by decide +kernel)
theorem wd770 : Cond.methodLinkNest RX0 19 yX5_oneLifts "StoneHeld" ∈ lw_tbl := List.mem_of_getElem? (i := 770) (by decide +kernel)
theorem wd771 : Cond.methodLink RX0 25 yX0_put ∈ lw_tbl := List.mem_of_getElem? (i := 771) (by decide +kernel)
theorem wd773 : Cond.instanceMethod yX0_put ∈ lw_tbl := List.mem_of_getElem? (i := 773) (by decide +kernel)
theorem wd774 : Cond.code yX0_put cX0_put 2 none ∈ lw_tbl := List.mem_of_getElem? (i := 774) (by decide +kernel)
theorem wd775 : Cond.methodLinkNest RX7 227 yX0_greaterPart "StoneHeld" ∈ lw_tbl := List.mem_of_getElem? (i := 775) (by decide +kernel)
theorem wd777 : Cond.instanceMethod yX0_greaterPart ∈ lw_tbl := List.mem_of_getElem? (i := 777) (by decide +kernel)
theorem wd778 : Cond.code yX0_greaterPart cX0_greaterPart 4 (some .int) ∈ lw_tbl := List.mem_of_getElem? (i := 778) (by decide +kernel)
theorem wd779 : Cond.methodLink RX0 32 yJ9_max_7cf53 ∈ lw_tbl := List.mem_of_getElem? (i := 779) (by decide +kernel)
theorem wd780 : Cond.methodLink RL 114 yX7_note ∈ lw_tbl := List.mem_of_getElem? (i := 780) (by decide +kernel)
theorem wd781 : Cond.instanceMethod yX7_note ∈ lw_tbl := List.mem_of_getElem? (i := 781) (by decide +kernel)
theorem wd782 : Cond.selects RX7 yX7_note yX7_note ∈ lw_tbl := List.mem_of_getElem? (i := 782) (by decide +kernel)
theorem wd783 : Cond.code yX7_note cX7_note 5 (some .int) ∈ lw_tbl := List.mem_of_getElem? (i := 783) (by decide +kernel)
theorem wd784 : Cond.methodLink RL 118 yX7_mark ∈ lw_tbl := List.mem_of_getElem? (i := 784) (by decide +kernel)
theorem wd785 : Cond.instanceMethod yX7_mark ∈ lw_tbl := List.mem_of_getElem? (i := 785) (by decide +kernel)
theorem wd786 : Cond.selects RX7 yX7_mark yX7_mark ∈ lw_tbl := List.mem_of_getElem? (i := 786) (by decide +kernel)
theorem wd787 : Cond.code yX7_mark cX7_mark 5 (some .int) ∈ lw_tbl := List.mem_of_getElem? (i := 787) (by decide +kernel)
theorem wd788 : Cond.methodLink RL 122 yX7_forget ∈ lw_tbl := List.mem_of_getElem? (i := 788) (by decide +kernel)
theorem wd789 : Cond.instanceMethod yX7_forget ∈ lw_tbl := List.mem_of_getElem? (i := 789) (by decide +kernel)
theorem wd790 : Cond.selects RX7 yX7_forget yX7_forget ∈ lw_tbl := List.mem_of_getElem? (i := 790) (by decide +kernel)
theorem wd791 : Cond.code yX7_forget cX7_forget 2 (some .int) ∈ lw_tbl := List.mem_of_getElem? (i := 791) (by decide +kernel)
theorem wd792 : Cond.methodLinkNest RX7 236 yX4_drop "StoneHeld" ∈ lw_tbl := List.mem_of_getElem? (i := 792) (by decide +kernel)
theorem wd793 : Cond.methodLink RL 126 yX7_is ∈ lw_tbl := List.mem_of_getElem? (i := 793) (by decide +kernel)
theorem wd794 : Cond.instanceMethod yX7_is ∈ lw_tbl := List.mem_of_getElem? (i := 794) (by decide +kernel)
theorem wd795 : Cond.selects RX7 yX7_is yX7_is ∈ lw_tbl := List.mem_of_getElem? (i := 795) (by decide +kernel)
theorem wd796 : Cond.code yX7_is cX7_is 2 (some .int) ∈ lw_tbl := List.mem_of_getElem? (i := 796) (by decide +kernel)
theorem wd797 : Cond.methodLinkNest RX7 239 yX6_fittingThingKinds "StoneHeld" ∈ lw_tbl := List.mem_of_getElem? (i := 797) (by decide +kernel)
theorem wd799 : Cond.instanceMethod yX6_fittingThingKinds ∈ lw_tbl := List.mem_of_getElem? (i := 799) (by decide +kernel)
theorem wd800 : Cond.code yX6_fittingThingKinds cX6_fittingThingKinds 4 (some .int) ∈ lw_tbl := List.mem_of_getElem? (i := 800) (by decide +kernel)
theorem wd801 : Cond.methodLink RX6 141 yX6_fitsNotes ∈ lw_tbl := List.mem_of_getElem? (i := 801) (by decide +kernel)
theorem wd803 : Cond.instanceMethod yX6_fitsNotes ∈ lw_tbl := List.mem_of_getElem? (i := 803) (by decide +kernel)
theorem wd804 : Cond.code yX6_fitsNotes cX6_fitsNotes 4 (some .boolean) ∈ lw_tbl := List.mem_of_getElem? (i := 804) (by decide +kernel)
theorem wd805 : Cond.methodLink RL 130 yX7_look ∈ lw_tbl := List.mem_of_getElem? (i := 805) (by decide +kernel)
theorem wd806 : Cond.instanceMethod yX7_look ∈ lw_tbl := List.mem_of_getElem? (i := 806) (by decide +kernel)
theorem wd807 : Cond.selects RX7 yX7_look yX7_look ∈ lw_tbl := List.mem_of_getElem? (i := 807) (by decide +kernel)
theorem wd808 : Cond.code yX7_look cX7_look 7 (some .int) ∈ lw_tbl := List.mem_of_getElem? (i := 808) (by decide +kernel)
theorem wd809 : Cond.methodLinkNest RX7 242 yX0_fillByThingKind "StoneHeld" ∈ lw_tbl := List.mem_of_getElem? (i := 809) (by decide +kernel)
theorem wd811 : Cond.instanceMethod yX0_fillByThingKind ∈ lw_tbl := List.mem_of_getElem? (i := 811) (by decide +kernel)
theorem wd812 : Cond.code yX0_fillByThingKind cX0_fillByThingKind 5 none ∈ lw_tbl := List.mem_of_getElem? (i := 812) (by decide +kernel)
theorem wd813 : Cond.methodLinkNest RX0 29 yX5_thingWeighs "StoneHeld" ∈ lw_tbl := List.mem_of_getElem? (i := 813) (by decide +kernel)
theorem wd814 : Cond.methodLinkNest RX7 245 yX0_mostAlike "StoneHeld" ∈ lw_tbl := List.mem_of_getElem? (i := 814) (by decide +kernel)
theorem wd816 : Cond.instanceMethod yX0_mostAlike ∈ lw_tbl := List.mem_of_getElem? (i := 816) (by decide +kernel)
theorem wd817 : Cond.code yX0_mostAlike cX0_mostAlike 5 (some .int) ∈ lw_tbl := List.mem_of_getElem? (i := 817) (by decide +kernel)
theorem wd818 : Cond.methodLink RL 134 yX7_kinds ∈ lw_tbl := List.mem_of_getElem? (i := 818) (by decide +kernel)
theorem wd819 : Cond.instanceMethod yX7_kinds ∈ lw_tbl := List.mem_of_getElem? (i := 819) (by decide +kernel)
theorem wd820 : Cond.selects RX7 yX7_kinds yX7_kinds ∈ lw_tbl := List.mem_of_getElem? (i := 820) (by decide +kernel)
theorem wd821 : Cond.code yX7_kinds cX7_kinds 2 (some .int) ∈ lw_tbl := List.mem_of_getElem? (i := 821) (by decide +kernel)
theorem wd822 : Cond.methodLinkNest RX7 248 yX6_fittingOneKinds "StoneHeld" ∈ lw_tbl := List.mem_of_getElem? (i := 822) (by decide +kernel)
theorem wd824 : Cond.instanceMethod yX6_fittingOneKinds ∈ lw_tbl := List.mem_of_getElem? (i := 824) (by decide +kernel)
theorem wd825 : Cond.code yX6_fittingOneKinds cX6_fittingOneKinds 4 (some .int) ∈ lw_tbl := List.mem_of_getElem? (i := 825) (by decide +kernel)
theorem wd826 : Cond.methodLink RX6 144 yX6_fitsMarks ∈ lw_tbl := List.mem_of_getElem? (i := 826) (by decide +kernel)
theorem wd828 : Cond.instanceMethod yX6_fitsMarks ∈ lw_tbl := List.mem_of_getElem? (i := 828) (by decide +kernel)
theorem wd829 : Cond.code yX6_fitsMarks cX6_fitsMarks 4 (some .boolean) ∈ lw_tbl := List.mem_of_getElem? (i := 829) (by decide +kernel)
theorem wd830 : Cond.methodLink RL 138 yX7_ask ∈ lw_tbl := List.mem_of_getElem? (i := 830) (by decide +kernel)
theorem wd831 : Cond.instanceMethod yX7_ask ∈ lw_tbl := List.mem_of_getElem? (i := 831) (by decide +kernel)
theorem wd832 : Cond.selects RX7 yX7_ask yX7_ask ∈ lw_tbl := List.mem_of_getElem? (i := 832) (by decide +kernel)
theorem wd833 : Cond.code yX7_ask cX7_ask 7 (some .int) ∈ lw_tbl := List.mem_of_getElem? (i := 833) (by decide +kernel)
theorem wd834 : Cond.methodLinkNest RX7 254 yX0_fillByOneKind "StoneHeld" ∈ lw_tbl := List.mem_of_getElem? (i := 834) (by decide +kernel)
theorem wd836 : Cond.instanceMethod yX0_fillByOneKind ∈ lw_tbl := List.mem_of_getElem? (i := 836) (by decide +kernel)
theorem wd837 : Cond.code yX0_fillByOneKind cX0_fillByOneKind 5 none ∈ lw_tbl := List.mem_of_getElem? (i := 837) (by decide +kernel)
theorem wd838 : Cond.methodLink RL 142 yX7_tries ∈ lw_tbl := List.mem_of_getElem? (i := 838) (by decide +kernel)
theorem wd839 : Cond.instanceMethod yX7_tries ∈ lw_tbl := List.mem_of_getElem? (i := 839) (by decide +kernel)
theorem wd840 : Cond.selects RX7 yX7_tries yX7_tries ∈ lw_tbl := List.mem_of_getElem? (i := 840) (by decide +kernel)
theorem wd841 : Cond.code yX7_tries cX7_tries 11 (some .int) ∈ lw_tbl := List.mem_of_getElem? (i := 841) (by decide +kernel)
theorem wd842 : Cond.methodLink RX7 257 yX7_isContent ∈ lw_tbl := List.mem_of_getElem? (i := 842) (by decide +kernel)
theorem wd843 : Cond.static yX7_isContent ∈ lw_tbl := List.mem_of_getElem? (i := 843) (by decide +kernel)
theorem wd844 : Cond.code yX7_isContent cX7_isContent 5 (some .boolean) ∈ lw_tbl := List.mem_of_getElem? (i := 844) (by decide +kernel)
theorem wd845 : Cond.methodLink RX7 322 yX7_gain ∈ lw_tbl := List.mem_of_getElem? (i := 845) (by decide +kernel)
theorem wd846 : Cond.static yX7_gain ∈ lw_tbl := List.mem_of_getElem? (i := 846) (by decide +kernel)
theorem wd847 : Cond.code yX7_gain cX7_gain 5 (some .int) ∈ lw_tbl := List.mem_of_getElem? (i := 847) (by decide +kernel)
theorem wd848 : Cond.methodLink RL 146 yX7_shout ∈ lw_tbl := List.mem_of_getElem? (i := 848) (by decide +kernel)
theorem wd849 : Cond.instanceMethod yX7_shout ∈ lw_tbl := List.mem_of_getElem? (i := 849) (by decide +kernel)
theorem wd850 : Cond.selects RX7 yX7_shout yX7_shout ∈ lw_tbl := List.mem_of_getElem? (i := 850) (by decide +kernel)
theorem wd851 : Cond.code yX7_shout cX7_shout 9 (some .int) ∈ lw_tbl := List.mem_of_getElem? (i := 851) (by decide +kernel)
theorem wd852 : Cond.methodLinkNest RX7 261 yX6_tenthsHeld "StoneHeld" ∈ lw_tbl := List.mem_of_getElem? (i := 852) (by decide +kernel)
theorem wd854 : Cond.instanceMethod yX6_tenthsHeld ∈ lw_tbl := List.mem_of_getElem? (i := 854) (by decide +kernel)
theorem wd855 : Cond.code yX6_tenthsHeld cX6_tenthsHeld 7 (some .int) ∈ lw_tbl := List.mem_of_getElem? (i := 855) (by decide +kernel)
theorem wd856 : Cond.constantLong RX7 264 (10) ∈ lw_tbl := List.mem_of_getElem? (i := 856) (by decide +kernel)
theorem wd857 : Cond.methodLink RX7 266 yX7_setFraction ∈ lw_tbl := List.mem_of_getElem? (i := 857) (by decide +kernel)
theorem wd859 : Cond.instanceMethod yX7_setFraction ∈ lw_tbl := List.mem_of_getElem? (i := 859) (by decide +kernel)
theorem wd860 : Cond.code yX7_setFraction cX7_setFraction 7 none ∈ lw_tbl := List.mem_of_getElem? (i := 860) (by decide +kernel)
theorem wd861 : Cond.methodLink RX7 318 yX7_commonDivisor ∈ lw_tbl := List.mem_of_getElem? (i := 861) (by decide +kernel)
theorem wd862 : Cond.static yX7_commonDivisor ∈ lw_tbl := List.mem_of_getElem? (i := 862) (by decide +kernel)
theorem wd863 : Cond.code yX7_commonDivisor cX7_commonDivisor 11 (some .long) ∈ lw_tbl := List.mem_of_getElem? (i := 863) (by decide +kernel)
theorem wd864 : Cond.methodLink RL 150 yX7_centuries ∈ lw_tbl := List.mem_of_getElem? (i := 864) (by decide +kernel)
theorem wd865 : Cond.instanceMethod yX7_centuries ∈ lw_tbl := List.mem_of_getElem? (i := 865) (by decide +kernel)
theorem wd866 : Cond.selects RX7 yX7_centuries yX7_centuries ∈ lw_tbl := List.mem_of_getElem? (i := 866) (by decide +kernel)
theorem wd867 : Cond.code yX7_centuries cX7_centuries 8 (some .int) ∈ lw_tbl := List.mem_of_getElem? (i := 867) (by decide +kernel)
theorem wd868 : Cond.constant RX7 270 (999999) ∈ lw_tbl := List.mem_of_getElem? (i := 868) (by decide +kernel)
theorem wd869 : Cond.constantLong RX7 271 (1103515245) ∈ lw_tbl := List.mem_of_getElem? (i := 869) (by decide +kernel)
theorem wd870 : Cond.constantLong RX7 273 (12345) ∈ lw_tbl := List.mem_of_getElem? (i := 870) (by decide +kernel)
theorem wd871 : Cond.constantLong RX7 275 (2147483648) ∈ lw_tbl := List.mem_of_getElem? (i := 871) (by decide +kernel)
theorem wd872 : Cond.constantLong RX7 277 (65536) ∈ lw_tbl := List.mem_of_getElem? (i := 872) (by decide +kernel)
theorem wd873 : Cond.constantLong RX7 279 (7) ∈ lw_tbl := List.mem_of_getElem? (i := 873) (by decide +kernel)
theorem wd874 : Cond.constantLong RX7 281 (1048576) ∈ lw_tbl := List.mem_of_getElem? (i := 874) (by decide +kernel)
theorem wd875 : Cond.methodLinkNest RX7 283 yX6_giveIfFree "StoneHeld" ∈ lw_tbl := List.mem_of_getElem? (i := 875) (by decide +kernel)
theorem wd877 : Cond.instanceMethod yX6_giveIfFree ∈ lw_tbl := List.mem_of_getElem? (i := 877) (by decide +kernel)
theorem wd878 : Cond.code yX6_giveIfFree cX6_giveIfFree 4 none ∈ lw_tbl := List.mem_of_getElem? (i := 878) (by decide +kernel)
theorem wd879 : Cond.methodLink RX6 128 yX6_hasOne ∈ lw_tbl := List.mem_of_getElem? (i := 879) (by decide +kernel)
theorem wd880 : Cond.methodLink RL 154 yX7_part ∈ lw_tbl := List.mem_of_getElem? (i := 880) (by decide +kernel)
theorem wd881 : Cond.instanceMethod yX7_part ∈ lw_tbl := List.mem_of_getElem? (i := 881) (by decide +kernel)
theorem wd882 : Cond.selects RX7 yX7_part yX7_part ∈ lw_tbl := List.mem_of_getElem? (i := 882) (by decide +kernel)
theorem wd883 : Cond.code yX7_part cX7_part 2 (some .long) ∈ lw_tbl := List.mem_of_getElem? (i := 883) (by decide +kernel)
theorem wd884 : Cond.methodLink RL 159 yX7_image ∈ lw_tbl := List.mem_of_getElem? (i := 884) (by decide +kernel)
theorem wd885 : Cond.instanceMethod yX7_image ∈ lw_tbl := List.mem_of_getElem? (i := 885) (by decide +kernel)
theorem wd886 : Cond.selects RX7 yX7_image yX7_image ∈ lw_tbl := List.mem_of_getElem? (i := 886) (by decide +kernel)
theorem wd887 : Cond.code yX7_image cX7_image 2 (some .int) ∈ lw_tbl := List.mem_of_getElem? (i := 887) (by decide +kernel)
theorem wd888 : Cond.methodLink RL 163 yX7_from ∈ lw_tbl := List.mem_of_getElem? (i := 888) (by decide +kernel)
theorem wd889 : Cond.instanceMethod yX7_from ∈ lw_tbl := List.mem_of_getElem? (i := 889) (by decide +kernel)
theorem wd890 : Cond.selects RX7 yX7_from yX7_from ∈ lw_tbl := List.mem_of_getElem? (i := 890) (by decide +kernel)
theorem wd891 : Cond.code yX7_from cX7_from 2 (some .int) ∈ lw_tbl := List.mem_of_getElem? (i := 891) (by decide +kernel)
theorem wd892 : Cond.methodLink RL 167 yX7_status ∈ lw_tbl := List.mem_of_getElem? (i := 892) (by decide +kernel)
theorem wd893 : Cond.instanceMethod yX7_status ∈ lw_tbl := List.mem_of_getElem? (i := 893) (by decide +kernel)
theorem wd894 : Cond.selects RX7 yX7_status yX7_status ∈ lw_tbl := List.mem_of_getElem? (i := 894) (by decide +kernel)
theorem wd895 : Cond.code yX7_status cX7_status 2 (some .int) ∈ lw_tbl := List.mem_of_getElem? (i := 895) (by decide +kernel)
theorem wd896 : Cond.methodLink RL 171 yX7_count ∈ lw_tbl := List.mem_of_getElem? (i := 896) (by decide +kernel)
theorem wd897 : Cond.instanceMethod yX7_count ∈ lw_tbl := List.mem_of_getElem? (i := 897) (by decide +kernel)
theorem wd898 : Cond.selects RX7 yX7_count yX7_count ∈ lw_tbl := List.mem_of_getElem? (i := 898) (by decide +kernel)
theorem wd899 : Cond.code yX7_count cX7_count 2 (some .int) ∈ lw_tbl := List.mem_of_getElem? (i := 899) (by decide +kernel)
theorem wd900 : Cond.methodLink RX7 301 yX7_howMany ∈ lw_tbl := List.mem_of_getElem? (i := 900) (by decide +kernel)
theorem wd902 : Cond.instanceMethod yX7_howMany ∈ lw_tbl := List.mem_of_getElem? (i := 902) (by decide +kernel)
theorem wd903 : Cond.code yX7_howMany cX7_howMany 2 (some .int) ∈ lw_tbl := List.mem_of_getElem? (i := 903) (by decide +kernel)
theorem wd904 : Cond.methodLinkNest RX7 312 yX6_countOwned "StoneHeld" ∈ lw_tbl := List.mem_of_getElem? (i := 904) (by decide +kernel)
theorem wd906 : Cond.instanceMethod yX6_countOwned ∈ lw_tbl := List.mem_of_getElem? (i := 906) (by decide +kernel)
theorem wd907 : Cond.code yX6_countOwned cX6_countOwned 3 (some .int) ∈ lw_tbl := List.mem_of_getElem? (i := 907) (by decide +kernel)
theorem wd908 : Cond.methodLink RL 175 yX7_digest ∈ lw_tbl := List.mem_of_getElem? (i := 908) (by decide +kernel)
theorem wd909 : Cond.instanceMethod yX7_digest ∈ lw_tbl := List.mem_of_getElem? (i := 909) (by decide +kernel)
theorem wd910 : Cond.selects RX7 yX7_digest yX7_digest ∈ lw_tbl := List.mem_of_getElem? (i := 910) (by decide +kernel)
theorem wd911 : Cond.code yX7_digest cX7_digest 4 (some .long) ∈ lw_tbl := List.mem_of_getElem? (i := 911) (by decide +kernel)
theorem wd912 : Cond.constantLong RX7 304 (1759) ∈ lw_tbl := List.mem_of_getElem? (i := 912) (by decide +kernel)
theorem wd913 : Cond.constantLong RX7 306 (31) ∈ lw_tbl := List.mem_of_getElem? (i := 913) (by decide +kernel)
theorem wd914 : Cond.methodLinkNest RX7 308 yX6_mixInto "StoneHeld" ∈ lw_tbl := List.mem_of_getElem? (i := 914) (by decide +kernel)
theorem wd916 : Cond.instanceMethod yX6_mixInto ∈ lw_tbl := List.mem_of_getElem? (i := 916) (by decide +kernel)
theorem wd917 : Cond.code yX6_mixInto cX6_mixInto 7 (some .long) ∈ lw_tbl := List.mem_of_getElem? (i := 917) (by decide +kernel)
theorem wd918 : Cond.constantLong RX6 147 (31) ∈ lw_tbl := List.mem_of_getElem? (i := 918) (by decide +kernel)
theorem wd919 : Cond.methodLink RX6 149 yX6_factOfOne ∈ lw_tbl := List.mem_of_getElem? (i := 919) (by decide +kernel)
theorem wd920 : Cond.methodLinkNest RX6 152 yX4_mixInto "StoneHeld" ∈ lw_tbl := List.mem_of_getElem? (i := 920) (by decide +kernel)
theorem wd922 : Cond.instanceMethod yX4_mixInto ∈ lw_tbl := List.mem_of_getElem? (i := 922) (by decide +kernel)
theorem wd923 : Cond.code yX4_mixInto cX4_mixInto 6 (some .long) ∈ lw_tbl := List.mem_of_getElem? (i := 923) (by decide +kernel)
theorem wd924 : Cond.constantLong RX4 20 (31) ∈ lw_tbl := List.mem_of_getElem? (i := 924) (by decide +kernel)
theorem wd925 : Cond.classLink RL 10 RX8 ∈ lw_tbl := List.mem_of_getElem? (i := 925) (by decide +kernel)
theorem wd926 : Cond.instantiable RX8 17 ∈ lw_tbl := List.mem_of_getElem? (i := 926) (by decide +kernel)
theorem wd927 : Cond.methodLink RL 12 yX8_init ∈ lw_tbl := List.mem_of_getElem? (i := 927) (by decide +kernel)
theorem wd928 : Cond.instanceMethod yX8_init ∈ lw_tbl := List.mem_of_getElem? (i := 928) (by decide +kernel)
theorem wd929 : Cond.code yX8_init cX8_init 1 none ∈ lw_tbl := List.mem_of_getElem? (i := 929) (by decide +kernel)
theorem wd930 : Cond.methodLink RX8 1 objectInit ∈ lw_tbl := List.mem_of_getElem? (i := 930) (by decide +kernel)
theorem wd931 : Cond.methodLink RX8 40 yX8_begin ∈ lw_tbl := List.mem_of_getElem? (i := 931) (by decide +kernel)
theorem wd933 : Cond.instanceMethod yX8_begin ∈ lw_tbl := List.mem_of_getElem? (i := 933) (by decide +kernel)
theorem wd934 : Cond.code yX8_begin cX8_begin 3 none ∈ lw_tbl := List.mem_of_getElem? (i := 934) (by decide +kernel)
theorem wd935 : Cond.fieldLink RX8 7 (TX8 0).1 (TX8 0).2.1 (TX8 0).2.2.1 ∈ lw_tbl := List.mem_of_getElem? (i := 935) (by decide +kernel)
theorem wd936 : Cond.fieldLink RX8 13 (TX8 1).1 (TX8 1).2.1 (TX8 1).2.2.1 ∈ lw_tbl := List.mem_of_getElem? (i := 936) (by decide +kernel)
theorem wd937 : Cond.fieldLink RX8 16 (TX8 2).1 (TX8 2).2.1 (TX8 2).2.2.1 ∈ lw_tbl := List.mem_of_getElem? (i := 937) (by decide +kernel)
theorem wd938 : Cond.fieldLink RX8 20 (TX8 3).1 (TX8 3).2.1 (TX8 3).2.2.1 ∈ lw_tbl := List.mem_of_getElem? (i := 938) (by decide +kernel)
theorem wd939 : Cond.fieldLink RX8 23 (TX8 4).1 (TX8 4).2.1 (TX8 4).2.2.1 ∈ lw_tbl := List.mem_of_getElem? (i := 939) (by decide +kernel)
theorem wd940 : Cond.fieldLink RX8 83 (TX8 5).1 (TX8 5).2.1 (TX8 5).2.2.1 ∈ lw_tbl := List.mem_of_getElem? (i := 940) (by decide +kernel)
theorem wd941 : Cond.fieldLink RX8 87 (TX8 6).1 (TX8 6).2.1 (TX8 6).2.2.1 ∈ lw_tbl := List.mem_of_getElem? (i := 941) (by decide +kernel)
theorem wd942 : Cond.fieldLink RX8 90 (TX8 7).1 (TX8 7).2.1 (TX8 7).2.2.1 ∈ lw_tbl := List.mem_of_getElem? (i := 942) (by decide +kernel)
theorem wd943 : Cond.fieldLink RX8 103 (TX8 8).1 (TX8 8).2.1 (TX8 8).2.2.1 ∈ lw_tbl := List.mem_of_getElem? (i := 943) (by decide +kernel)
theorem wd944 : Cond.fieldLink RX8 100 (TX8 9).1 (TX8 9).2.1 (TX8 9).2.2.1 ∈ lw_tbl := List.mem_of_getElem? (i := 944) (by decide +kernel)
theorem wd945 : Cond.fieldLink RX8 109 (TX8 10).1 (TX8 10).2.1 (TX8 10).2.2.1 ∈ lw_tbl := List.mem_of_getElem? (i := 945) (by decide +kernel)
theorem wd946 : Cond.fieldLink RX8 147 (TX8 11).1 (TX8 11).2.1 (TX8 11).2.2.1 ∈ lw_tbl := List.mem_of_getElem? (i := 946) (by decide +kernel)
theorem wd947 : Cond.fieldLink RX8 27 (TX8 12).1 (TX8 12).2.1 (TX8 12).2.2.1 ∈ lw_tbl := List.mem_of_getElem? (i := 947) (by decide +kernel)
theorem wd948 : Cond.fieldLink RX8 30 (TX8 13).1 (TX8 13).2.1 (TX8 13).2.2.1 ∈ lw_tbl := List.mem_of_getElem? (i := 948) (by decide +kernel)
theorem wd949 : Cond.fieldLink RX8 33 (TX8 14).1 (TX8 14).2.1 (TX8 14).2.2.1 ∈ lw_tbl := List.mem_of_getElem? (i := 949) (by decide +kernel)
theorem wd950 : Cond.fieldLink RX8 228 (TX8 15).1 (TX8 15).2.1 (TX8 15).2.2.1 ∈ lw_tbl := List.mem_of_getElem? (i := 950) (by decide +kernel)
theorem wd951 : Cond.fieldLink RX8 36 (TX8 16).1 (TX8 16).2.1 (TX8 16).2.2.1 ∈ lw_tbl := List.mem_of_getElem? (i := 951) (by decide +kernel)
theorem wd987 : Cond.arrayClass .boolean ∈ lw_tbl := List.mem_of_getElem? (i := 987) (by decide +kernel)
theorem wd988 : Cond.methodLink RL 17 yX8_people ∈ lw_tbl := List.mem_of_getElem? (i := 988) (by decide +kernel)
theorem wd989 : Cond.instanceMethod yX8_people ∈ lw_tbl := List.mem_of_getElem? (i := 989) (by decide +kernel)
theorem wd990 : Cond.selects RX8 yX8_people yX8_people ∈ lw_tbl := List.mem_of_getElem? (i := 990) (by decide +kernel)
theorem wd991 : Cond.code yX8_people cX8_people 2 (some .int) ∈ lw_tbl := List.mem_of_getElem? (i := 991) (by decide +kernel)
theorem wd992 : Cond.methodLink RL 22 yX8_thing ∈ lw_tbl := List.mem_of_getElem? (i := 992) (by decide +kernel)
theorem wd993 : Cond.instanceMethod yX8_thing ∈ lw_tbl := List.mem_of_getElem? (i := 993) (by decide +kernel)
theorem wd994 : Cond.selects RX8 yX8_thing yX8_thing ∈ lw_tbl := List.mem_of_getElem? (i := 994) (by decide +kernel)
theorem wd995 : Cond.code yX8_thing cX8_thing 3 (some .int) ∈ lw_tbl := List.mem_of_getElem? (i := 995) (by decide +kernel)
theorem wd996 : Cond.methodLink RX8 44 yX8_in ∈ lw_tbl := List.mem_of_getElem? (i := 996) (by decide +kernel)
theorem wd997 : Cond.static yX8_in ∈ lw_tbl := List.mem_of_getElem? (i := 997) (by decide +kernel)
theorem wd998 : Cond.code yX8_in cX8_in 3 (some .boolean) ∈ lw_tbl := List.mem_of_getElem? (i := 998) (by decide +kernel)
theorem wd999 : Cond.methodLink RX8 69 yX8_bad ∈ lw_tbl := List.mem_of_getElem? (i := 999) (by decide +kernel)
theorem wd1001 : Cond.instanceMethod yX8_bad ∈ lw_tbl := List.mem_of_getElem? (i := 1001) (by decide +kernel)
theorem wd1002 : Cond.code yX8_bad cX8_bad 1 (some .int) ∈ lw_tbl := List.mem_of_getElem? (i := 1002) (by decide +kernel)
theorem wd1003 : Cond.methodLink RX8 73 yX8_full ∈ lw_tbl := List.mem_of_getElem? (i := 1003) (by decide +kernel)
theorem wd1005 : Cond.instanceMethod yX8_full ∈ lw_tbl := List.mem_of_getElem? (i := 1005) (by decide +kernel)
theorem wd1006 : Cond.code yX8_full cX8_full 1 (some .int) ∈ lw_tbl := List.mem_of_getElem? (i := 1006) (by decide +kernel)
theorem wd1007 : Cond.methodLink RX8 76 yX8_add ∈ lw_tbl := List.mem_of_getElem? (i := 1007) (by decide +kernel)
theorem wd1009 : Cond.instanceMethod yX8_add ∈ lw_tbl := List.mem_of_getElem? (i := 1009) (by decide +kernel)
theorem wd1010 : Cond.code yX8_add cX8_add 5 (some .int) ∈ lw_tbl := List.mem_of_getElem? (i := 1010) (by decide +kernel)
theorem wd1011 : Cond.methodLink RL 27 yX8_one ∈ lw_tbl := List.mem_of_getElem? (i := 1011) (by decide +kernel)
theorem wd1012 : Cond.instanceMethod yX8_one ∈ lw_tbl := List.mem_of_getElem? (i := 1012) (by decide +kernel)
theorem wd1013 : Cond.selects RX8 yX8_one yX8_one ∈ lw_tbl := List.mem_of_getElem? (i := 1013) (by decide +kernel)
theorem wd1014 : Cond.code yX8_one cX8_one 4 (some .int) ∈ lw_tbl := List.mem_of_getElem? (i := 1014) (by decide +kernel)
theorem wd1015 : Cond.methodLink RX8 79 yX8_join ∈ lw_tbl := List.mem_of_getElem? (i := 1015) (by decide +kernel)
theorem wd1017 : Cond.instanceMethod yX8_join ∈ lw_tbl := List.mem_of_getElem? (i := 1017) (by decide +kernel)
theorem wd1018 : Cond.code yX8_join cX8_join 6 (some .int) ∈ lw_tbl := List.mem_of_getElem? (i := 1018) (by decide +kernel)
theorem wd1019 : Cond.methodLink RL 32 yX8_type ∈ lw_tbl := List.mem_of_getElem? (i := 1019) (by decide +kernel)
theorem wd1020 : Cond.instanceMethod yX8_type ∈ lw_tbl := List.mem_of_getElem? (i := 1020) (by decide +kernel)
theorem wd1021 : Cond.selects RX8 yX8_type yX8_type ∈ lw_tbl := List.mem_of_getElem? (i := 1021) (by decide +kernel)
theorem wd1022 : Cond.code yX8_type cX8_type 2 (some .int) ∈ lw_tbl := List.mem_of_getElem? (i := 1022) (by decide +kernel)
theorem wd1023 : Cond.methodLink RL 36 yX8_clear ∈ lw_tbl := List.mem_of_getElem? (i := 1023) (by decide +kernel)
theorem wd1024 : Cond.instanceMethod yX8_clear ∈ lw_tbl := List.mem_of_getElem? (i := 1024) (by decide +kernel)
theorem wd1025 : Cond.selects RX8 yX8_clear yX8_clear ∈ lw_tbl := List.mem_of_getElem? (i := 1025) (by decide +kernel)
theorem wd1026 : Cond.code yX8_clear cX8_clear 2 (some .int) ∈ lw_tbl := List.mem_of_getElem? (i := 1026) (by decide +kernel)
theorem wd1027 : Cond.methodLink RL 40 yX8_read ∈ lw_tbl := List.mem_of_getElem? (i := 1027) (by decide +kernel)
theorem wd1028 : Cond.instanceMethod yX8_read ∈ lw_tbl := List.mem_of_getElem? (i := 1028) (by decide +kernel)
theorem wd1029 : Cond.selects RX8 yX8_read yX8_read ∈ lw_tbl := List.mem_of_getElem? (i := 1029) (by decide +kernel)
theorem wd1030 : Cond.code yX8_read cX8_read 2 (some .int) ∈ lw_tbl := List.mem_of_getElem? (i := 1030) (by decide +kernel)
theorem wd1031 : Cond.methodLink RX8 113 yX8_step ∈ lw_tbl := List.mem_of_getElem? (i := 1031) (by decide +kernel)
theorem wd1033 : Cond.instanceMethod yX8_step ∈ lw_tbl := List.mem_of_getElem? (i := 1033) (by decide +kernel)
theorem wd1034 : Cond.code yX8_step cX8_step 2 none ∈ lw_tbl := List.mem_of_getElem? (i := 1034) (by decide +kernel)
theorem wd1035 : Cond.methodLink RX8 97 yX8_here ∈ lw_tbl := List.mem_of_getElem? (i := 1035) (by decide +kernel)
theorem wd1037 : Cond.instanceMethod yX8_here ∈ lw_tbl := List.mem_of_getElem? (i := 1037) (by decide +kernel)
theorem wd1038 : Cond.code yX8_here cX8_here 1 (some .int) ∈ lw_tbl := List.mem_of_getElem? (i := 1038) (by decide +kernel)
theorem wd1039 : Cond.methodLink RX8 106 yX8_wordOf ∈ lw_tbl := List.mem_of_getElem? (i := 1039) (by decide +kernel)
theorem wd1041 : Cond.instanceMethod yX8_wordOf ∈ lw_tbl := List.mem_of_getElem? (i := 1041) (by decide +kernel)
theorem wd1042 : Cond.code yX8_wordOf cX8_wordOf 1 (some .int) ∈ lw_tbl := List.mem_of_getElem? (i := 1042) (by decide +kernel)
theorem wd1043 : Cond.methodLink RX8 93 yX8_spells ∈ lw_tbl := List.mem_of_getElem? (i := 1043) (by decide +kernel)
theorem wd1045 : Cond.instanceMethod yX8_spells ∈ lw_tbl := List.mem_of_getElem? (i := 1045) (by decide +kernel)
theorem wd1046 : Cond.code yX8_spells cX8_spells 9 (some .boolean) ∈ lw_tbl := List.mem_of_getElem? (i := 1046) (by decide +kernel)
theorem wd1047 : Cond.methodLink RX8 150 yX8_may ∈ lw_tbl := List.mem_of_getElem? (i := 1047) (by decide +kernel)
theorem wd1049 : Cond.instanceMethod yX8_may ∈ lw_tbl := List.mem_of_getElem? (i := 1049) (by decide +kernel)
theorem wd1050 : Cond.code yX8_may cX8_may 2 (some .boolean) ∈ lw_tbl := List.mem_of_getElem? (i := 1050) (by decide +kernel)
theorem wd1051 : Cond.methodLink RX8 116 yX8_due ∈ lw_tbl := List.mem_of_getElem? (i := 1051) (by decide +kernel)
theorem wd1053 : Cond.instanceMethod yX8_due ∈ lw_tbl := List.mem_of_getElem? (i := 1053) (by decide +kernel)
theorem wd1054 : Cond.code yX8_due cX8_due 2 none ∈ lw_tbl := List.mem_of_getElem? (i := 1054) (by decide +kernel)
theorem wd1055 : Cond.methodLink RX8 154 yX8_item ∈ lw_tbl := List.mem_of_getElem? (i := 1055) (by decide +kernel)
theorem wd1057 : Cond.instanceMethod yX8_item ∈ lw_tbl := List.mem_of_getElem? (i := 1057) (by decide +kernel)
theorem wd1058 : Cond.code yX8_item cX8_item 2 none ∈ lw_tbl := List.mem_of_getElem? (i := 1058) (by decide +kernel)
theorem wd1059 : Cond.methodLink RX8 132 yX8_readThing ∈ lw_tbl := List.mem_of_getElem? (i := 1059) (by decide +kernel)
theorem wd1061 : Cond.instanceMethod yX8_readThing ∈ lw_tbl := List.mem_of_getElem? (i := 1061) (by decide +kernel)
theorem wd1062 : Cond.code yX8_readThing cX8_readThing 3 none ∈ lw_tbl := List.mem_of_getElem? (i := 1062) (by decide +kernel)
theorem wd1063 : Cond.methodLink RX8 120 yX8_number ∈ lw_tbl := List.mem_of_getElem? (i := 1063) (by decide +kernel)
theorem wd1065 : Cond.instanceMethod yX8_number ∈ lw_tbl := List.mem_of_getElem? (i := 1065) (by decide +kernel)
theorem wd1066 : Cond.code yX8_number cX8_number 4 (some .int) ∈ lw_tbl := List.mem_of_getElem? (i := 1066) (by decide +kernel)
theorem wd1067 : Cond.methodLink RX8 135 yX8_readOne ∈ lw_tbl := List.mem_of_getElem? (i := 1067) (by decide +kernel)
theorem wd1069 : Cond.instanceMethod yX8_readOne ∈ lw_tbl := List.mem_of_getElem? (i := 1069) (by decide +kernel)
theorem wd1070 : Cond.code yX8_readOne cX8_readOne 4 none ∈ lw_tbl := List.mem_of_getElem? (i := 1070) (by decide +kernel)
theorem wd1071 : Cond.methodLink RX8 138 yX8_readOwn ∈ lw_tbl := List.mem_of_getElem? (i := 1071) (by decide +kernel)
theorem wd1073 : Cond.instanceMethod yX8_readOwn ∈ lw_tbl := List.mem_of_getElem? (i := 1073) (by decide +kernel)
theorem wd1074 : Cond.code yX8_readOwn cX8_readOwn 4 none ∈ lw_tbl := List.mem_of_getElem? (i := 1074) (by decide +kernel)
theorem wd1075 : Cond.methodLink RX8 61 yX8_has ∈ lw_tbl := List.mem_of_getElem? (i := 1075) (by decide +kernel)
theorem wd1076 : Cond.static yX8_has ∈ lw_tbl := List.mem_of_getElem? (i := 1076) (by decide +kernel)
theorem wd1077 : Cond.code yX8_has cX8_has 2 (some .boolean) ∈ lw_tbl := List.mem_of_getElem? (i := 1077) (by decide +kernel)
theorem wd1078 : Cond.methodLink RX8 124 yX8_ownerOf ∈ lw_tbl := List.mem_of_getElem? (i := 1078) (by decide +kernel)
theorem wd1080 : Cond.instanceMethod yX8_ownerOf ∈ lw_tbl := List.mem_of_getElem? (i := 1080) (by decide +kernel)
theorem wd1081 : Cond.code yX8_ownerOf cX8_ownerOf 7 (some .int) ∈ lw_tbl := List.mem_of_getElem? (i := 1081) (by decide +kernel)
theorem wd1082 : Cond.methodLink RX8 141 yX8_readLeave ∈ lw_tbl := List.mem_of_getElem? (i := 1082) (by decide +kernel)
theorem wd1084 : Cond.instanceMethod yX8_readLeave ∈ lw_tbl := List.mem_of_getElem? (i := 1084) (by decide +kernel)
theorem wd1085 : Cond.code yX8_readLeave cX8_readLeave 2 none ∈ lw_tbl := List.mem_of_getElem? (i := 1085) (by decide +kernel)
theorem wd1086 : Cond.methodLink RX8 144 yX8_readYears ∈ lw_tbl := List.mem_of_getElem? (i := 1086) (by decide +kernel)
theorem wd1088 : Cond.instanceMethod yX8_readYears ∈ lw_tbl := List.mem_of_getElem? (i := 1088) (by decide +kernel)
theorem wd1089 : Cond.code yX8_readYears cX8_readYears 3 none ∈ lw_tbl := List.mem_of_getElem? (i := 1089) (by decide +kernel)
theorem wd1090 : Cond.methodLink RX8 128 yX8_passOn ∈ lw_tbl := List.mem_of_getElem? (i := 1090) (by decide +kernel)
theorem wd1092 : Cond.instanceMethod yX8_passOn ∈ lw_tbl := List.mem_of_getElem? (i := 1092) (by decide +kernel)
theorem wd1093 : Cond.code yX8_passOn cX8_passOn 6 none ∈ lw_tbl := List.mem_of_getElem? (i := 1093) (by decide +kernel)
theorem wd1094 : Cond.methodLink RX8 65 yX8_isHeld ∈ lw_tbl := List.mem_of_getElem? (i := 1094) (by decide +kernel)
theorem wd1096 : Cond.instanceMethod yX8_isHeld ∈ lw_tbl := List.mem_of_getElem? (i := 1096) (by decide +kernel)
theorem wd1097 : Cond.code yX8_isHeld cX8_isHeld 6 (some .boolean) ∈ lw_tbl := List.mem_of_getElem? (i := 1097) (by decide +kernel)
theorem wd1098 : Cond.methodLink RX8 55 yX8_weighsOf ∈ lw_tbl := List.mem_of_getElem? (i := 1098) (by decide +kernel)
theorem wd1100 : Cond.instanceMethod yX8_weighsOf ∈ lw_tbl := List.mem_of_getElem? (i := 1100) (by decide +kernel)
theorem wd1101 : Cond.code yX8_weighsOf cX8_weighsOf 4 (some .int) ∈ lw_tbl := List.mem_of_getElem? (i := 1101) (by decide +kernel)
theorem wd1102 : Cond.methodLink RX8 48 yX8_weighsBy ∈ lw_tbl := List.mem_of_getElem? (i := 1102) (by decide +kernel)
theorem wd1103 : Cond.static yX8_weighsBy ∈ lw_tbl := List.mem_of_getElem? (i := 1103) (by decide +kernel)
theorem wd1104 : Cond.code yX8_weighsBy cX8_weighsBy 4 (some .int) ∈ lw_tbl := List.mem_of_getElem? (i := 1104) (by decide +kernel)
theorem wd1105 : Cond.methodLink RX8 58 yX8_liftsOf ∈ lw_tbl := List.mem_of_getElem? (i := 1105) (by decide +kernel)
theorem wd1107 : Cond.instanceMethod yX8_liftsOf ∈ lw_tbl := List.mem_of_getElem? (i := 1107) (by decide +kernel)
theorem wd1108 : Cond.code yX8_liftsOf cX8_liftsOf 4 (some .int) ∈ lw_tbl := List.mem_of_getElem? (i := 1108) (by decide +kernel)
theorem wd1109 : Cond.methodLink RX8 52 yX8_liftsBy ∈ lw_tbl := List.mem_of_getElem? (i := 1109) (by decide +kernel)
theorem wd1110 : Cond.static yX8_liftsBy ∈ lw_tbl := List.mem_of_getElem? (i := 1110) (by decide +kernel)
theorem wd1111 : Cond.code yX8_liftsBy cX8_liftsBy 5 (some .int) ∈ lw_tbl := List.mem_of_getElem? (i := 1111) (by decide +kernel)
theorem wd1112 : Cond.methodLink RX8 157 yX8_copyRow ∈ lw_tbl := List.mem_of_getElem? (i := 1112) (by decide +kernel)
theorem wd1114 : Cond.instanceMethod yX8_copyRow ∈ lw_tbl := List.mem_of_getElem? (i := 1114) (by decide +kernel)
theorem wd1115 : Cond.code yX8_copyRow cX8_copyRow 4 none ∈ lw_tbl := List.mem_of_getElem? (i := 1115) (by decide +kernel)
theorem wd1116 : Cond.methodLink RL 44 yX8_owns ∈ lw_tbl := List.mem_of_getElem? (i := 1116) (by decide +kernel)
theorem wd1117 : Cond.instanceMethod yX8_owns ∈ lw_tbl := List.mem_of_getElem? (i := 1117) (by decide +kernel)
theorem wd1118 : Cond.selects RX8 yX8_owns yX8_owns ∈ lw_tbl := List.mem_of_getElem? (i := 1118) (by decide +kernel)
theorem wd1119 : Cond.code yX8_owns cX8_owns 3 (some .int) ∈ lw_tbl := List.mem_of_getElem? (i := 1119) (by decide +kernel)
theorem wd1120 : Cond.methodLink RX8 161 yX8_isOne ∈ lw_tbl := List.mem_of_getElem? (i := 1120) (by decide +kernel)
theorem wd1122 : Cond.instanceMethod yX8_isOne ∈ lw_tbl := List.mem_of_getElem? (i := 1122) (by decide +kernel)
theorem wd1123 : Cond.code yX8_isOne cX8_isOne 2 (some .boolean) ∈ lw_tbl := List.mem_of_getElem? (i := 1123) (by decide +kernel)
theorem wd1124 : Cond.methodLink RX8 164 yX8_isThing ∈ lw_tbl := List.mem_of_getElem? (i := 1124) (by decide +kernel)
theorem wd1126 : Cond.instanceMethod yX8_isThing ∈ lw_tbl := List.mem_of_getElem? (i := 1126) (by decide +kernel)
theorem wd1127 : Cond.code yX8_isThing cX8_isThing 2 (some .boolean) ∈ lw_tbl := List.mem_of_getElem? (i := 1127) (by decide +kernel)
theorem wd1128 : Cond.methodLink RX8 167 yX8_isLost ∈ lw_tbl := List.mem_of_getElem? (i := 1128) (by decide +kernel)
theorem wd1130 : Cond.instanceMethod yX8_isLost ∈ lw_tbl := List.mem_of_getElem? (i := 1130) (by decide +kernel)
theorem wd1131 : Cond.code yX8_isLost cX8_isLost 2 (some .boolean) ∈ lw_tbl := List.mem_of_getElem? (i := 1131) (by decide +kernel)
theorem wd1132 : Cond.methodLink RX8 170 yX8_no ∈ lw_tbl := List.mem_of_getElem? (i := 1132) (by decide +kernel)
theorem wd1134 : Cond.instanceMethod yX8_no ∈ lw_tbl := List.mem_of_getElem? (i := 1134) (by decide +kernel)
theorem wd1135 : Cond.code yX8_no cX8_no 1 (some .int) ∈ lw_tbl := List.mem_of_getElem? (i := 1135) (by decide +kernel)
theorem wd1136 : Cond.methodLink RX8 173 yX8_know ∈ lw_tbl := List.mem_of_getElem? (i := 1136) (by decide +kernel)
theorem wd1138 : Cond.instanceMethod yX8_know ∈ lw_tbl := List.mem_of_getElem? (i := 1138) (by decide +kernel)
theorem wd1139 : Cond.code yX8_know cX8_know 2 none ∈ lw_tbl := List.mem_of_getElem? (i := 1139) (by decide +kernel)
theorem wd1140 : Cond.methodLink RL 48 yX8_leaves ∈ lw_tbl := List.mem_of_getElem? (i := 1140) (by decide +kernel)
theorem wd1141 : Cond.instanceMethod yX8_leaves ∈ lw_tbl := List.mem_of_getElem? (i := 1141) (by decide +kernel)
theorem wd1142 : Cond.selects RX8 yX8_leaves yX8_leaves ∈ lw_tbl := List.mem_of_getElem? (i := 1142) (by decide +kernel)
theorem wd1143 : Cond.code yX8_leaves cX8_leaves 3 (some .int) ∈ lw_tbl := List.mem_of_getElem? (i := 1143) (by decide +kernel)
theorem wd1144 : Cond.methodLink RL 52 yX8_years ∈ lw_tbl := List.mem_of_getElem? (i := 1144) (by decide +kernel)
theorem wd1145 : Cond.instanceMethod yX8_years ∈ lw_tbl := List.mem_of_getElem? (i := 1145) (by decide +kernel)
theorem wd1146 : Cond.selects RX8 yX8_years yX8_years ∈ lw_tbl := List.mem_of_getElem? (i := 1146) (by decide +kernel)
theorem wd1147 : Cond.code yX8_years cX8_years 3 (some .int) ∈ lw_tbl := List.mem_of_getElem? (i := 1147) (by decide +kernel)
theorem wd1148 : Cond.methodLink RX8 176 yX8_hereOf ∈ lw_tbl := List.mem_of_getElem? (i := 1148) (by decide +kernel)
theorem wd1150 : Cond.instanceMethod yX8_hereOf ∈ lw_tbl := List.mem_of_getElem? (i := 1150) (by decide +kernel)
theorem wd1151 : Cond.code yX8_hereOf cX8_hereOf 3 (some .int) ∈ lw_tbl := List.mem_of_getElem? (i := 1151) (by decide +kernel)
theorem wd1152 : Cond.methodLink RX8 180 yX8_bitsOf ∈ lw_tbl := List.mem_of_getElem? (i := 1152) (by decide +kernel)
theorem wd1153 : Cond.static yX8_bitsOf ∈ lw_tbl := List.mem_of_getElem? (i := 1153) (by decide +kernel)
theorem wd1154 : Cond.code yX8_bitsOf cX8_bitsOf 3 (some .int) ∈ lw_tbl := List.mem_of_getElem? (i := 1154) (by decide +kernel)
theorem wd1155 : Cond.methodLink RL 56 yX8_undo ∈ lw_tbl := List.mem_of_getElem? (i := 1155) (by decide +kernel)
theorem wd1156 : Cond.instanceMethod yX8_undo ∈ lw_tbl := List.mem_of_getElem? (i := 1156) (by decide +kernel)
theorem wd1157 : Cond.selects RX8 yX8_undo yX8_undo ∈ lw_tbl := List.mem_of_getElem? (i := 1157) (by decide +kernel)
theorem wd1158 : Cond.code yX8_undo cX8_undo 2 (some .int) ∈ lw_tbl := List.mem_of_getElem? (i := 1158) (by decide +kernel)
theorem wd1159 : Cond.methodLink RL 60 yX8_of ∈ lw_tbl := List.mem_of_getElem? (i := 1159) (by decide +kernel)
theorem wd1160 : Cond.instanceMethod yX8_of ∈ lw_tbl := List.mem_of_getElem? (i := 1160) (by decide +kernel)
theorem wd1161 : Cond.selects RX8 yX8_of yX8_of ∈ lw_tbl := List.mem_of_getElem? (i := 1161) (by decide +kernel)
theorem wd1162 : Cond.code yX8_of cX8_of 3 (some .int) ∈ lw_tbl := List.mem_of_getElem? (i := 1162) (by decide +kernel)
theorem wd1163 : Cond.methodLink RX8 184 yX8_told ∈ lw_tbl := List.mem_of_getElem? (i := 1163) (by decide +kernel)
theorem wd1165 : Cond.instanceMethod yX8_told ∈ lw_tbl := List.mem_of_getElem? (i := 1165) (by decide +kernel)
theorem wd1166 : Cond.code yX8_told cX8_told 3 (some .int) ∈ lw_tbl := List.mem_of_getElem? (i := 1166) (by decide +kernel)
theorem wd1167 : Cond.methodLink RL 64 yX8_about ∈ lw_tbl := List.mem_of_getElem? (i := 1167) (by decide +kernel)
theorem wd1168 : Cond.instanceMethod yX8_about ∈ lw_tbl := List.mem_of_getElem? (i := 1168) (by decide +kernel)
theorem wd1169 : Cond.selects RX8 yX8_about yX8_about ∈ lw_tbl := List.mem_of_getElem? (i := 1169) (by decide +kernel)
theorem wd1170 : Cond.code yX8_about cX8_about 3 (some .int) ∈ lw_tbl := List.mem_of_getElem? (i := 1170) (by decide +kernel)
theorem wd1171 : Cond.methodLink RL 68 yX8_lifts ∈ lw_tbl := List.mem_of_getElem? (i := 1171) (by decide +kernel)
theorem wd1172 : Cond.instanceMethod yX8_lifts ∈ lw_tbl := List.mem_of_getElem? (i := 1172) (by decide +kernel)
theorem wd1173 : Cond.selects RX8 yX8_lifts yX8_lifts ∈ lw_tbl := List.mem_of_getElem? (i := 1173) (by decide +kernel)
theorem wd1174 : Cond.code yX8_lifts cX8_lifts 3 (some .int) ∈ lw_tbl := List.mem_of_getElem? (i := 1174) (by decide +kernel)
theorem wd1175 : Cond.methodLink RX8 190 yX8_liftsIn ∈ lw_tbl := List.mem_of_getElem? (i := 1175) (by decide +kernel)
theorem wd1177 : Cond.instanceMethod yX8_liftsIn ∈ lw_tbl := List.mem_of_getElem? (i := 1177) (by decide +kernel)
theorem wd1178 : Cond.code yX8_liftsIn cX8_liftsIn 3 (some .int) ∈ lw_tbl := List.mem_of_getElem? (i := 1178) (by decide +kernel)
theorem wd1179 : Cond.methodLink RX8 187 yX8_ageIn ∈ lw_tbl := List.mem_of_getElem? (i := 1179) (by decide +kernel)
theorem wd1181 : Cond.instanceMethod yX8_ageIn ∈ lw_tbl := List.mem_of_getElem? (i := 1181) (by decide +kernel)
theorem wd1182 : Cond.code yX8_ageIn cX8_ageIn 4 (some .int) ∈ lw_tbl := List.mem_of_getElem? (i := 1182) (by decide +kernel)
theorem wd1183 : Cond.methodLink RL 72 yX8_weighs ∈ lw_tbl := List.mem_of_getElem? (i := 1183) (by decide +kernel)
theorem wd1184 : Cond.instanceMethod yX8_weighs ∈ lw_tbl := List.mem_of_getElem? (i := 1184) (by decide +kernel)
theorem wd1185 : Cond.selects RX8 yX8_weighs yX8_weighs ∈ lw_tbl := List.mem_of_getElem? (i := 1185) (by decide +kernel)
theorem wd1186 : Cond.code yX8_weighs cX8_weighs 3 (some .int) ∈ lw_tbl := List.mem_of_getElem? (i := 1186) (by decide +kernel)
theorem wd1187 : Cond.methodLink RX8 193 yX8_weighsIn ∈ lw_tbl := List.mem_of_getElem? (i := 1187) (by decide +kernel)
theorem wd1189 : Cond.instanceMethod yX8_weighsIn ∈ lw_tbl := List.mem_of_getElem? (i := 1189) (by decide +kernel)
theorem wd1190 : Cond.code yX8_weighsIn cX8_weighsIn 3 (some .int) ∈ lw_tbl := List.mem_of_getElem? (i := 1190) (by decide +kernel)
theorem wd1191 : Cond.methodLink RL 76 yX8_held ∈ lw_tbl := List.mem_of_getElem? (i := 1191) (by decide +kernel)
theorem wd1192 : Cond.instanceMethod yX8_held ∈ lw_tbl := List.mem_of_getElem? (i := 1192) (by decide +kernel)
theorem wd1193 : Cond.selects RX8 yX8_held yX8_held ∈ lw_tbl := List.mem_of_getElem? (i := 1193) (by decide +kernel)
theorem wd1194 : Cond.code yX8_held cX8_held 3 (some .int) ∈ lw_tbl := List.mem_of_getElem? (i := 1194) (by decide +kernel)
theorem wd1195 : Cond.methodLink RL 80 yX8_left ∈ lw_tbl := List.mem_of_getElem? (i := 1195) (by decide +kernel)
theorem wd1196 : Cond.instanceMethod yX8_left ∈ lw_tbl := List.mem_of_getElem? (i := 1196) (by decide +kernel)
theorem wd1197 : Cond.selects RX8 yX8_left yX8_left ∈ lw_tbl := List.mem_of_getElem? (i := 1197) (by decide +kernel)
theorem wd1198 : Cond.code yX8_left cX8_left 3 (some .int) ∈ lw_tbl := List.mem_of_getElem? (i := 1198) (by decide +kernel)
theorem wd1199 : Cond.methodLink RX8 196 yX8_take ∈ lw_tbl := List.mem_of_getElem? (i := 1199) (by decide +kernel)
theorem wd1201 : Cond.instanceMethod yX8_take ∈ lw_tbl := List.mem_of_getElem? (i := 1201) (by decide +kernel)
theorem wd1202 : Cond.code yX8_take cX8_take 2 none ∈ lw_tbl := List.mem_of_getElem? (i := 1202) (by decide +kernel)
theorem wd1203 : Cond.methodLink RL 84 yX8_when ∈ lw_tbl := List.mem_of_getElem? (i := 1203) (by decide +kernel)
theorem wd1204 : Cond.instanceMethod yX8_when ∈ lw_tbl := List.mem_of_getElem? (i := 1204) (by decide +kernel)
theorem wd1205 : Cond.selects RX8 yX8_when yX8_when ∈ lw_tbl := List.mem_of_getElem? (i := 1205) (by decide +kernel)
theorem wd1206 : Cond.code yX8_when cX8_when 3 (some .int) ∈ lw_tbl := List.mem_of_getElem? (i := 1206) (by decide +kernel)
theorem wd1207 : Cond.methodLink RL 88 yX8_lasts ∈ lw_tbl := List.mem_of_getElem? (i := 1207) (by decide +kernel)
theorem wd1208 : Cond.instanceMethod yX8_lasts ∈ lw_tbl := List.mem_of_getElem? (i := 1208) (by decide +kernel)
theorem wd1209 : Cond.selects RX8 yX8_lasts yX8_lasts ∈ lw_tbl := List.mem_of_getElem? (i := 1209) (by decide +kernel)
theorem wd1210 : Cond.code yX8_lasts cX8_lasts 3 (some .int) ∈ lw_tbl := List.mem_of_getElem? (i := 1210) (by decide +kernel)
theorem wd1211 : Cond.methodLink RX8 199 yX8_longOf ∈ lw_tbl := List.mem_of_getElem? (i := 1211) (by decide +kernel)
theorem wd1213 : Cond.instanceMethod yX8_longOf ∈ lw_tbl := List.mem_of_getElem? (i := 1213) (by decide +kernel)
theorem wd1214 : Cond.code yX8_longOf cX8_longOf 4 (some .int) ∈ lw_tbl := List.mem_of_getElem? (i := 1214) (by decide +kernel)
theorem wd1215 : Cond.methodLink RL 92 yX8_match ∈ lw_tbl := List.mem_of_getElem? (i := 1215) (by decide +kernel)
theorem wd1216 : Cond.instanceMethod yX8_match ∈ lw_tbl := List.mem_of_getElem? (i := 1216) (by decide +kernel)
theorem wd1217 : Cond.selects RX8 yX8_match yX8_match ∈ lw_tbl := List.mem_of_getElem? (i := 1217) (by decide +kernel)
theorem wd1218 : Cond.code yX8_match cX8_match 9 (some .int) ∈ lw_tbl := List.mem_of_getElem? (i := 1218) (by decide +kernel)
theorem wd1219 : Cond.methodLink RX8 203 yX8_tellMost ∈ lw_tbl := List.mem_of_getElem? (i := 1219) (by decide +kernel)
theorem wd1221 : Cond.instanceMethod yX8_tellMost ∈ lw_tbl := List.mem_of_getElem? (i := 1221) (by decide +kernel)
theorem wd1222 : Cond.code yX8_tellMost cX8_tellMost 9 none ∈ lw_tbl := List.mem_of_getElem? (i := 1222) (by decide +kernel)
theorem wd1223 : Cond.constant RX8 202 (100000) ∈ lw_tbl := List.mem_of_getElem? (i := 1223) (by decide +kernel)
theorem wd1224 : Cond.methodLink RL 96 yX8_light ∈ lw_tbl := List.mem_of_getElem? (i := 1224) (by decide +kernel)
theorem wd1225 : Cond.instanceMethod yX8_light ∈ lw_tbl := List.mem_of_getElem? (i := 1225) (by decide +kernel)
theorem wd1226 : Cond.selects RX8 yX8_light yX8_light ∈ lw_tbl := List.mem_of_getElem? (i := 1226) (by decide +kernel)
theorem wd1227 : Cond.code yX8_light cX8_light 2 (some .int) ∈ lw_tbl := List.mem_of_getElem? (i := 1227) (by decide +kernel)
theorem wd1228 : Cond.methodLink RL 100 yX8_two ∈ lw_tbl := List.mem_of_getElem? (i := 1228) (by decide +kernel)
theorem wd1229 : Cond.instanceMethod yX8_two ∈ lw_tbl := List.mem_of_getElem? (i := 1229) (by decide +kernel)
theorem wd1230 : Cond.selects RX8 yX8_two yX8_two ∈ lw_tbl := List.mem_of_getElem? (i := 1230) (by decide +kernel)
theorem wd1231 : Cond.code yX8_two cX8_two 6 (some .int) ∈ lw_tbl := List.mem_of_getElem? (i := 1231) (by decide +kernel)
theorem wd1232 : Cond.methodLink RX8 206 yX8_doTwo ∈ lw_tbl := List.mem_of_getElem? (i := 1232) (by decide +kernel)
theorem wd1234 : Cond.instanceMethod yX8_doTwo ∈ lw_tbl := List.mem_of_getElem? (i := 1234) (by decide +kernel)
theorem wd1235 : Cond.code yX8_doTwo cX8_doTwo 7 (some .boolean) ∈ lw_tbl := List.mem_of_getElem? (i := 1235) (by decide +kernel)
theorem wd1236 : Cond.methodLink RL 105 yX8_seen ∈ lw_tbl := List.mem_of_getElem? (i := 1236) (by decide +kernel)
theorem wd1237 : Cond.instanceMethod yX8_seen ∈ lw_tbl := List.mem_of_getElem? (i := 1237) (by decide +kernel)
theorem wd1238 : Cond.selects RX8 yX8_seen yX8_seen ∈ lw_tbl := List.mem_of_getElem? (i := 1238) (by decide +kernel)
theorem wd1239 : Cond.code yX8_seen cX8_seen 5 (some .int) ∈ lw_tbl := List.mem_of_getElem? (i := 1239) (by decide +kernel)
theorem wd1240 : Cond.methodLink RX8 209 yX8_tell4 ∈ lw_tbl := List.mem_of_getElem? (i := 1240) (by decide +kernel)
theorem wd1242 : Cond.instanceMethod yX8_tell4 ∈ lw_tbl := List.mem_of_getElem? (i := 1242) (by decide +kernel)
theorem wd1243 : Cond.code yX8_tell4 cX8_tell4 8 (some .int) ∈ lw_tbl := List.mem_of_getElem? (i := 1243) (by decide +kernel)
theorem wd1244 : Cond.methodLink RL 109 yX8_strong ∈ lw_tbl := List.mem_of_getElem? (i := 1244) (by decide +kernel)
theorem wd1245 : Cond.instanceMethod yX8_strong ∈ lw_tbl := List.mem_of_getElem? (i := 1245) (by decide +kernel)
theorem wd1246 : Cond.selects RX8 yX8_strong yX8_strong ∈ lw_tbl := List.mem_of_getElem? (i := 1246) (by decide +kernel)
theorem wd1247 : Cond.code yX8_strong cX8_strong 7 (some .int) ∈ lw_tbl := List.mem_of_getElem? (i := 1247) (by decide +kernel)
theorem wd1248 : Cond.methodLink RX8 213 yX8_strengthsOf ∈ lw_tbl := List.mem_of_getElem? (i := 1248) (by decide +kernel)
theorem wd1250 : Cond.instanceMethod yX8_strengthsOf ∈ lw_tbl := List.mem_of_getElem? (i := 1250) (by decide +kernel)
theorem wd1251 : Cond.code yX8_strengthsOf cX8_strengthsOf 8 (some .int) ∈ lw_tbl := List.mem_of_getElem? (i := 1251) (by decide +kernel)
theorem wd1252 : Cond.methodLink RL 113 yX8_tell ∈ lw_tbl := List.mem_of_getElem? (i := 1252) (by decide +kernel)
theorem wd1253 : Cond.instanceMethod yX8_tell ∈ lw_tbl := List.mem_of_getElem? (i := 1253) (by decide +kernel)
theorem wd1254 : Cond.selects RX8 yX8_tell yX8_tell ∈ lw_tbl := List.mem_of_getElem? (i := 1254) (by decide +kernel)
theorem wd1255 : Cond.code yX8_tell cX8_tell 9 (some .int) ∈ lw_tbl := List.mem_of_getElem? (i := 1255) (by decide +kernel)
theorem wd1256 : Cond.methodLink RL 117 yX8_note ∈ lw_tbl := List.mem_of_getElem? (i := 1256) (by decide +kernel)
theorem wd1257 : Cond.instanceMethod yX8_note ∈ lw_tbl := List.mem_of_getElem? (i := 1257) (by decide +kernel)
theorem wd1258 : Cond.selects RX8 yX8_note yX8_note ∈ lw_tbl := List.mem_of_getElem? (i := 1258) (by decide +kernel)
theorem wd1259 : Cond.code yX8_note cX8_note 5 (some .int) ∈ lw_tbl := List.mem_of_getElem? (i := 1259) (by decide +kernel)
theorem wd1260 : Cond.methodLink RL 121 yX8_mark ∈ lw_tbl := List.mem_of_getElem? (i := 1260) (by decide +kernel)
theorem wd1261 : Cond.instanceMethod yX8_mark ∈ lw_tbl := List.mem_of_getElem? (i := 1261) (by decide +kernel)
theorem wd1262 : Cond.selects RX8 yX8_mark yX8_mark ∈ lw_tbl := List.mem_of_getElem? (i := 1262) (by decide +kernel)
theorem wd1263 : Cond.code yX8_mark cX8_mark 5 (some .int) ∈ lw_tbl := List.mem_of_getElem? (i := 1263) (by decide +kernel)
theorem wd1264 : Cond.methodLink RL 125 yX8_forget ∈ lw_tbl := List.mem_of_getElem? (i := 1264) (by decide +kernel)
theorem wd1265 : Cond.instanceMethod yX8_forget ∈ lw_tbl := List.mem_of_getElem? (i := 1265) (by decide +kernel)
theorem wd1266 : Cond.selects RX8 yX8_forget yX8_forget ∈ lw_tbl := List.mem_of_getElem? (i := 1266) (by decide +kernel)
theorem wd1267 : Cond.code yX8_forget cX8_forget 5 (some .int) ∈ lw_tbl := List.mem_of_getElem? (i := 1267) (by decide +kernel)
theorem wd1268 : Cond.methodLink RL 129 yX8_is ∈ lw_tbl := List.mem_of_getElem? (i := 1268) (by decide +kernel)
theorem wd1269 : Cond.instanceMethod yX8_is ∈ lw_tbl := List.mem_of_getElem? (i := 1269) (by decide +kernel)
theorem wd1270 : Cond.selects RX8 yX8_is yX8_is ∈ lw_tbl := List.mem_of_getElem? (i := 1270) (by decide +kernel)
theorem wd1271 : Cond.code yX8_is cX8_is 2 (some .int) ∈ lw_tbl := List.mem_of_getElem? (i := 1271) (by decide +kernel)
theorem wd1272 : Cond.methodLink RX8 216 yX8_kindsOf ∈ lw_tbl := List.mem_of_getElem? (i := 1272) (by decide +kernel)
theorem wd1274 : Cond.instanceMethod yX8_kindsOf ∈ lw_tbl := List.mem_of_getElem? (i := 1274) (by decide +kernel)
theorem wd1275 : Cond.code yX8_kindsOf cX8_kindsOf 11 (some .int) ∈ lw_tbl := List.mem_of_getElem? (i := 1275) (by decide +kernel)
theorem wd1276 : Cond.methodLink RL 137 yX8_kinds ∈ lw_tbl := List.mem_of_getElem? (i := 1276) (by decide +kernel)
theorem wd1277 : Cond.instanceMethod yX8_kinds ∈ lw_tbl := List.mem_of_getElem? (i := 1277) (by decide +kernel)
theorem wd1278 : Cond.selects RX8 yX8_kinds yX8_kinds ∈ lw_tbl := List.mem_of_getElem? (i := 1278) (by decide +kernel)
theorem wd1279 : Cond.code yX8_kinds cX8_kinds 2 (some .int) ∈ lw_tbl := List.mem_of_getElem? (i := 1279) (by decide +kernel)
theorem wd1280 : Cond.methodLink RL 133 yX8_look ∈ lw_tbl := List.mem_of_getElem? (i := 1280) (by decide +kernel)
theorem wd1281 : Cond.instanceMethod yX8_look ∈ lw_tbl := List.mem_of_getElem? (i := 1281) (by decide +kernel)
theorem wd1282 : Cond.selects RX8 yX8_look yX8_look ∈ lw_tbl := List.mem_of_getElem? (i := 1282) (by decide +kernel)
theorem wd1283 : Cond.code yX8_look cX8_look 2 (some .int) ∈ lw_tbl := List.mem_of_getElem? (i := 1283) (by decide +kernel)
theorem wd1284 : Cond.methodLink RX8 220 yX8_partBy ∈ lw_tbl := List.mem_of_getElem? (i := 1284) (by decide +kernel)
theorem wd1286 : Cond.instanceMethod yX8_partBy ∈ lw_tbl := List.mem_of_getElem? (i := 1286) (by decide +kernel)
theorem wd1287 : Cond.code yX8_partBy cX8_partBy 14 (some .int) ∈ lw_tbl := List.mem_of_getElem? (i := 1287) (by decide +kernel)
theorem wd1288 : Cond.methodLink RL 141 yX8_ask ∈ lw_tbl := List.mem_of_getElem? (i := 1288) (by decide +kernel)
theorem wd1289 : Cond.instanceMethod yX8_ask ∈ lw_tbl := List.mem_of_getElem? (i := 1289) (by decide +kernel)
theorem wd1290 : Cond.selects RX8 yX8_ask yX8_ask ∈ lw_tbl := List.mem_of_getElem? (i := 1290) (by decide +kernel)
theorem wd1291 : Cond.code yX8_ask cX8_ask 2 (some .int) ∈ lw_tbl := List.mem_of_getElem? (i := 1291) (by decide +kernel)
theorem wd1292 : Cond.methodLink RL 145 yX8_tries ∈ lw_tbl := List.mem_of_getElem? (i := 1292) (by decide +kernel)
theorem wd1293 : Cond.instanceMethod yX8_tries ∈ lw_tbl := List.mem_of_getElem? (i := 1293) (by decide +kernel)
theorem wd1294 : Cond.selects RX8 yX8_tries yX8_tries ∈ lw_tbl := List.mem_of_getElem? (i := 1294) (by decide +kernel)
theorem wd1295 : Cond.code yX8_tries cX8_tries 13 (some .int) ∈ lw_tbl := List.mem_of_getElem? (i := 1295) (by decide +kernel)
theorem wd1296 : Cond.methodLink RX8 224 yX8_gets ∈ lw_tbl := List.mem_of_getElem? (i := 1296) (by decide +kernel)
theorem wd1297 : Cond.static yX8_gets ∈ lw_tbl := List.mem_of_getElem? (i := 1297) (by decide +kernel)
theorem wd1298 : Cond.code yX8_gets cX8_gets 5 (some .int) ∈ lw_tbl := List.mem_of_getElem? (i := 1298) (by decide +kernel)
theorem wd1299 : Cond.methodLink RL 149 yX8_shout ∈ lw_tbl := List.mem_of_getElem? (i := 1299) (by decide +kernel)
theorem wd1300 : Cond.instanceMethod yX8_shout ∈ lw_tbl := List.mem_of_getElem? (i := 1300) (by decide +kernel)
theorem wd1301 : Cond.selects RX8 yX8_shout yX8_shout ∈ lw_tbl := List.mem_of_getElem? (i := 1301) (by decide +kernel)
theorem wd1302 : Cond.code yX8_shout cX8_shout 11 (some .int) ∈ lw_tbl := List.mem_of_getElem? (i := 1302) (by decide +kernel)
theorem wd1303 : Cond.constantLong RX8 231 (10) ∈ lw_tbl := List.mem_of_getElem? (i := 1303) (by decide +kernel)
theorem wd1304 : Cond.methodLink RX8 233 yX8_fraction ∈ lw_tbl := List.mem_of_getElem? (i := 1304) (by decide +kernel)
theorem wd1306 : Cond.instanceMethod yX8_fraction ∈ lw_tbl := List.mem_of_getElem? (i := 1306) (by decide +kernel)
theorem wd1307 : Cond.code yX8_fraction cX8_fraction 11 none ∈ lw_tbl := List.mem_of_getElem? (i := 1307) (by decide +kernel)
theorem wd1308 : Cond.methodLink RL 153 yX8_centuries ∈ lw_tbl := List.mem_of_getElem? (i := 1308) (by decide +kernel)
theorem wd1309 : Cond.instanceMethod yX8_centuries ∈ lw_tbl := List.mem_of_getElem? (i := 1309) (by decide +kernel)
theorem wd1310 : Cond.selects RX8 yX8_centuries yX8_centuries ∈ lw_tbl := List.mem_of_getElem? (i := 1310) (by decide +kernel)
theorem wd1311 : Cond.code yX8_centuries cX8_centuries 9 (some .int) ∈ lw_tbl := List.mem_of_getElem? (i := 1311) (by decide +kernel)
theorem wd1312 : Cond.constant RX8 237 (999999) ∈ lw_tbl := List.mem_of_getElem? (i := 1312) (by decide +kernel)
theorem wd1313 : Cond.constantLong RX8 238 (1103515245) ∈ lw_tbl := List.mem_of_getElem? (i := 1313) (by decide +kernel)
theorem wd1314 : Cond.constantLong RX8 240 (12345) ∈ lw_tbl := List.mem_of_getElem? (i := 1314) (by decide +kernel)
theorem wd1315 : Cond.constantLong RX8 242 (2147483648) ∈ lw_tbl := List.mem_of_getElem? (i := 1315) (by decide +kernel)
theorem wd1316 : Cond.constantLong RX8 244 (65536) ∈ lw_tbl := List.mem_of_getElem? (i := 1316) (by decide +kernel)
theorem wd1317 : Cond.constantLong RX8 246 (7) ∈ lw_tbl := List.mem_of_getElem? (i := 1317) (by decide +kernel)
theorem wd1318 : Cond.constantLong RX8 248 (1048576) ∈ lw_tbl := List.mem_of_getElem? (i := 1318) (by decide +kernel)
theorem wd1319 : Cond.methodLink RL 158 yX8_part ∈ lw_tbl := List.mem_of_getElem? (i := 1319) (by decide +kernel)
theorem wd1320 : Cond.instanceMethod yX8_part ∈ lw_tbl := List.mem_of_getElem? (i := 1320) (by decide +kernel)
theorem wd1321 : Cond.selects RX8 yX8_part yX8_part ∈ lw_tbl := List.mem_of_getElem? (i := 1321) (by decide +kernel)
theorem wd1322 : Cond.code yX8_part cX8_part 2 (some .long) ∈ lw_tbl := List.mem_of_getElem? (i := 1322) (by decide +kernel)
theorem wd1323 : Cond.methodLink RL 162 yX8_image ∈ lw_tbl := List.mem_of_getElem? (i := 1323) (by decide +kernel)
theorem wd1324 : Cond.instanceMethod yX8_image ∈ lw_tbl := List.mem_of_getElem? (i := 1324) (by decide +kernel)
theorem wd1325 : Cond.selects RX8 yX8_image yX8_image ∈ lw_tbl := List.mem_of_getElem? (i := 1325) (by decide +kernel)
theorem wd1326 : Cond.code yX8_image cX8_image 2 (some .int) ∈ lw_tbl := List.mem_of_getElem? (i := 1326) (by decide +kernel)
theorem wd1327 : Cond.methodLink RL 166 yX8_from ∈ lw_tbl := List.mem_of_getElem? (i := 1327) (by decide +kernel)
theorem wd1328 : Cond.instanceMethod yX8_from ∈ lw_tbl := List.mem_of_getElem? (i := 1328) (by decide +kernel)
theorem wd1329 : Cond.selects RX8 yX8_from yX8_from ∈ lw_tbl := List.mem_of_getElem? (i := 1329) (by decide +kernel)
theorem wd1330 : Cond.code yX8_from cX8_from 2 (some .int) ∈ lw_tbl := List.mem_of_getElem? (i := 1330) (by decide +kernel)
theorem wd1331 : Cond.methodLink RL 170 yX8_status ∈ lw_tbl := List.mem_of_getElem? (i := 1331) (by decide +kernel)
theorem wd1332 : Cond.instanceMethod yX8_status ∈ lw_tbl := List.mem_of_getElem? (i := 1332) (by decide +kernel)
theorem wd1333 : Cond.selects RX8 yX8_status yX8_status ∈ lw_tbl := List.mem_of_getElem? (i := 1333) (by decide +kernel)
theorem wd1334 : Cond.code yX8_status cX8_status 2 (some .int) ∈ lw_tbl := List.mem_of_getElem? (i := 1334) (by decide +kernel)
theorem wd1335 : Cond.methodLink RL 174 yX8_count ∈ lw_tbl := List.mem_of_getElem? (i := 1335) (by decide +kernel)
theorem wd1336 : Cond.instanceMethod yX8_count ∈ lw_tbl := List.mem_of_getElem? (i := 1336) (by decide +kernel)
theorem wd1337 : Cond.selects RX8 yX8_count yX8_count ∈ lw_tbl := List.mem_of_getElem? (i := 1337) (by decide +kernel)
theorem wd1338 : Cond.code yX8_count cX8_count 2 (some .int) ∈ lw_tbl := List.mem_of_getElem? (i := 1338) (by decide +kernel)
theorem wd1339 : Cond.methodLink RX8 250 yX8_many ∈ lw_tbl := List.mem_of_getElem? (i := 1339) (by decide +kernel)
theorem wd1341 : Cond.instanceMethod yX8_many ∈ lw_tbl := List.mem_of_getElem? (i := 1341) (by decide +kernel)
theorem wd1342 : Cond.code yX8_many cX8_many 4 (some .int) ∈ lw_tbl := List.mem_of_getElem? (i := 1342) (by decide +kernel)
theorem wd1343 : Cond.methodLink RL 179 yX8_digest ∈ lw_tbl := List.mem_of_getElem? (i := 1343) (by decide +kernel)
theorem wd1344 : Cond.instanceMethod yX8_digest ∈ lw_tbl := List.mem_of_getElem? (i := 1344) (by decide +kernel)
theorem wd1345 : Cond.selects RX8 yX8_digest yX8_digest ∈ lw_tbl := List.mem_of_getElem? (i := 1345) (by decide +kernel)
theorem wd1346 : Cond.code yX8_digest cX8_digest 5 (some .long) ∈ lw_tbl := List.mem_of_getElem? (i := 1346) (by decide +kernel)
theorem wd1347 : Cond.constantLong RX8 253 (1759) ∈ lw_tbl := List.mem_of_getElem? (i := 1347) (by decide +kernel)
theorem wd1348 : Cond.constantLong RX8 255 (31) ∈ lw_tbl := List.mem_of_getElem? (i := 1348) (by decide +kernel)
theorem in_X0 : ∀ w ∈ u_ws RX0 TX0 2, w ∈ lw_tbl := by decide +kernel
theorem in_X1 : ∀ w ∈ u_ws RX1 TX1 3, w ∈ lw_tbl := by decide +kernel
theorem in_X2 : ∀ w ∈ u_ws RX2 TX2 4, w ∈ lw_tbl := by decide +kernel
theorem in_X3 : ∀ w ∈ u_ws RX3 TX3 7, w ∈ lw_tbl := by decide +kernel
theorem in_X4 : ∀ w ∈ u_ws RX4 TX4 3, w ∈ lw_tbl := by decide +kernel
theorem in_X6 : ∀ w ∈ u_ws RX6 TX6 12, w ∈ lw_tbl := by decide +kernel
theorem in_X7 : ∀ w ∈ u_ws RX7 TX7 12, w ∈ lw_tbl := by decide +kernel
theorem in_X8 : ∀ w ∈ u_ws RX8 TX8 17, w ∈ lw_tbl := by decide +kernel
end
