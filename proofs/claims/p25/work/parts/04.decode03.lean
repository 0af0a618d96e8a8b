theorem bX8_full_0 : (decode cX8_full 0 = .ok (.aload_n 0, 1)) ∧ (decode cX8_full 1 = .ok (.getfield 7, 3)) ∧ (decode cX8_full 4 = .ok (.iconst 2, 1)) ∧ (decode cX8_full 5 = .ok (.dup2, 1)) ∧ (decode cX8_full 6 = .ok (.iaload, 1)) ∧ (decode cX8_full 7 = .ok (.iconst 1, 1)) ∧ (decode cX8_full 8 = .ok (.iadd, 1)) ∧ (decode cX8_full 9 = .ok (.iastore, 1)) ∧ (decode cX8_full 10 = .ok (.bipush (-4), 2)) ∧ (decode cX8_full 12 = .ok (.ireturn, 1)) := by decide +kernel
theorem dX8_full_0 : decode cX8_full 0 = .ok (.aload_n 0, 1) := bX8_full_0.1
theorem dX8_full_1 : decode cX8_full 1 = .ok (.getfield 7, 3) := bX8_full_0.2.1
theorem dX8_full_4 : decode cX8_full 4 = .ok (.iconst 2, 1) := bX8_full_0.2.2.1
theorem dX8_full_5 : decode cX8_full 5 = .ok (.dup2, 1) := bX8_full_0.2.2.2.1
theorem dX8_full_6 : decode cX8_full 6 = .ok (.iaload, 1) := bX8_full_0.2.2.2.2.1
theorem dX8_full_7 : decode cX8_full 7 = .ok (.iconst 1, 1) := bX8_full_0.2.2.2.2.2.1
theorem dX8_full_8 : decode cX8_full 8 = .ok (.iadd, 1) := bX8_full_0.2.2.2.2.2.2.1
theorem dX8_full_9 : decode cX8_full 9 = .ok (.iastore, 1) := bX8_full_0.2.2.2.2.2.2.2.1
theorem dX8_full_10 : decode cX8_full 10 = .ok (.bipush (-4), 2) := bX8_full_0.2.2.2.2.2.2.2.2.1
theorem dX8_full_12 : decode cX8_full 12 = .ok (.ireturn, 1) := bX8_full_0.2.2.2.2.2.2.2.2.2
theorem bX8_begin_0 : (decode cX8_begin 0 = .ok (.iconst 0, 1)) ∧ (decode cX8_begin 1 = .ok (.istore_n 2, 1)) ∧ (decode cX8_begin 2 = .ok (.iload_n 2, 1)) ∧ (decode cX8_begin 3 = .ok (.sipush 246, 3)) ∧ (decode cX8_begin 6 = .ok (.if_icmp .ge 18, 3)) ∧ (decode cX8_begin 9 = .ok (.aload_n 0, 1)) ∧ (decode cX8_begin 10 = .ok (.getfield 13, 3)) ∧ (decode cX8_begin 13 = .ok (.iload_n 1, 1)) ∧ (decode cX8_begin 14 = .ok (.iload_n 2, 1)) ∧ (decode cX8_begin 15 = .ok (.iadd, 1)) ∧ (decode cX8_begin 16 = .ok (.iconst 0, 1)) ∧ (decode cX8_begin 17 = .ok (.iastore, 1)) ∧ (decode cX8_begin 18 = .ok (.iinc 2 1, 3)) ∧ (decode cX8_begin 21 = .ok (.goto (-19), 3)) ∧ (decode cX8_begin 24 = .ok (.iconst 0, 1)) ∧ (decode cX8_begin 25 = .ok (.istore_n 2, 1)) := by decide +kernel
theorem dX8_begin_0 : decode cX8_begin 0 = .ok (.iconst 0, 1) := bX8_begin_0.1
theorem dX8_begin_1 : decode cX8_begin 1 = .ok (.istore_n 2, 1) := bX8_begin_0.2.1
theorem dX8_begin_2 : decode cX8_begin 2 = .ok (.iload_n 2, 1) := bX8_begin_0.2.2.1
theorem dX8_begin_3 : decode cX8_begin 3 = .ok (.sipush 246, 3) := bX8_begin_0.2.2.2.1
theorem dX8_begin_6 : decode cX8_begin 6 = .ok (.if_icmp .ge 18, 3) := bX8_begin_0.2.2.2.2.1
theorem dX8_begin_9 : decode cX8_begin 9 = .ok (.aload_n 0, 1) := bX8_begin_0.2.2.2.2.2.1
theorem dX8_begin_10 : decode cX8_begin 10 = .ok (.getfield 13, 3) := bX8_begin_0.2.2.2.2.2.2.1
theorem dX8_begin_13 : decode cX8_begin 13 = .ok (.iload_n 1, 1) := bX8_begin_0.2.2.2.2.2.2.2.1
theorem dX8_begin_14 : decode cX8_begin 14 = .ok (.iload_n 2, 1) := bX8_begin_0.2.2.2.2.2.2.2.2.1
theorem dX8_begin_15 : decode cX8_begin 15 = .ok (.iadd, 1) := bX8_begin_0.2.2.2.2.2.2.2.2.2.1
theorem dX8_begin_16 : decode cX8_begin 16 = .ok (.iconst 0, 1) := bX8_begin_0.2.2.2.2.2.2.2.2.2.2.1
theorem dX8_begin_17 : decode cX8_begin 17 = .ok (.iastore, 1) := bX8_begin_0.2.2.2.2.2.2.2.2.2.2.2.1
theorem dX8_begin_18 : decode cX8_begin 18 = .ok (.iinc 2 1, 3) := bX8_begin_0.2.2.2.2.2.2.2.2.2.2.2.2.1
theorem dX8_begin_21 : decode cX8_begin 21 = .ok (.goto (-19), 3) := bX8_begin_0.2.2.2.2.2.2.2.2.2.2.2.2.2.1
theorem dX8_begin_24 : decode cX8_begin 24 = .ok (.iconst 0, 1) := bX8_begin_0.2.2.2.2.2.2.2.2.2.2.2.2.2.2.1
theorem dX8_begin_25 : decode cX8_begin 25 = .ok (.istore_n 2, 1) := bX8_begin_0.2.2.2.2.2.2.2.2.2.2.2.2.2.2.2
theorem bX8_begin_26 : (decode cX8_begin 26 = .ok (.iload_n 2, 1)) ∧ (decode cX8_begin 27 = .ok (.bipush 7, 2)) ∧ (decode cX8_begin 29 = .ok (.if_icmp .ge 24, 3)) ∧ (decode cX8_begin 32 = .ok (.aload_n 0, 1)) ∧ (decode cX8_begin 33 = .ok (.getfield 13, 3)) ∧ (decode cX8_begin 36 = .ok (.iload_n 1, 1)) ∧ (decode cX8_begin 37 = .ok (.bipush 34, 2)) ∧ (decode cX8_begin 39 = .ok (.iadd, 1)) ∧ (decode cX8_begin 40 = .ok (.bipush 9, 2)) ∧ (decode cX8_begin 42 = .ok (.iadd, 1)) ∧ (decode cX8_begin 43 = .ok (.iload_n 2, 1)) ∧ (decode cX8_begin 44 = .ok (.iadd, 1)) ∧ (decode cX8_begin 45 = .ok (.iconst (-1), 1)) ∧ (decode cX8_begin 46 = .ok (.iastore, 1)) ∧ (decode cX8_begin 47 = .ok (.iinc 2 1, 3)) ∧ (decode cX8_begin 50 = .ok (.goto (-24), 3)) := by decide +kernel
theorem dX8_begin_26 : decode cX8_begin 26 = .ok (.iload_n 2, 1) := bX8_begin_26.1
theorem dX8_begin_27 : decode cX8_begin 27 = .ok (.bipush 7, 2) := bX8_begin_26.2.1
theorem dX8_begin_29 : decode cX8_begin 29 = .ok (.if_icmp .ge 24, 3) := bX8_begin_26.2.2.1
theorem dX8_begin_32 : decode cX8_begin 32 = .ok (.aload_n 0, 1) := bX8_begin_26.2.2.2.1
theorem dX8_begin_33 : decode cX8_begin 33 = .ok (.getfield 13, 3) := bX8_begin_26.2.2.2.2.1
theorem dX8_begin_36 : decode cX8_begin 36 = .ok (.iload_n 1, 1) := bX8_begin_26.2.2.2.2.2.1
theorem dX8_begin_37 : decode cX8_begin 37 = .ok (.bipush 34, 2) := bX8_begin_26.2.2.2.2.2.2.1
theorem dX8_begin_39 : decode cX8_begin 39 = .ok (.iadd, 1) := bX8_begin_26.2.2.2.2.2.2.2.1
theorem dX8_begin_40 : decode cX8_begin 40 = .ok (.bipush 9, 2) := bX8_begin_26.2.2.2.2.2.2.2.2.1
theorem dX8_begin_42 : decode cX8_begin 42 = .ok (.iadd, 1) := bX8_begin_26.2.2.2.2.2.2.2.2.2.1
theorem dX8_begin_43 : decode cX8_begin 43 = .ok (.iload_n 2, 1) := bX8_begin_26.2.2.2.2.2.2.2.2.2.2.1
theorem dX8_begin_44 : decode cX8_begin 44 = .ok (.iadd, 1) := bX8_begin_26.2.2.2.2.2.2.2.2.2.2.2.1
theorem dX8_begin_45 : decode cX8_begin 45 = .ok (.iconst (-1), 1) := bX8_begin_26.2.2.2.2.2.2.2.2.2.2.2.2.1
theorem dX8_begin_46 : decode cX8_begin 46 = .ok (.iastore, 1) := bX8_begin_26.2.2.2.2.2.2.2.2.2.2.2.2.2.1
theorem dX8_begin_47 : decode cX8_begin 47 = .ok (.iinc 2 1, 3) := bX8_begin_26.2.2.2.2.2.2.2.2.2.2.2.2.2.2.1
theorem dX8_begin_50 : decode cX8_begin 50 = .ok (.goto (-24), 3) := bX8_begin_26.2.2.2.2.2.2.2.2.2.2.2.2.2.2.2
theorem dX8_begin_53 : decode cX8_begin 53 = .ok (.return_, 1) := by decide +kernel
theorem bX8_copyRow_0 : (decode cX8_copyRow 0 = .ok (.iconst 0, 1)) ∧ (decode cX8_copyRow 1 = .ok (.istore_n 3, 1)) ∧ (decode cX8_copyRow 2 = .ok (.iload_n 3, 1)) ∧ (decode cX8_copyRow 3 = .ok (.sipush 246, 3)) ∧ (decode cX8_copyRow 6 = .ok (.if_icmp .ge 25, 3)) ∧ (decode cX8_copyRow 9 = .ok (.aload_n 0, 1)) ∧ (decode cX8_copyRow 10 = .ok (.getfield 13, 3)) ∧ (decode cX8_copyRow 13 = .ok (.iload_n 2, 1)) ∧ (decode cX8_copyRow 14 = .ok (.iload_n 3, 1)) ∧ (decode cX8_copyRow 15 = .ok (.iadd, 1)) ∧ (decode cX8_copyRow 16 = .ok (.aload_n 0, 1)) ∧ (decode cX8_copyRow 17 = .ok (.getfield 13, 3)) ∧ (decode cX8_copyRow 20 = .ok (.iload_n 1, 1)) ∧ (decode cX8_copyRow 21 = .ok (.iload_n 3, 1)) ∧ (decode cX8_copyRow 22 = .ok (.iadd, 1)) ∧ (decode cX8_copyRow 23 = .ok (.iaload, 1)) := by decide +kernel
theorem dX8_copyRow_0 : decode cX8_copyRow 0 = .ok (.iconst 0, 1) := bX8_copyRow_0.1
theorem dX8_copyRow_1 : decode cX8_copyRow 1 = .ok (.istore_n 3, 1) := bX8_copyRow_0.2.1
theorem dX8_copyRow_2 : decode cX8_copyRow 2 = .ok (.iload_n 3, 1) := bX8_copyRow_0.2.2.1
theorem dX8_copyRow_3 : decode cX8_copyRow 3 = .ok (.sipush 246, 3) := bX8_copyRow_0.2.2.2.1
theorem dX8_copyRow_6 : decode cX8_copyRow 6 = .ok (.if_icmp .ge 25, 3) := bX8_copyRow_0.2.2.2.2.1
theorem dX8_copyRow_9 : decode cX8_copyRow 9 = .ok (.aload_n 0, 1) := bX8_copyRow_0.2.2.2.2.2.1
theorem dX8_copyRow_10 : decode cX8_copyRow 10 = .ok (.getfield 13, 3) := bX8_copyRow_0.2.2.2.2.2.2.1
theorem dX8_copyRow_13 : decode cX8_copyRow 13 = .ok (.iload_n 2, 1) := bX8_copyRow_0.2.2.2.2.2.2.2.1
theorem dX8_copyRow_14 : decode cX8_copyRow 14 = .ok (.iload_n 3, 1) := bX8_copyRow_0.2.2.2.2.2.2.2.2.1
theorem dX8_copyRow_15 : decode cX8_copyRow 15 = .ok (.iadd, 1) := bX8_copyRow_0.2.2.2.2.2.2.2.2.2.1
theorem dX8_copyRow_16 : decode cX8_copyRow 16 = .ok (.aload_n 0, 1) := bX8_copyRow_0.2.2.2.2.2.2.2.2.2.2.1
theorem dX8_copyRow_17 : decode cX8_copyRow 17 = .ok (.getfield 13, 3) := bX8_copyRow_0.2.2.2.2.2.2.2.2.2.2.2.1
theorem dX8_copyRow_20 : decode cX8_copyRow 20 = .ok (.iload_n 1, 1) := bX8_copyRow_0.2.2.2.2.2.2.2.2.2.2.2.2.1
theorem dX8_copyRow_21 : decode cX8_copyRow 21 = .ok (.iload_n 3, 1) := bX8_copyRow_0.2.2.2.2.2.2.2.2.2.2.2.2.2.1
theorem dX8_copyRow_22 : decode cX8_copyRow 22 = .ok (.iadd, 1) := bX8_copyRow_0.2.2.2.2.2.2.2.2.2.2.2.2.2.2.1
theorem dX8_copyRow_23 : decode cX8_copyRow 23 = .ok (.iaload, 1) := bX8_copyRow_0.2.2.2.2.2.2.2.2.2.2.2.2.2.2.2
theorem bX8_copyRow_24 : (decode cX8_copyRow 24 = .ok (.iastore, 1)) ∧ (decode cX8_copyRow 25 = .ok (.iinc 3 1, 3)) ∧ (decode cX8_copyRow 28 = .ok (.goto (-26), 3)) ∧ (decode cX8_copyRow 31 = .ok (.return_, 1)) := by decide +kernel
theorem dX8_copyRow_24 : decode cX8_copyRow 24 = .ok (.iastore, 1) := bX8_copyRow_24.1
theorem dX8_copyRow_25 : decode cX8_copyRow 25 = .ok (.iinc 3 1, 3) := bX8_copyRow_24.2.1
theorem dX8_copyRow_28 : decode cX8_copyRow 28 = .ok (.goto (-26), 3) := bX8_copyRow_24.2.2.1
theorem dX8_copyRow_31 : decode cX8_copyRow 31 = .ok (.return_, 1) := bX8_copyRow_24.2.2.2
theorem bX8_take_0 : (decode cX8_take 0 = .ok (.iconst 0, 1)) ∧ (decode cX8_take 1 = .ok (.istore_n 1, 1)) ∧ (decode cX8_take 2 = .ok (.iload_n 1, 1)) ∧ (decode cX8_take 3 = .ok (.bipush 16, 2)) ∧ (decode cX8_take 5 = .ok (.if_icmp .ge 24, 3)) ∧ (decode cX8_take 8 = .ok (.aload_n 0, 1)) ∧ (decode cX8_take 9 = .ok (.getfield 20, 3)) ∧ (decode cX8_take 12 = .ok (.iload_n 1, 1)) ∧ (decode cX8_take 13 = .ok (.aload_n 0, 1)) ∧ (decode cX8_take 14 = .ok (.getfield 13, 3)) ∧ (decode cX8_take 17 = .ok (.bipush 34, 2)) ∧ (decode cX8_take 19 = .ok (.iload_n 1, 1)) ∧ (decode cX8_take 20 = .ok (.iadd, 1)) ∧ (decode cX8_take 21 = .ok (.iaload, 1)) ∧ (decode cX8_take 22 = .ok (.iastore, 1)) ∧ (decode cX8_take 23 = .ok (.iinc 1 1, 3)) := by decide +kernel
theorem dX8_take_0 : decode cX8_take 0 = .ok (.iconst 0, 1) := bX8_take_0.1
theorem dX8_take_1 : decode cX8_take 1 = .ok (.istore_n 1, 1) := bX8_take_0.2.1
theorem dX8_take_2 : decode cX8_take 2 = .ok (.iload_n 1, 1) := bX8_take_0.2.2.1
theorem dX8_take_3 : decode cX8_take 3 = .ok (.bipush 16, 2) := bX8_take_0.2.2.2.1
theorem dX8_take_5 : decode cX8_take 5 = .ok (.if_icmp .ge 24, 3) := bX8_take_0.2.2.2.2.1
theorem dX8_take_8 : decode cX8_take 8 = .ok (.aload_n 0, 1) := bX8_take_0.2.2.2.2.2.1
theorem dX8_take_9 : decode cX8_take 9 = .ok (.getfield 20, 3) := bX8_take_0.2.2.2.2.2.2.1
theorem dX8_take_12 : decode cX8_take 12 = .ok (.iload_n 1, 1) := bX8_take_0.2.2.2.2.2.2.2.1
theorem dX8_take_13 : decode cX8_take 13 = .ok (.aload_n 0, 1) := bX8_take_0.2.2.2.2.2.2.2.2.1
theorem dX8_take_14 : decode cX8_take 14 = .ok (.getfield 13, 3) := bX8_take_0.2.2.2.2.2.2.2.2.2.1
theorem dX8_take_17 : decode cX8_take 17 = .ok (.bipush 34, 2) := bX8_take_0.2.2.2.2.2.2.2.2.2.2.1
theorem dX8_take_19 : decode cX8_take 19 = .ok (.iload_n 1, 1) := bX8_take_0.2.2.2.2.2.2.2.2.2.2.2.1
theorem dX8_take_20 : decode cX8_take 20 = .ok (.iadd, 1) := bX8_take_0.2.2.2.2.2.2.2.2.2.2.2.2.1
theorem dX8_take_21 : decode cX8_take 21 = .ok (.iaload, 1) := bX8_take_0.2.2.2.2.2.2.2.2.2.2.2.2.2.1
theorem dX8_take_22 : decode cX8_take 22 = .ok (.iastore, 1) := bX8_take_0.2.2.2.2.2.2.2.2.2.2.2.2.2.2.1
theorem dX8_take_23 : decode cX8_take 23 = .ok (.iinc 1 1, 3) := bX8_take_0.2.2.2.2.2.2.2.2.2.2.2.2.2.2.2
theorem bX8_take_26 : (decode cX8_take 26 = .ok (.goto (-24), 3)) ∧ (decode cX8_take 29 = .ok (.return_, 1)) := by decide +kernel
theorem dX8_take_26 : decode cX8_take 26 = .ok (.goto (-24), 3) := bX8_take_26.1
theorem dX8_take_29 : decode cX8_take 29 = .ok (.return_, 1) := bX8_take_26.2
theorem bX8_isThing_0 : (decode cX8_isThing 0 = .ok (.iload_n 1, 1)) ∧ (decode cX8_isThing 1 = .ok (.iconst 0, 1)) ∧ (decode cX8_isThing 2 = .ok (.aload_n 0, 1)) ∧ (decode cX8_isThing 3 = .ok (.getfield 13, 3)) ∧ (decode cX8_isThing 6 = .ok (.iconst 0, 1)) ∧ (decode cX8_isThing 7 = .ok (.iaload, 1)) ∧ (decode cX8_isThing 8 = .ok (.iconst 1, 1)) ∧ (decode cX8_isThing 9 = .ok (.isub, 1)) ∧ (decode cX8_isThing 10 = .ok (.invokestatic 44, 3)) ∧ (decode cX8_isThing 13 = .ok (.ireturn, 1)) := by decide +kernel
theorem dX8_isThing_0 : decode cX8_isThing 0 = .ok (.iload_n 1, 1) := bX8_isThing_0.1
theorem dX8_isThing_1 : decode cX8_isThing 1 = .ok (.iconst 0, 1) := bX8_isThing_0.2.1
theorem dX8_isThing_2 : decode cX8_isThing 2 = .ok (.aload_n 0, 1) := bX8_isThing_0.2.2.1
theorem dX8_isThing_3 : decode cX8_isThing 3 = .ok (.getfield 13, 3) := bX8_isThing_0.2.2.2.1
theorem dX8_isThing_6 : decode cX8_isThing 6 = .ok (.iconst 0, 1) := bX8_isThing_0.2.2.2.2.1
theorem dX8_isThing_7 : decode cX8_isThing 7 = .ok (.iaload, 1) := bX8_isThing_0.2.2.2.2.2.1
theorem dX8_isThing_8 : decode cX8_isThing 8 = .ok (.iconst 1, 1) := bX8_isThing_0.2.2.2.2.2.2.1
theorem dX8_isThing_9 : decode cX8_isThing 9 = .ok (.isub, 1) := bX8_isThing_0.2.2.2.2.2.2.2.1
theorem dX8_isThing_10 : decode cX8_isThing 10 = .ok (.invokestatic 44, 3) := bX8_isThing_0.2.2.2.2.2.2.2.2.1
theorem dX8_isThing_13 : decode cX8_isThing 13 = .ok (.ireturn, 1) := bX8_isThing_0.2.2.2.2.2.2.2.2.2
theorem bX8_isOne_0 : (decode cX8_isOne 0 = .ok (.iload_n 1, 1)) ∧ (decode cX8_isOne 1 = .ok (.iconst 0, 1)) ∧ (decode cX8_isOne 2 = .ok (.aload_n 0, 1)) ∧ (decode cX8_isOne 3 = .ok (.getfield 13, 3)) ∧ (decode cX8_isOne 6 = .ok (.iconst 1, 1)) ∧ (decode cX8_isOne 7 = .ok (.iaload, 1)) ∧ (decode cX8_isOne 8 = .ok (.iconst 1, 1)) ∧ (decode cX8_isOne 9 = .ok (.isub, 1)) ∧ (decode cX8_isOne 10 = .ok (.invokestatic 44, 3)) ∧ (decode cX8_isOne 13 = .ok (.ireturn, 1)) := by decide +kernel
theorem dX8_isOne_0 : decode cX8_isOne 0 = .ok (.iload_n 1, 1) := bX8_isOne_0.1
theorem dX8_isOne_1 : decode cX8_isOne 1 = .ok (.iconst 0, 1) := bX8_isOne_0.2.1
theorem dX8_isOne_2 : decode cX8_isOne 2 = .ok (.aload_n 0, 1) := bX8_isOne_0.2.2.1
theorem dX8_isOne_3 : decode cX8_isOne 3 = .ok (.getfield 13, 3) := bX8_isOne_0.2.2.2.1
theorem dX8_isOne_6 : decode cX8_isOne 6 = .ok (.iconst 1, 1) := bX8_isOne_0.2.2.2.2.1
theorem dX8_isOne_7 : decode cX8_isOne 7 = .ok (.iaload, 1) := bX8_isOne_0.2.2.2.2.2.1
theorem dX8_isOne_8 : decode cX8_isOne 8 = .ok (.iconst 1, 1) := bX8_isOne_0.2.2.2.2.2.2.1
theorem dX8_isOne_9 : decode cX8_isOne 9 = .ok (.isub, 1) := bX8_isOne_0.2.2.2.2.2.2.2.1
theorem dX8_isOne_10 : decode cX8_isOne 10 = .ok (.invokestatic 44, 3) := bX8_isOne_0.2.2.2.2.2.2.2.2.1
theorem dX8_isOne_13 : decode cX8_isOne 13 = .ok (.ireturn, 1) := bX8_isOne_0.2.2.2.2.2.2.2.2.2
theorem bX8_weighsBy_0 : (decode cX8_weighsBy 0 = .ok (.iload_n 1, 1)) ∧ (decode cX8_weighsBy 1 = .ok (.iconst 1, 1)) ∧ (decode cX8_weighsBy 2 = .ok (.iadd, 1)) ∧ (decode cX8_weighsBy 3 = .ok (.iconst 2, 1)) ∧ (decode cX8_weighsBy 4 = .ok (.idiv, 1)) ∧ (decode cX8_weighsBy 5 = .ok (.istore_n 3, 1)) ∧ (decode cX8_weighsBy 6 = .ok (.iload_n 0, 1)) ∧ (decode cX8_weighsBy 7 = .ok (.tableswitch 82 0 4 #[33, 35, 40, 42, 66], 33)) ∧ (decode cX8_weighsBy 40 = .ok (.iload_n 1, 1)) ∧ (decode cX8_weighsBy 41 = .ok (.ireturn, 1)) ∧ (decode cX8_weighsBy 42 = .ok (.iload_n 1, 1)) ∧ (decode cX8_weighsBy 43 = .ok (.bipush 6, 2)) ∧ (decode cX8_weighsBy 45 = .ok (.iadd, 1)) ∧ (decode cX8_weighsBy 46 = .ok (.ireturn, 1)) ∧ (decode cX8_weighsBy 47 = .ok (.iload_n 3, 1)) ∧ (decode cX8_weighsBy 48 = .ok (.ireturn, 1)) := by decide +kernel
theorem dX8_weighsBy_0 : decode cX8_weighsBy 0 = .ok (.iload_n 1, 1) := bX8_weighsBy_0.1
theorem dX8_weighsBy_1 : decode cX8_weighsBy 1 = .ok (.iconst 1, 1) := bX8_weighsBy_0.2.1
theorem dX8_weighsBy_2 : decode cX8_weighsBy 2 = .ok (.iadd, 1) := bX8_weighsBy_0.2.2.1
theorem dX8_weighsBy_3 : decode cX8_weighsBy 3 = .ok (.iconst 2, 1) := bX8_weighsBy_0.2.2.2.1
theorem dX8_weighsBy_4 : decode cX8_weighsBy 4 = .ok (.idiv, 1) := bX8_weighsBy_0.2.2.2.2.1
theorem dX8_weighsBy_5 : decode cX8_weighsBy 5 = .ok (.istore_n 3, 1) := bX8_weighsBy_0.2.2.2.2.2.1
theorem dX8_weighsBy_6 : decode cX8_weighsBy 6 = .ok (.iload_n 0, 1) := bX8_weighsBy_0.2.2.2.2.2.2.1
theorem dX8_weighsBy_7 : decode cX8_weighsBy 7 = .ok (.tableswitch 82 0 4 #[33, 35, 40, 42, 66], 33) := bX8_weighsBy_0.2.2.2.2.2.2.2.1
theorem dX8_weighsBy_40 : decode cX8_weighsBy 40 = .ok (.iload_n 1, 1) := bX8_weighsBy_0.2.2.2.2.2.2.2.2.1
theorem dX8_weighsBy_41 : decode cX8_weighsBy 41 = .ok (.ireturn, 1) := bX8_weighsBy_0.2.2.2.2.2.2.2.2.2.1
theorem dX8_weighsBy_42 : decode cX8_weighsBy 42 = .ok (.iload_n 1, 1) := bX8_weighsBy_0.2.2.2.2.2.2.2.2.2.2.1
theorem dX8_weighsBy_43 : decode cX8_weighsBy 43 = .ok (.bipush 6, 2) := bX8_weighsBy_0.2.2.2.2.2.2.2.2.2.2.2.1
theorem dX8_weighsBy_45 : decode cX8_weighsBy 45 = .ok (.iadd, 1) := bX8_weighsBy_0.2.2.2.2.2.2.2.2.2.2.2.2.1
theorem dX8_weighsBy_46 : decode cX8_weighsBy 46 = .ok (.ireturn, 1) := bX8_weighsBy_0.2.2.2.2.2.2.2.2.2.2.2.2.2.1
theorem dX8_weighsBy_47 : decode cX8_weighsBy 47 = .ok (.iload_n 3, 1) := bX8_weighsBy_0.2.2.2.2.2.2.2.2.2.2.2.2.2.2.1
theorem dX8_weighsBy_48 : decode cX8_weighsBy 48 = .ok (.ireturn, 1) := bX8_weighsBy_0.2.2.2.2.2.2.2.2.2.2.2.2.2.2.2
theorem bX8_weighsBy_49 : (decode cX8_weighsBy 49 = .ok (.iload_n 1, 1)) ∧ (decode cX8_weighsBy 50 = .ok (.bipush 6, 2)) ∧ (decode cX8_weighsBy 52 = .ok (.iadd, 1)) ∧ (decode cX8_weighsBy 53 = .ok (.iload_n 2, 1)) ∧ (decode cX8_weighsBy 54 = .ok (.bipush 10, 2)) ∧ (decode cX8_weighsBy 56 = .ok (.idiv, 1)) ∧ (decode cX8_weighsBy 57 = .ok (.bipush 20, 2)) ∧ (decode cX8_weighsBy 59 = .ok (.if_icmp .le 8, 3)) ∧ (decode cX8_weighsBy 62 = .ok (.bipush 20, 2)) ∧ (decode cX8_weighsBy 64 = .ok (.goto 7, 3)) ∧ (decode cX8_weighsBy 67 = .ok (.iload_n 2, 1)) ∧ (decode cX8_weighsBy 68 = .ok (.bipush 10, 2)) ∧ (decode cX8_weighsBy 70 = .ok (.idiv, 1)) ∧ (decode cX8_weighsBy 71 = .ok (.iadd, 1)) ∧ (decode cX8_weighsBy 72 = .ok (.ireturn, 1)) ∧ (decode cX8_weighsBy 73 = .ok (.iload_n 3, 1)) := by decide +kernel
theorem dX8_weighsBy_49 : decode cX8_weighsBy 49 = .ok (.iload_n 1, 1) := bX8_weighsBy_49.1
theorem dX8_weighsBy_50 : decode cX8_weighsBy 50 = .ok (.bipush 6, 2) := bX8_weighsBy_49.2.1
theorem dX8_weighsBy_52 : decode cX8_weighsBy 52 = .ok (.iadd, 1) := bX8_weighsBy_49.2.2.1
theorem dX8_weighsBy_53 : decode cX8_weighsBy 53 = .ok (.iload_n 2, 1) := bX8_weighsBy_49.2.2.2.1
theorem dX8_weighsBy_54 : decode cX8_weighsBy 54 = .ok (.bipush 10, 2) := bX8_weighsBy_49.2.2.2.2.1
theorem dX8_weighsBy_56 : decode cX8_weighsBy 56 = .ok (.idiv, 1) := bX8_weighsBy_49.2.2.2.2.2.1
theorem dX8_weighsBy_57 : decode cX8_weighsBy 57 = .ok (.bipush 20, 2) := bX8_weighsBy_49.2.2.2.2.2.2.1
theorem dX8_weighsBy_59 : decode cX8_weighsBy 59 = .ok (.if_icmp .le 8, 3) := bX8_weighsBy_49.2.2.2.2.2.2.2.1
theorem dX8_weighsBy_62 : decode cX8_weighsBy 62 = .ok (.bipush 20, 2) := bX8_weighsBy_49.2.2.2.2.2.2.2.2.1
theorem dX8_weighsBy_64 : decode cX8_weighsBy 64 = .ok (.goto 7, 3) := bX8_weighsBy_49.2.2.2.2.2.2.2.2.2.1
theorem dX8_weighsBy_67 : decode cX8_weighsBy 67 = .ok (.iload_n 2, 1) := bX8_weighsBy_49.2.2.2.2.2.2.2.2.2.2.1
theorem dX8_weighsBy_68 : decode cX8_weighsBy 68 = .ok (.bipush 10, 2) := bX8_weighsBy_49.2.2.2.2.2.2.2.2.2.2.2.1
theorem dX8_weighsBy_70 : decode cX8_weighsBy 70 = .ok (.idiv, 1) := bX8_weighsBy_49.2.2.2.2.2.2.2.2.2.2.2.2.1
theorem dX8_weighsBy_71 : decode cX8_weighsBy 71 = .ok (.iadd, 1) := bX8_weighsBy_49.2.2.2.2.2.2.2.2.2.2.2.2.2.1
theorem dX8_weighsBy_72 : decode cX8_weighsBy 72 = .ok (.ireturn, 1) := bX8_weighsBy_49.2.2.2.2.2.2.2.2.2.2.2.2.2.2.1
theorem dX8_weighsBy_73 : decode cX8_weighsBy 73 = .ok (.iload_n 3, 1) := bX8_weighsBy_49.2.2.2.2.2.2.2.2.2.2.2.2.2.2.2
theorem bX8_weighsBy_74 : (decode cX8_weighsBy 74 = .ok (.iload_n 2, 1)) ∧ (decode cX8_weighsBy 75 = .ok (.iconst 2, 1)) ∧ (decode cX8_weighsBy 76 = .ok (.irem, 1)) ∧ (decode cX8_weighsBy 77 = .ok (.iconst 1, 1)) ∧ (decode cX8_weighsBy 78 = .ok (.if_icmp .ne 8, 3)) ∧ (decode cX8_weighsBy 81 = .ok (.bipush 9, 2)) ∧ (decode cX8_weighsBy 83 = .ok (.goto 4, 3)) ∧ (decode cX8_weighsBy 86 = .ok (.iconst 0, 1)) ∧ (decode cX8_weighsBy 87 = .ok (.iadd, 1)) ∧ (decode cX8_weighsBy 88 = .ok (.ireturn, 1)) ∧ (decode cX8_weighsBy 89 = .ok (.iconst 2, 1)) ∧ (decode cX8_weighsBy 90 = .ok (.iload_n 3, 1)) ∧ (decode cX8_weighsBy 91 = .ok (.imul, 1)) ∧ (decode cX8_weighsBy 92 = .ok (.iconst 1, 1)) ∧ (decode cX8_weighsBy 93 = .ok (.isub, 1)) ∧ (decode cX8_weighsBy 94 = .ok (.ireturn, 1)) := by decide +kernel
theorem dX8_weighsBy_74 : decode cX8_weighsBy 74 = .ok (.iload_n 2, 1) := bX8_weighsBy_74.1
theorem dX8_weighsBy_75 : decode cX8_weighsBy 75 = .ok (.iconst 2, 1) := bX8_weighsBy_74.2.1
theorem dX8_weighsBy_76 : decode cX8_weighsBy 76 = .ok (.irem, 1) := bX8_weighsBy_74.2.2.1
theorem dX8_weighsBy_77 : decode cX8_weighsBy 77 = .ok (.iconst 1, 1) := bX8_weighsBy_74.2.2.2.1
theorem dX8_weighsBy_78 : decode cX8_weighsBy 78 = .ok (.if_icmp .ne 8, 3) := bX8_weighsBy_74.2.2.2.2.1
theorem dX8_weighsBy_81 : decode cX8_weighsBy 81 = .ok (.bipush 9, 2) := bX8_weighsBy_74.2.2.2.2.2.1
theorem dX8_weighsBy_83 : decode cX8_weighsBy 83 = .ok (.goto 4, 3) := bX8_weighsBy_74.2.2.2.2.2.2.1
theorem dX8_weighsBy_86 : decode cX8_weighsBy 86 = .ok (.iconst 0, 1) := bX8_weighsBy_74.2.2.2.2.2.2.2.1
theorem dX8_weighsBy_87 : decode cX8_weighsBy 87 = .ok (.iadd, 1) := bX8_weighsBy_74.2.2.2.2.2.2.2.2.1
theorem dX8_weighsBy_88 : decode cX8_weighsBy 88 = .ok (.ireturn, 1) := bX8_weighsBy_74.2.2.2.2.2.2.2.2.2.1
theorem dX8_weighsBy_89 : decode cX8_weighsBy 89 = .ok (.iconst 2, 1) := bX8_weighsBy_74.2.2.2.2.2.2.2.2.2.2.1
theorem dX8_weighsBy_90 : decode cX8_weighsBy 90 = .ok (.iload_n 3, 1) := bX8_weighsBy_74.2.2.2.2.2.2.2.2.2.2.2.1
theorem dX8_weighsBy_91 : decode cX8_weighsBy 91 = .ok (.imul, 1) := bX8_weighsBy_74.2.2.2.2.2.2.2.2.2.2.2.2.1
theorem dX8_weighsBy_92 : decode cX8_weighsBy 92 = .ok (.iconst 1, 1) := bX8_weighsBy_74.2.2.2.2.2.2.2.2.2.2.2.2.2.1
theorem dX8_weighsBy_93 : decode cX8_weighsBy 93 = .ok (.isub, 1) := bX8_weighsBy_74.2.2.2.2.2.2.2.2.2.2.2.2.2.2.1
theorem dX8_weighsBy_94 : decode cX8_weighsBy 94 = .ok (.ireturn, 1) := bX8_weighsBy_74.2.2.2.2.2.2.2.2.2.2.2.2.2.2.2
theorem bX8_liftsBy_0 : (decode cX8_liftsBy 0 = .ok (.iconst 2, 1)) ∧ (decode cX8_liftsBy 1 = .ok (.iload_n 1, 1)) ∧ (decode cX8_liftsBy 2 = .ok (.imul, 1)) ∧ (decode cX8_liftsBy 3 = .ok (.iload_n 2, 1)) ∧ (decode cX8_liftsBy 4 = .ok (.bipush 30, 2)) ∧ (decode cX8_liftsBy 6 = .ok (.if_icmp .le 8, 3)) ∧ (decode cX8_liftsBy 9 = .ok (.bipush 30, 2)) ∧ (decode cX8_liftsBy 11 = .ok (.goto 4, 3)) ∧ (decode cX8_liftsBy 14 = .ok (.iload_n 2, 1)) ∧ (decode cX8_liftsBy 15 = .ok (.iconst 3, 1)) ∧ (decode cX8_liftsBy 16 = .ok (.idiv, 1)) ∧ (decode cX8_liftsBy 17 = .ok (.iadd, 1)) ∧ (decode cX8_liftsBy 18 = .ok (.istore_n 3, 1)) ∧ (decode cX8_liftsBy 19 = .ok (.iload_n 3, 1)) ∧ (decode cX8_liftsBy 20 = .ok (.istore 4, 2)) ∧ (decode cX8_liftsBy 22 = .ok (.iload_n 0, 1)) := by decide +kernel
theorem dX8_liftsBy_0 : decode cX8_liftsBy 0 = .ok (.iconst 2, 1) := bX8_liftsBy_0.1
theorem dX8_liftsBy_1 : decode cX8_liftsBy 1 = .ok (.iload_n 1, 1) := bX8_liftsBy_0.2.1
theorem dX8_liftsBy_2 : decode cX8_liftsBy 2 = .ok (.imul, 1) := bX8_liftsBy_0.2.2.1
theorem dX8_liftsBy_3 : decode cX8_liftsBy 3 = .ok (.iload_n 2, 1) := bX8_liftsBy_0.2.2.2.1
theorem dX8_liftsBy_4 : decode cX8_liftsBy 4 = .ok (.bipush 30, 2) := bX8_liftsBy_0.2.2.2.2.1
theorem dX8_liftsBy_6 : decode cX8_liftsBy 6 = .ok (.if_icmp .le 8, 3) := bX8_liftsBy_0.2.2.2.2.2.1
theorem dX8_liftsBy_9 : decode cX8_liftsBy 9 = .ok (.bipush 30, 2) := bX8_liftsBy_0.2.2.2.2.2.2.1
theorem dX8_liftsBy_11 : decode cX8_liftsBy 11 = .ok (.goto 4, 3) := bX8_liftsBy_0.2.2.2.2.2.2.2.1
theorem dX8_liftsBy_14 : decode cX8_liftsBy 14 = .ok (.iload_n 2, 1) := bX8_liftsBy_0.2.2.2.2.2.2.2.2.1
theorem dX8_liftsBy_15 : decode cX8_liftsBy 15 = .ok (.iconst 3, 1) := bX8_liftsBy_0.2.2.2.2.2.2.2.2.2.1
theorem dX8_liftsBy_16 : decode cX8_liftsBy 16 = .ok (.idiv, 1) := bX8_liftsBy_0.2.2.2.2.2.2.2.2.2.2.1
theorem dX8_liftsBy_17 : decode cX8_liftsBy 17 = .ok (.iadd, 1) := bX8_liftsBy_0.2.2.2.2.2.2.2.2.2.2.2.1
theorem dX8_liftsBy_18 : decode cX8_liftsBy 18 = .ok (.istore_n 3, 1) := bX8_liftsBy_0.2.2.2.2.2.2.2.2.2.2.2.2.1
theorem dX8_liftsBy_19 : decode cX8_liftsBy 19 = .ok (.iload_n 3, 1) := bX8_liftsBy_0.2.2.2.2.2.2.2.2.2.2.2.2.2.1
theorem dX8_liftsBy_20 : decode cX8_liftsBy 20 = .ok (.istore 4, 2) := bX8_liftsBy_0.2.2.2.2.2.2.2.2.2.2.2.2.2.2.1
theorem dX8_liftsBy_22 : decode cX8_liftsBy 22 = .ok (.iload_n 0, 1) := bX8_liftsBy_0.2.2.2.2.2.2.2.2.2.2.2.2.2.2.2
theorem bX8_liftsBy_23 : (decode cX8_liftsBy 23 = .ok (.tableswitch 94 0 4 #[33, 35, 40, 44, 72], 33)) ∧ (decode cX8_liftsBy 56 = .ok (.iload_n 3, 1)) ∧ (decode cX8_liftsBy 57 = .ok (.ireturn, 1)) ∧ (decode cX8_liftsBy 58 = .ok (.iload_n 3, 1)) ∧ (decode cX8_liftsBy 59 = .ok (.bipush 8, 2)) ∧ (decode cX8_liftsBy 61 = .ok (.iadd, 1)) ∧ (decode cX8_liftsBy 62 = .ok (.ireturn, 1)) ∧ (decode cX8_liftsBy 63 = .ok (.iload_n 3, 1)) ∧ (decode cX8_liftsBy 64 = .ok (.iconst 2, 1)) ∧ (decode cX8_liftsBy 65 = .ok (.idiv, 1)) ∧ (decode cX8_liftsBy 66 = .ok (.ireturn, 1)) ∧ (decode cX8_liftsBy 67 = .ok (.iload_n 2, 1)) ∧ (decode cX8_liftsBy 68 = .ok (.bipush 18, 2)) ∧ (decode cX8_liftsBy 70 = .ok (.if_icmp .ge 10, 3)) ∧ (decode cX8_liftsBy 73 = .ok (.iload_n 3, 1)) ∧ (decode cX8_liftsBy 74 = .ok (.bipush 6, 2)) := by decide +kernel
theorem dX8_liftsBy_23 : decode cX8_liftsBy 23 = .ok (.tableswitch 94 0 4 #[33, 35, 40, 44, 72], 33) := bX8_liftsBy_23.1
theorem dX8_liftsBy_56 : decode cX8_liftsBy 56 = .ok (.iload_n 3, 1) := bX8_liftsBy_23.2.1
theorem dX8_liftsBy_57 : decode cX8_liftsBy 57 = .ok (.ireturn, 1) := bX8_liftsBy_23.2.2.1
theorem dX8_liftsBy_58 : decode cX8_liftsBy 58 = .ok (.iload_n 3, 1) := bX8_liftsBy_23.2.2.2.1
theorem dX8_liftsBy_59 : decode cX8_liftsBy 59 = .ok (.bipush 8, 2) := bX8_liftsBy_23.2.2.2.2.1
theorem dX8_liftsBy_61 : decode cX8_liftsBy 61 = .ok (.iadd, 1) := bX8_liftsBy_23.2.2.2.2.2.1
theorem dX8_liftsBy_62 : decode cX8_liftsBy 62 = .ok (.ireturn, 1) := bX8_liftsBy_23.2.2.2.2.2.2.1
theorem dX8_liftsBy_63 : decode cX8_liftsBy 63 = .ok (.iload_n 3, 1) := bX8_liftsBy_23.2.2.2.2.2.2.2.1
theorem dX8_liftsBy_64 : decode cX8_liftsBy 64 = .ok (.iconst 2, 1) := bX8_liftsBy_23.2.2.2.2.2.2.2.2.1
theorem dX8_liftsBy_65 : decode cX8_liftsBy 65 = .ok (.idiv, 1) := bX8_liftsBy_23.2.2.2.2.2.2.2.2.2.1
theorem dX8_liftsBy_66 : decode cX8_liftsBy 66 = .ok (.ireturn, 1) := bX8_liftsBy_23.2.2.2.2.2.2.2.2.2.2.1
theorem dX8_liftsBy_67 : decode cX8_liftsBy 67 = .ok (.iload_n 2, 1) := bX8_liftsBy_23.2.2.2.2.2.2.2.2.2.2.2.1
theorem dX8_liftsBy_68 : decode cX8_liftsBy 68 = .ok (.bipush 18, 2) := bX8_liftsBy_23.2.2.2.2.2.2.2.2.2.2.2.2.1
theorem dX8_liftsBy_70 : decode cX8_liftsBy 70 = .ok (.if_icmp .ge 10, 3) := bX8_liftsBy_23.2.2.2.2.2.2.2.2.2.2.2.2.2.1
theorem dX8_liftsBy_73 : decode cX8_liftsBy 73 = .ok (.iload_n 3, 1) := bX8_liftsBy_23.2.2.2.2.2.2.2.2.2.2.2.2.2.2.1
theorem dX8_liftsBy_74 : decode cX8_liftsBy 74 = .ok (.bipush 6, 2) := bX8_liftsBy_23.2.2.2.2.2.2.2.2.2.2.2.2.2.2.2
theorem bX8_liftsBy_76 : (decode cX8_liftsBy 76 = .ok (.isub, 1)) ∧ (decode cX8_liftsBy 77 = .ok (.goto 4, 3)) ∧ (decode cX8_liftsBy 80 = .ok (.iload_n 3, 1)) ∧ (decode cX8_liftsBy 81 = .ok (.istore 4, 2)) ∧ (decode cX8_liftsBy 83 = .ok (.iload 4, 2)) ∧ (decode cX8_liftsBy 85 = .ok (.ifCond .ge 7, 3)) ∧ (decode cX8_liftsBy 88 = .ok (.iconst 0, 1)) ∧ (decode cX8_liftsBy 89 = .ok (.goto 5, 3)) ∧ (decode cX8_liftsBy 92 = .ok (.iload 4, 2)) ∧ (decode cX8_liftsBy 94 = .ok (.ireturn, 1)) ∧ (decode cX8_liftsBy 95 = .ok (.iload_n 2, 1)) ∧ (decode cX8_liftsBy 96 = .ok (.bipush 10, 2)) ∧ (decode cX8_liftsBy 98 = .ok (.irem, 1)) ∧ (decode cX8_liftsBy 99 = .ok (.iconst 5, 1)) ∧ (decode cX8_liftsBy 100 = .ok (.if_icmp .ne 12, 3)) ∧ (decode cX8_liftsBy 103 = .ok (.iconst 2, 1)) := by decide +kernel
theorem dX8_liftsBy_76 : decode cX8_liftsBy 76 = .ok (.isub, 1) := bX8_liftsBy_76.1
theorem dX8_liftsBy_77 : decode cX8_liftsBy 77 = .ok (.goto 4, 3) := bX8_liftsBy_76.2.1
theorem dX8_liftsBy_80 : decode cX8_liftsBy 80 = .ok (.iload_n 3, 1) := bX8_liftsBy_76.2.2.1
theorem dX8_liftsBy_81 : decode cX8_liftsBy 81 = .ok (.istore 4, 2) := bX8_liftsBy_76.2.2.2.1
theorem dX8_liftsBy_83 : decode cX8_liftsBy 83 = .ok (.iload 4, 2) := bX8_liftsBy_76.2.2.2.2.1
theorem dX8_liftsBy_85 : decode cX8_liftsBy 85 = .ok (.ifCond .ge 7, 3) := bX8_liftsBy_76.2.2.2.2.2.1
theorem dX8_liftsBy_88 : decode cX8_liftsBy 88 = .ok (.iconst 0, 1) := bX8_liftsBy_76.2.2.2.2.2.2.1
theorem dX8_liftsBy_89 : decode cX8_liftsBy 89 = .ok (.goto 5, 3) := bX8_liftsBy_76.2.2.2.2.2.2.2.1
theorem dX8_liftsBy_92 : decode cX8_liftsBy 92 = .ok (.iload 4, 2) := bX8_liftsBy_76.2.2.2.2.2.2.2.2.1
theorem dX8_liftsBy_94 : decode cX8_liftsBy 94 = .ok (.ireturn, 1) := bX8_liftsBy_76.2.2.2.2.2.2.2.2.2.1
theorem dX8_liftsBy_95 : decode cX8_liftsBy 95 = .ok (.iload_n 2, 1) := bX8_liftsBy_76.2.2.2.2.2.2.2.2.2.2.1
theorem dX8_liftsBy_96 : decode cX8_liftsBy 96 = .ok (.bipush 10, 2) := bX8_liftsBy_76.2.2.2.2.2.2.2.2.2.2.2.1
theorem dX8_liftsBy_98 : decode cX8_liftsBy 98 = .ok (.irem, 1) := bX8_liftsBy_76.2.2.2.2.2.2.2.2.2.2.2.2.1
theorem dX8_liftsBy_99 : decode cX8_liftsBy 99 = .ok (.iconst 5, 1) := bX8_liftsBy_76.2.2.2.2.2.2.2.2.2.2.2.2.2.1
theorem dX8_liftsBy_100 : decode cX8_liftsBy 100 = .ok (.if_icmp .ne 12, 3) := bX8_liftsBy_76.2.2.2.2.2.2.2.2.2.2.2.2.2.2.1
theorem dX8_liftsBy_103 : decode cX8_liftsBy 103 = .ok (.iconst 2, 1) := bX8_liftsBy_76.2.2.2.2.2.2.2.2.2.2.2.2.2.2.2
theorem bX8_liftsBy_104 : (decode cX8_liftsBy 104 = .ok (.iload_n 3, 1)) ∧ (decode cX8_liftsBy 105 = .ok (.bipush 8, 2)) ∧ (decode cX8_liftsBy 107 = .ok (.iadd, 1)) ∧ (decode cX8_liftsBy 108 = .ok (.imul, 1)) ∧ (decode cX8_liftsBy 109 = .ok (.goto 7, 3)) ∧ (decode cX8_liftsBy 112 = .ok (.iload_n 3, 1)) ∧ (decode cX8_liftsBy 113 = .ok (.bipush 8, 2)) ∧ (decode cX8_liftsBy 115 = .ok (.iadd, 1)) ∧ (decode cX8_liftsBy 116 = .ok (.ireturn, 1)) ∧ (decode cX8_liftsBy 117 = .ok (.iload_n 3, 1)) ∧ (decode cX8_liftsBy 118 = .ok (.iconst 2, 1)) ∧ (decode cX8_liftsBy 119 = .ok (.idiv, 1)) ∧ (decode cX8_liftsBy 120 = .ok (.iload_n 2, 1)) ∧ (decode cX8_liftsBy 121 = .ok (.bipush 60, 2)) ∧ (decode cX8_liftsBy 123 = .ok (.if_icmp .le 12, 3)) ∧ (decode cX8_liftsBy 126 = .ok (.iload_n 2, 1)) := by decide +kernel
theorem dX8_liftsBy_104 : decode cX8_liftsBy 104 = .ok (.iload_n 3, 1) := bX8_liftsBy_104.1
theorem dX8_liftsBy_105 : decode cX8_liftsBy 105 = .ok (.bipush 8, 2) := bX8_liftsBy_104.2.1
theorem dX8_liftsBy_107 : decode cX8_liftsBy 107 = .ok (.iadd, 1) := bX8_liftsBy_104.2.2.1
theorem dX8_liftsBy_108 : decode cX8_liftsBy 108 = .ok (.imul, 1) := bX8_liftsBy_104.2.2.2.1
theorem dX8_liftsBy_109 : decode cX8_liftsBy 109 = .ok (.goto 7, 3) := bX8_liftsBy_104.2.2.2.2.1
theorem dX8_liftsBy_112 : decode cX8_liftsBy 112 = .ok (.iload_n 3, 1) := bX8_liftsBy_104.2.2.2.2.2.1
theorem dX8_liftsBy_113 : decode cX8_liftsBy 113 = .ok (.bipush 8, 2) := bX8_liftsBy_104.2.2.2.2.2.2.1
theorem dX8_liftsBy_115 : decode cX8_liftsBy 115 = .ok (.iadd, 1) := bX8_liftsBy_104.2.2.2.2.2.2.2.1
theorem dX8_liftsBy_116 : decode cX8_liftsBy 116 = .ok (.ireturn, 1) := bX8_liftsBy_104.2.2.2.2.2.2.2.2.1
theorem dX8_liftsBy_117 : decode cX8_liftsBy 117 = .ok (.iload_n 3, 1) := bX8_liftsBy_104.2.2.2.2.2.2.2.2.2.1
theorem dX8_liftsBy_118 : decode cX8_liftsBy 118 = .ok (.iconst 2, 1) := bX8_liftsBy_104.2.2.2.2.2.2.2.2.2.2.1
theorem dX8_liftsBy_119 : decode cX8_liftsBy 119 = .ok (.idiv, 1) := bX8_liftsBy_104.2.2.2.2.2.2.2.2.2.2.2.1
theorem dX8_liftsBy_120 : decode cX8_liftsBy 120 = .ok (.iload_n 2, 1) := bX8_liftsBy_104.2.2.2.2.2.2.2.2.2.2.2.2.1
theorem dX8_liftsBy_121 : decode cX8_liftsBy 121 = .ok (.bipush 60, 2) := bX8_liftsBy_104.2.2.2.2.2.2.2.2.2.2.2.2.2.1
theorem dX8_liftsBy_123 : decode cX8_liftsBy 123 = .ok (.if_icmp .le 12, 3) := bX8_liftsBy_104.2.2.2.2.2.2.2.2.2.2.2.2.2.2.1
theorem dX8_liftsBy_126 : decode cX8_liftsBy 126 = .ok (.iload_n 2, 1) := bX8_liftsBy_104.2.2.2.2.2.2.2.2.2.2.2.2.2.2.2
theorem bX8_liftsBy_127 : (decode cX8_liftsBy 127 = .ok (.bipush 60, 2)) ∧ (decode cX8_liftsBy 129 = .ok (.isub, 1)) ∧ (decode cX8_liftsBy 130 = .ok (.iconst 5, 1)) ∧ (decode cX8_liftsBy 131 = .ok (.idiv, 1)) ∧ (decode cX8_liftsBy 132 = .ok (.goto 4, 3)) ∧ (decode cX8_liftsBy 135 = .ok (.iconst 0, 1)) ∧ (decode cX8_liftsBy 136 = .ok (.isub, 1)) ∧ (decode cX8_liftsBy 137 = .ok (.istore 4, 2)) ∧ (decode cX8_liftsBy 139 = .ok (.iload 4, 2)) ∧ (decode cX8_liftsBy 141 = .ok (.ifCond .ge 7, 3)) ∧ (decode cX8_liftsBy 144 = .ok (.iconst 0, 1)) ∧ (decode cX8_liftsBy 145 = .ok (.goto 5, 3)) ∧ (decode cX8_liftsBy 148 = .ok (.iload 4, 2)) ∧ (decode cX8_liftsBy 150 = .ok (.ireturn, 1)) := by decide +kernel
theorem dX8_liftsBy_127 : decode cX8_liftsBy 127 = .ok (.bipush 60, 2) := bX8_liftsBy_127.1
theorem dX8_liftsBy_129 : decode cX8_liftsBy 129 = .ok (.isub, 1) := bX8_liftsBy_127.2.1
theorem dX8_liftsBy_130 : decode cX8_liftsBy 130 = .ok (.iconst 5, 1) := bX8_liftsBy_127.2.2.1
theorem dX8_liftsBy_131 : decode cX8_liftsBy 131 = .ok (.idiv, 1) := bX8_liftsBy_127.2.2.2.1
theorem dX8_liftsBy_132 : decode cX8_liftsBy 132 = .ok (.goto 4, 3) := bX8_liftsBy_127.2.2.2.2.1
theorem dX8_liftsBy_135 : decode cX8_liftsBy 135 = .ok (.iconst 0, 1) := bX8_liftsBy_127.2.2.2.2.2.1
theorem dX8_liftsBy_136 : decode cX8_liftsBy 136 = .ok (.isub, 1) := bX8_liftsBy_127.2.2.2.2.2.2.1
theorem dX8_liftsBy_137 : decode cX8_liftsBy 137 = .ok (.istore 4, 2) := bX8_liftsBy_127.2.2.2.2.2.2.2.1
theorem dX8_liftsBy_139 : decode cX8_liftsBy 139 = .ok (.iload 4, 2) := bX8_liftsBy_127.2.2.2.2.2.2.2.2.1
theorem dX8_liftsBy_141 : decode cX8_liftsBy 141 = .ok (.ifCond .ge 7, 3) := bX8_liftsBy_127.2.2.2.2.2.2.2.2.2.1
theorem dX8_liftsBy_144 : decode cX8_liftsBy 144 = .ok (.iconst 0, 1) := bX8_liftsBy_127.2.2.2.2.2.2.2.2.2.2.1
theorem dX8_liftsBy_145 : decode cX8_liftsBy 145 = .ok (.goto 5, 3) := bX8_liftsBy_127.2.2.2.2.2.2.2.2.2.2.2.1
theorem dX8_liftsBy_148 : decode cX8_liftsBy 148 = .ok (.iload 4, 2) := bX8_liftsBy_127.2.2.2.2.2.2.2.2.2.2.2.2.1
theorem dX8_liftsBy_150 : decode cX8_liftsBy 150 = .ok (.ireturn, 1) := bX8_liftsBy_127.2.2.2.2.2.2.2.2.2.2.2.2.2
theorem bX8_weighsOf_0 : (decode cX8_weighsOf 0 = .ok (.aload_n 0, 1)) ∧ (decode cX8_weighsOf 1 = .ok (.getfield 13, 3)) ∧ (decode cX8_weighsOf 4 = .ok (.iload_n 1, 1)) ∧ (decode cX8_weighsOf 5 = .ok (.bipush 6, 2)) ∧ (decode cX8_weighsOf 7 = .ok (.iadd, 1)) ∧ (decode cX8_weighsOf 8 = .ok (.iload_n 2, 1)) ∧ (decode cX8_weighsOf 9 = .ok (.iadd, 1)) ∧ (decode cX8_weighsOf 10 = .ok (.iaload, 1)) ∧ (decode cX8_weighsOf 11 = .ok (.aload_n 0, 1)) ∧ (decode cX8_weighsOf 12 = .ok (.getfield 13, 3)) ∧ (decode cX8_weighsOf 15 = .ok (.iload_n 1, 1)) ∧ (decode cX8_weighsOf 16 = .ok (.bipush 13, 2)) ∧ (decode cX8_weighsOf 18 = .ok (.iadd, 1)) ∧ (decode cX8_weighsOf 19 = .ok (.iload_n 2, 1)) ∧ (decode cX8_weighsOf 20 = .ok (.iadd, 1)) ∧ (decode cX8_weighsOf 21 = .ok (.iaload, 1)) := by decide +kernel
theorem dX8_weighsOf_0 : decode cX8_weighsOf 0 = .ok (.aload_n 0, 1) := bX8_weighsOf_0.1
theorem dX8_weighsOf_1 : decode cX8_weighsOf 1 = .ok (.getfield 13, 3) := bX8_weighsOf_0.2.1
theorem dX8_weighsOf_4 : decode cX8_weighsOf 4 = .ok (.iload_n 1, 1) := bX8_weighsOf_0.2.2.1
theorem dX8_weighsOf_5 : decode cX8_weighsOf 5 = .ok (.bipush 6, 2) := bX8_weighsOf_0.2.2.2.1
theorem dX8_weighsOf_7 : decode cX8_weighsOf 7 = .ok (.iadd, 1) := bX8_weighsOf_0.2.2.2.2.1
theorem dX8_weighsOf_8 : decode cX8_weighsOf 8 = .ok (.iload_n 2, 1) := bX8_weighsOf_0.2.2.2.2.2.1
theorem dX8_weighsOf_9 : decode cX8_weighsOf 9 = .ok (.iadd, 1) := bX8_weighsOf_0.2.2.2.2.2.2.1
theorem dX8_weighsOf_10 : decode cX8_weighsOf 10 = .ok (.iaload, 1) := bX8_weighsOf_0.2.2.2.2.2.2.2.1
theorem dX8_weighsOf_11 : decode cX8_weighsOf 11 = .ok (.aload_n 0, 1) := bX8_weighsOf_0.2.2.2.2.2.2.2.2.1
theorem dX8_weighsOf_12 : decode cX8_weighsOf 12 = .ok (.getfield 13, 3) := bX8_weighsOf_0.2.2.2.2.2.2.2.2.2.1
theorem dX8_weighsOf_15 : decode cX8_weighsOf 15 = .ok (.iload_n 1, 1) := bX8_weighsOf_0.2.2.2.2.2.2.2.2.2.2.1
theorem dX8_weighsOf_16 : decode cX8_weighsOf 16 = .ok (.bipush 13, 2) := bX8_weighsOf_0.2.2.2.2.2.2.2.2.2.2.2.1
theorem dX8_weighsOf_18 : decode cX8_weighsOf 18 = .ok (.iadd, 1) := bX8_weighsOf_0.2.2.2.2.2.2.2.2.2.2.2.2.1
theorem dX8_weighsOf_19 : decode cX8_weighsOf 19 = .ok (.iload_n 2, 1) := bX8_weighsOf_0.2.2.2.2.2.2.2.2.2.2.2.2.2.1
theorem dX8_weighsOf_20 : decode cX8_weighsOf 20 = .ok (.iadd, 1) := bX8_weighsOf_0.2.2.2.2.2.2.2.2.2.2.2.2.2.2.1
theorem dX8_weighsOf_21 : decode cX8_weighsOf 21 = .ok (.iaload, 1) := bX8_weighsOf_0.2.2.2.2.2.2.2.2.2.2.2.2.2.2.2
theorem bX8_weighsOf_22 : (decode cX8_weighsOf 22 = .ok (.iload_n 3, 1)) ∧ (decode cX8_weighsOf 23 = .ok (.invokestatic 48, 3)) ∧ (decode cX8_weighsOf 26 = .ok (.ireturn, 1)) := by decide +kernel
theorem dX8_weighsOf_22 : decode cX8_weighsOf 22 = .ok (.iload_n 3, 1) := bX8_weighsOf_22.1
theorem dX8_weighsOf_23 : decode cX8_weighsOf 23 = .ok (.invokestatic 48, 3) := bX8_weighsOf_22.2.1
theorem dX8_weighsOf_26 : decode cX8_weighsOf 26 = .ok (.ireturn, 1) := bX8_weighsOf_22.2.2
theorem bX8_liftsOf_0 : (decode cX8_liftsOf 0 = .ok (.aload_n 0, 1)) ∧ (decode cX8_liftsOf 1 = .ok (.getfield 13, 3)) ∧ (decode cX8_liftsOf 4 = .ok (.iload_n 1, 1)) ∧ (decode cX8_liftsOf 5 = .ok (.bipush 20, 2)) ∧ (decode cX8_liftsOf 7 = .ok (.iadd, 1)) ∧ (decode cX8_liftsOf 8 = .ok (.iload_n 2, 1)) ∧ (decode cX8_liftsOf 9 = .ok (.iadd, 1)) ∧ (decode cX8_liftsOf 10 = .ok (.iaload, 1)) ∧ (decode cX8_liftsOf 11 = .ok (.aload_n 0, 1)) ∧ (decode cX8_liftsOf 12 = .ok (.getfield 13, 3)) ∧ (decode cX8_liftsOf 15 = .ok (.iload_n 1, 1)) ∧ (decode cX8_liftsOf 16 = .ok (.bipush 27, 2)) ∧ (decode cX8_liftsOf 18 = .ok (.iadd, 1)) ∧ (decode cX8_liftsOf 19 = .ok (.iload_n 2, 1)) ∧ (decode cX8_liftsOf 20 = .ok (.iadd, 1)) ∧ (decode cX8_liftsOf 21 = .ok (.iaload, 1)) := by decide +kernel
theorem dX8_liftsOf_0 : decode cX8_liftsOf 0 = .ok (.aload_n 0, 1) := bX8_liftsOf_0.1
theorem dX8_liftsOf_1 : decode cX8_liftsOf 1 = .ok (.getfield 13, 3) := bX8_liftsOf_0.2.1
theorem dX8_liftsOf_4 : decode cX8_liftsOf 4 = .ok (.iload_n 1, 1) := bX8_liftsOf_0.2.2.1
theorem dX8_liftsOf_5 : decode cX8_liftsOf 5 = .ok (.bipush 20, 2) := bX8_liftsOf_0.2.2.2.1
theorem dX8_liftsOf_7 : decode cX8_liftsOf 7 = .ok (.iadd, 1) := bX8_liftsOf_0.2.2.2.2.1
theorem dX8_liftsOf_8 : decode cX8_liftsOf 8 = .ok (.iload_n 2, 1) := bX8_liftsOf_0.2.2.2.2.2.1
theorem dX8_liftsOf_9 : decode cX8_liftsOf 9 = .ok (.iadd, 1) := bX8_liftsOf_0.2.2.2.2.2.2.1
theorem dX8_liftsOf_10 : decode cX8_liftsOf 10 = .ok (.iaload, 1) := bX8_liftsOf_0.2.2.2.2.2.2.2.1
theorem dX8_liftsOf_11 : decode cX8_liftsOf 11 = .ok (.aload_n 0, 1) := bX8_liftsOf_0.2.2.2.2.2.2.2.2.1
theorem dX8_liftsOf_12 : decode cX8_liftsOf 12 = .ok (.getfield 13, 3) := bX8_liftsOf_0.2.2.2.2.2.2.2.2.2.1
theorem dX8_liftsOf_15 : decode cX8_liftsOf 15 = .ok (.iload_n 1, 1) := bX8_liftsOf_0.2.2.2.2.2.2.2.2.2.2.1
theorem dX8_liftsOf_16 : decode cX8_liftsOf 16 = .ok (.bipush 27, 2) := bX8_liftsOf_0.2.2.2.2.2.2.2.2.2.2.2.1
theorem dX8_liftsOf_18 : decode cX8_liftsOf 18 = .ok (.iadd, 1) := bX8_liftsOf_0.2.2.2.2.2.2.2.2.2.2.2.2.1
theorem dX8_liftsOf_19 : decode cX8_liftsOf 19 = .ok (.iload_n 2, 1) := bX8_liftsOf_0.2.2.2.2.2.2.2.2.2.2.2.2.2.1
theorem dX8_liftsOf_20 : decode cX8_liftsOf 20 = .ok (.iadd, 1) := bX8_liftsOf_0.2.2.2.2.2.2.2.2.2.2.2.2.2.2.1
theorem dX8_liftsOf_21 : decode cX8_liftsOf 21 = .ok (.iaload, 1) := bX8_liftsOf_0.2.2.2.2.2.2.2.2.2.2.2.2.2.2.2
theorem bX8_liftsOf_22 : (decode cX8_liftsOf 22 = .ok (.iload_n 3, 1)) ∧ (decode cX8_liftsOf 23 = .ok (.invokestatic 52, 3)) ∧ (decode cX8_liftsOf 26 = .ok (.ireturn, 1)) := by decide +kernel
theorem dX8_liftsOf_22 : decode cX8_liftsOf 22 = .ok (.iload_n 3, 1) := bX8_liftsOf_22.1
theorem dX8_liftsOf_23 : decode cX8_liftsOf 23 = .ok (.invokestatic 52, 3) := bX8_liftsOf_22.2.1
theorem dX8_liftsOf_26 : decode cX8_liftsOf 26 = .ok (.ireturn, 1) := bX8_liftsOf_22.2.2
theorem bX8_isHeld_0 : (decode cX8_isHeld 0 = .ok (.aload_n 2, 1)) ∧ (decode cX8_isHeld 1 = .ok (.iload_n 3, 1)) ∧ (decode cX8_isHeld 2 = .ok (.bipush 9, 2)) ∧ (decode cX8_isHeld 4 = .ok (.iadd, 1)) ∧ (decode cX8_isHeld 5 = .ok (.iload 4, 2)) ∧ (decode cX8_isHeld 7 = .ok (.iadd, 1)) ∧ (decode cX8_isHeld 8 = .ok (.iaload, 1)) ∧ (decode cX8_isHeld 9 = .ok (.istore 5, 2)) ∧ (decode cX8_isHeld 11 = .ok (.iload 5, 2)) ∧ (decode cX8_isHeld 13 = .ok (.iconst (-1), 1)) ∧ (decode cX8_isHeld 14 = .ok (.if_icmp .eq 37, 3)) ∧ (decode cX8_isHeld 17 = .ok (.aload_n 0, 1)) ∧ (decode cX8_isHeld 18 = .ok (.iload_n 1, 1)) ∧ (decode cX8_isHeld 19 = .ok (.iload 5, 2)) ∧ (decode cX8_isHeld 21 = .ok (.aload_n 2, 1)) ∧ (decode cX8_isHeld 22 = .ok (.iload_n 3, 1)) := by decide +kernel
theorem dX8_isHeld_0 : decode cX8_isHeld 0 = .ok (.aload_n 2, 1) := bX8_isHeld_0.1
theorem dX8_isHeld_1 : decode cX8_isHeld 1 = .ok (.iload_n 3, 1) := bX8_isHeld_0.2.1
theorem dX8_isHeld_2 : decode cX8_isHeld 2 = .ok (.bipush 9, 2) := bX8_isHeld_0.2.2.1
theorem dX8_isHeld_4 : decode cX8_isHeld 4 = .ok (.iadd, 1) := bX8_isHeld_0.2.2.2.1
theorem dX8_isHeld_5 : decode cX8_isHeld 5 = .ok (.iload 4, 2) := bX8_isHeld_0.2.2.2.2.1
theorem dX8_isHeld_7 : decode cX8_isHeld 7 = .ok (.iadd, 1) := bX8_isHeld_0.2.2.2.2.2.1
theorem dX8_isHeld_8 : decode cX8_isHeld 8 = .ok (.iaload, 1) := bX8_isHeld_0.2.2.2.2.2.2.1
theorem dX8_isHeld_9 : decode cX8_isHeld 9 = .ok (.istore 5, 2) := bX8_isHeld_0.2.2.2.2.2.2.2.1
theorem dX8_isHeld_11 : decode cX8_isHeld 11 = .ok (.iload 5, 2) := bX8_isHeld_0.2.2.2.2.2.2.2.2.1
theorem dX8_isHeld_13 : decode cX8_isHeld 13 = .ok (.iconst (-1), 1) := bX8_isHeld_0.2.2.2.2.2.2.2.2.2.1
theorem dX8_isHeld_14 : decode cX8_isHeld 14 = .ok (.if_icmp .eq 37, 3) := bX8_isHeld_0.2.2.2.2.2.2.2.2.2.2.1
theorem dX8_isHeld_17 : decode cX8_isHeld 17 = .ok (.aload_n 0, 1) := bX8_isHeld_0.2.2.2.2.2.2.2.2.2.2.2.1
theorem dX8_isHeld_18 : decode cX8_isHeld 18 = .ok (.iload_n 1, 1) := bX8_isHeld_0.2.2.2.2.2.2.2.2.2.2.2.2.1
theorem dX8_isHeld_19 : decode cX8_isHeld 19 = .ok (.iload 5, 2) := bX8_isHeld_0.2.2.2.2.2.2.2.2.2.2.2.2.2.1
theorem dX8_isHeld_21 : decode cX8_isHeld 21 = .ok (.aload_n 2, 1) := bX8_isHeld_0.2.2.2.2.2.2.2.2.2.2.2.2.2.2.1
theorem dX8_isHeld_22 : decode cX8_isHeld 22 = .ok (.iload_n 3, 1) := bX8_isHeld_0.2.2.2.2.2.2.2.2.2.2.2.2.2.2.2
theorem bX8_isHeld_23 : (decode cX8_isHeld 23 = .ok (.iconst 0, 1)) ∧ (decode cX8_isHeld 24 = .ok (.iadd, 1)) ∧ (decode cX8_isHeld 25 = .ok (.iaload, 1)) ∧ (decode cX8_isHeld 26 = .ok (.invokevirtual 55, 3)) ∧ (decode cX8_isHeld 29 = .ok (.aload_n 0, 1)) ∧ (decode cX8_isHeld 30 = .ok (.iload_n 1, 1)) ∧ (decode cX8_isHeld 31 = .ok (.iload 4, 2)) ∧ (decode cX8_isHeld 33 = .ok (.aload_n 2, 1)) ∧ (decode cX8_isHeld 34 = .ok (.iload_n 3, 1)) ∧ (decode cX8_isHeld 35 = .ok (.iconst 2, 1)) ∧ (decode cX8_isHeld 36 = .ok (.iadd, 1)) ∧ (decode cX8_isHeld 37 = .ok (.iload 4, 2)) ∧ (decode cX8_isHeld 39 = .ok (.iadd, 1)) ∧ (decode cX8_isHeld 40 = .ok (.iaload, 1)) ∧ (decode cX8_isHeld 41 = .ok (.invokevirtual 58, 3)) ∧ (decode cX8_isHeld 44 = .ok (.if_icmp .le 7, 3)) := by decide +kernel
theorem dX8_isHeld_23 : decode cX8_isHeld 23 = .ok (.iconst 0, 1) := bX8_isHeld_23.1
theorem dX8_isHeld_24 : decode cX8_isHeld 24 = .ok (.iadd, 1) := bX8_isHeld_23.2.1
theorem dX8_isHeld_25 : decode cX8_isHeld 25 = .ok (.iaload, 1) := bX8_isHeld_23.2.2.1
theorem dX8_isHeld_26 : decode cX8_isHeld 26 = .ok (.invokevirtual 55, 3) := bX8_isHeld_23.2.2.2.1
theorem dX8_isHeld_29 : decode cX8_isHeld 29 = .ok (.aload_n 0, 1) := bX8_isHeld_23.2.2.2.2.1
theorem dX8_isHeld_30 : decode cX8_isHeld 30 = .ok (.iload_n 1, 1) := bX8_isHeld_23.2.2.2.2.2.1
theorem dX8_isHeld_31 : decode cX8_isHeld 31 = .ok (.iload 4, 2) := bX8_isHeld_23.2.2.2.2.2.2.1
theorem dX8_isHeld_33 : decode cX8_isHeld 33 = .ok (.aload_n 2, 1) := bX8_isHeld_23.2.2.2.2.2.2.2.1
theorem dX8_isHeld_34 : decode cX8_isHeld 34 = .ok (.iload_n 3, 1) := bX8_isHeld_23.2.2.2.2.2.2.2.2.1
theorem dX8_isHeld_35 : decode cX8_isHeld 35 = .ok (.iconst 2, 1) := bX8_isHeld_23.2.2.2.2.2.2.2.2.2.1
theorem dX8_isHeld_36 : decode cX8_isHeld 36 = .ok (.iadd, 1) := bX8_isHeld_23.2.2.2.2.2.2.2.2.2.2.1
theorem dX8_isHeld_37 : decode cX8_isHeld 37 = .ok (.iload 4, 2) := bX8_isHeld_23.2.2.2.2.2.2.2.2.2.2.2.1
theorem dX8_isHeld_39 : decode cX8_isHeld 39 = .ok (.iadd, 1) := bX8_isHeld_23.2.2.2.2.2.2.2.2.2.2.2.2.1
theorem dX8_isHeld_40 : decode cX8_isHeld 40 = .ok (.iaload, 1) := bX8_isHeld_23.2.2.2.2.2.2.2.2.2.2.2.2.2.1
theorem dX8_isHeld_41 : decode cX8_isHeld 41 = .ok (.invokevirtual 58, 3) := bX8_isHeld_23.2.2.2.2.2.2.2.2.2.2.2.2.2.2.1
theorem dX8_isHeld_44 : decode cX8_isHeld 44 = .ok (.if_icmp .le 7, 3) := bX8_isHeld_23.2.2.2.2.2.2.2.2.2.2.2.2.2.2.2
theorem bX8_isHeld_47 : (decode cX8_isHeld 47 = .ok (.iconst 1, 1)) ∧ (decode cX8_isHeld 48 = .ok (.goto 4, 3)) ∧ (decode cX8_isHeld 51 = .ok (.iconst 0, 1)) ∧ (decode cX8_isHeld 52 = .ok (.ireturn, 1)) := by decide +kernel
theorem dX8_isHeld_47 : decode cX8_isHeld 47 = .ok (.iconst 1, 1) := bX8_isHeld_47.1
theorem dX8_isHeld_48 : decode cX8_isHeld 48 = .ok (.goto 4, 3) := bX8_isHeld_47.2.1
theorem dX8_isHeld_51 : decode cX8_isHeld 51 = .ok (.iconst 0, 1) := bX8_isHeld_47.2.2.1
theorem dX8_isHeld_52 : decode cX8_isHeld 52 = .ok (.ireturn, 1) := bX8_isHeld_47.2.2.2
theorem bX8_passOn_0 : (decode cX8_passOn 0 = .ok (.aload_n 2, 1)) ∧ (decode cX8_passOn 1 = .ok (.iload_n 3, 1)) ∧ (decode cX8_passOn 2 = .ok (.iconst 1, 1)) ∧ (decode cX8_passOn 3 = .ok (.iadd, 1)) ∧ (decode cX8_passOn 4 = .ok (.iaload, 1)) ∧ (decode cX8_passOn 5 = .ok (.istore 4, 2)) ∧ (decode cX8_passOn 7 = .ok (.iconst 0, 1)) ∧ (decode cX8_passOn 8 = .ok (.istore 5, 2)) ∧ (decode cX8_passOn 10 = .ok (.iload 5, 2)) ∧ (decode cX8_passOn 12 = .ok (.aload_n 0, 1)) ∧ (decode cX8_passOn 13 = .ok (.getfield 13, 3)) ∧ (decode cX8_passOn 16 = .ok (.iload_n 1, 1)) ∧ (decode cX8_passOn 17 = .ok (.iconst 1, 1)) ∧ (decode cX8_passOn 18 = .ok (.iadd, 1)) ∧ (decode cX8_passOn 19 = .ok (.iaload, 1)) ∧ (decode cX8_passOn 20 = .ok (.if_icmp .ge 85, 3)) := by decide +kernel
theorem dX8_passOn_0 : decode cX8_passOn 0 = .ok (.aload_n 2, 1) := bX8_passOn_0.1
theorem dX8_passOn_1 : decode cX8_passOn 1 = .ok (.iload_n 3, 1) := bX8_passOn_0.2.1
theorem dX8_passOn_2 : decode cX8_passOn 2 = .ok (.iconst 1, 1) := bX8_passOn_0.2.2.1
theorem dX8_passOn_3 : decode cX8_passOn 3 = .ok (.iadd, 1) := bX8_passOn_0.2.2.2.1
theorem dX8_passOn_4 : decode cX8_passOn 4 = .ok (.iaload, 1) := bX8_passOn_0.2.2.2.2.1
theorem dX8_passOn_5 : decode cX8_passOn 5 = .ok (.istore 4, 2) := bX8_passOn_0.2.2.2.2.2.1
theorem dX8_passOn_7 : decode cX8_passOn 7 = .ok (.iconst 0, 1) := bX8_passOn_0.2.2.2.2.2.2.1
theorem dX8_passOn_8 : decode cX8_passOn 8 = .ok (.istore 5, 2) := bX8_passOn_0.2.2.2.2.2.2.2.1
theorem dX8_passOn_10 : decode cX8_passOn 10 = .ok (.iload 5, 2) := bX8_passOn_0.2.2.2.2.2.2.2.2.1
theorem dX8_passOn_12 : decode cX8_passOn 12 = .ok (.aload_n 0, 1) := bX8_passOn_0.2.2.2.2.2.2.2.2.2.1
theorem dX8_passOn_13 : decode cX8_passOn 13 = .ok (.getfield 13, 3) := bX8_passOn_0.2.2.2.2.2.2.2.2.2.2.1
theorem dX8_passOn_16 : decode cX8_passOn 16 = .ok (.iload_n 1, 1) := bX8_passOn_0.2.2.2.2.2.2.2.2.2.2.2.1
theorem dX8_passOn_17 : decode cX8_passOn 17 = .ok (.iconst 1, 1) := bX8_passOn_0.2.2.2.2.2.2.2.2.2.2.2.2.1
theorem dX8_passOn_18 : decode cX8_passOn 18 = .ok (.iadd, 1) := bX8_passOn_0.2.2.2.2.2.2.2.2.2.2.2.2.2.1
theorem dX8_passOn_19 : decode cX8_passOn 19 = .ok (.iaload, 1) := bX8_passOn_0.2.2.2.2.2.2.2.2.2.2.2.2.2.2.1
theorem dX8_passOn_20 : decode cX8_passOn 20 = .ok (.if_icmp .ge 85, 3) := bX8_passOn_0.2.2.2.2.2.2.2.2.2.2.2.2.2.2.2
theorem bX8_passOn_23 : (decode cX8_passOn 23 = .ok (.iload 4, 2)) ∧ (decode cX8_passOn 25 = .ok (.iload 5, 2)) ∧ (decode cX8_passOn 27 = .ok (.invokestatic 61, 3)) ∧ (decode cX8_passOn 30 = .ok (.ifCond .ne 69, 3)) ∧ (decode cX8_passOn 33 = .ok (.aload_n 0, 1)) ∧ (decode cX8_passOn 34 = .ok (.iload_n 1, 1)) ∧ (decode cX8_passOn 35 = .ok (.aload_n 2, 1)) ∧ (decode cX8_passOn 36 = .ok (.iload_n 3, 1)) ∧ (decode cX8_passOn 37 = .ok (.iload 5, 2)) ∧ (decode cX8_passOn 39 = .ok (.invokevirtual 65, 3)) ∧ (decode cX8_passOn 42 = .ok (.ifCond .eq 35, 3)) ∧ (decode cX8_passOn 45 = .ok (.aload_n 2, 1)) ∧ (decode cX8_passOn 46 = .ok (.iload_n 3, 1)) ∧ (decode cX8_passOn 47 = .ok (.iconst 2, 1)) ∧ (decode cX8_passOn 48 = .ok (.iadd, 1)) ∧ (decode cX8_passOn 49 = .ok (.iload 5, 2)) := by decide +kernel
theorem dX8_passOn_23 : decode cX8_passOn 23 = .ok (.iload 4, 2) := bX8_passOn_23.1
theorem dX8_passOn_25 : decode cX8_passOn 25 = .ok (.iload 5, 2) := bX8_passOn_23.2.1
theorem dX8_passOn_27 : decode cX8_passOn 27 = .ok (.invokestatic 61, 3) := bX8_passOn_23.2.2.1
theorem dX8_passOn_30 : decode cX8_passOn 30 = .ok (.ifCond .ne 69, 3) := bX8_passOn_23.2.2.2.1
theorem dX8_passOn_33 : decode cX8_passOn 33 = .ok (.aload_n 0, 1) := bX8_passOn_23.2.2.2.2.1
theorem dX8_passOn_34 : decode cX8_passOn 34 = .ok (.iload_n 1, 1) := bX8_passOn_23.2.2.2.2.2.1
theorem dX8_passOn_35 : decode cX8_passOn 35 = .ok (.aload_n 2, 1) := bX8_passOn_23.2.2.2.2.2.2.1
theorem dX8_passOn_36 : decode cX8_passOn 36 = .ok (.iload_n 3, 1) := bX8_passOn_23.2.2.2.2.2.2.2.1
theorem dX8_passOn_37 : decode cX8_passOn 37 = .ok (.iload 5, 2) := bX8_passOn_23.2.2.2.2.2.2.2.2.1
theorem dX8_passOn_39 : decode cX8_passOn 39 = .ok (.invokevirtual 65, 3) := bX8_passOn_23.2.2.2.2.2.2.2.2.2.1
theorem dX8_passOn_42 : decode cX8_passOn 42 = .ok (.ifCond .eq 35, 3) := bX8_passOn_23.2.2.2.2.2.2.2.2.2.2.1
theorem dX8_passOn_45 : decode cX8_passOn 45 = .ok (.aload_n 2, 1) := bX8_passOn_23.2.2.2.2.2.2.2.2.2.2.2.1
theorem dX8_passOn_46 : decode cX8_passOn 46 = .ok (.iload_n 3, 1) := bX8_passOn_23.2.2.2.2.2.2.2.2.2.2.2.2.1
theorem dX8_passOn_47 : decode cX8_passOn 47 = .ok (.iconst 2, 1) := bX8_passOn_23.2.2.2.2.2.2.2.2.2.2.2.2.2.1
theorem dX8_passOn_48 : decode cX8_passOn 48 = .ok (.iadd, 1) := bX8_passOn_23.2.2.2.2.2.2.2.2.2.2.2.2.2.2.1
theorem dX8_passOn_49 : decode cX8_passOn 49 = .ok (.iload 5, 2) := bX8_passOn_23.2.2.2.2.2.2.2.2.2.2.2.2.2.2.2
theorem bX8_passOn_51 : (decode cX8_passOn 51 = .ok (.iadd, 1)) ∧ (decode cX8_passOn 52 = .ok (.dup2, 1)) ∧ (decode cX8_passOn 53 = .ok (.iaload, 1)) ∧ (decode cX8_passOn 54 = .ok (.aload_n 2, 1)) ∧ (decode cX8_passOn 55 = .ok (.iload_n 3, 1)) ∧ (decode cX8_passOn 56 = .ok (.iconst 2, 1)) ∧ (decode cX8_passOn 57 = .ok (.iadd, 1)) ∧ (decode cX8_passOn 58 = .ok (.iload 5, 2)) ∧ (decode cX8_passOn 60 = .ok (.iadd, 1)) ∧ (decode cX8_passOn 61 = .ok (.iaload, 1)) ∧ (decode cX8_passOn 62 = .ok (.bipush 99, 2)) ∧ (decode cX8_passOn 64 = .ok (.if_icmp .ge 7, 3)) ∧ (decode cX8_passOn 67 = .ok (.iconst 1, 1)) ∧ (decode cX8_passOn 68 = .ok (.goto 4, 3)) ∧ (decode cX8_passOn 71 = .ok (.iconst 0, 1)) ∧ (decode cX8_passOn 72 = .ok (.iadd, 1)) := by decide +kernel
theorem dX8_passOn_51 : decode cX8_passOn 51 = .ok (.iadd, 1) := bX8_passOn_51.1
theorem dX8_passOn_52 : decode cX8_passOn 52 = .ok (.dup2, 1) := bX8_passOn_51.2.1
theorem dX8_passOn_53 : decode cX8_passOn 53 = .ok (.iaload, 1) := bX8_passOn_51.2.2.1
theorem dX8_passOn_54 : decode cX8_passOn 54 = .ok (.aload_n 2, 1) := bX8_passOn_51.2.2.2.1
theorem dX8_passOn_55 : decode cX8_passOn 55 = .ok (.iload_n 3, 1) := bX8_passOn_51.2.2.2.2.1
theorem dX8_passOn_56 : decode cX8_passOn 56 = .ok (.iconst 2, 1) := bX8_passOn_51.2.2.2.2.2.1
theorem dX8_passOn_57 : decode cX8_passOn 57 = .ok (.iadd, 1) := bX8_passOn_51.2.2.2.2.2.2.1
theorem dX8_passOn_58 : decode cX8_passOn 58 = .ok (.iload 5, 2) := bX8_passOn_51.2.2.2.2.2.2.2.1
theorem dX8_passOn_60 : decode cX8_passOn 60 = .ok (.iadd, 1) := bX8_passOn_51.2.2.2.2.2.2.2.2.1
theorem dX8_passOn_61 : decode cX8_passOn 61 = .ok (.iaload, 1) := bX8_passOn_51.2.2.2.2.2.2.2.2.2.1
theorem dX8_passOn_62 : decode cX8_passOn 62 = .ok (.bipush 99, 2) := bX8_passOn_51.2.2.2.2.2.2.2.2.2.2.1
theorem dX8_passOn_64 : decode cX8_passOn 64 = .ok (.if_icmp .ge 7, 3) := bX8_passOn_51.2.2.2.2.2.2.2.2.2.2.2.1
theorem dX8_passOn_67 : decode cX8_passOn 67 = .ok (.iconst 1, 1) := bX8_passOn_51.2.2.2.2.2.2.2.2.2.2.2.2.1
theorem dX8_passOn_68 : decode cX8_passOn 68 = .ok (.goto 4, 3) := bX8_passOn_51.2.2.2.2.2.2.2.2.2.2.2.2.2.1
theorem dX8_passOn_71 : decode cX8_passOn 71 = .ok (.iconst 0, 1) := bX8_passOn_51.2.2.2.2.2.2.2.2.2.2.2.2.2.2.1
theorem dX8_passOn_72 : decode cX8_passOn 72 = .ok (.iadd, 1) := bX8_passOn_51.2.2.2.2.2.2.2.2.2.2.2.2.2.2.2
theorem bX8_passOn_73 : (decode cX8_passOn 73 = .ok (.iastore, 1)) ∧ (decode cX8_passOn 74 = .ok (.goto 25, 3)) ∧ (decode cX8_passOn 77 = .ok (.aload_n 2, 1)) ∧ (decode cX8_passOn 78 = .ok (.iload_n 3, 1)) ∧ (decode cX8_passOn 79 = .ok (.iconst 1, 1)) ∧ (decode cX8_passOn 80 = .ok (.iadd, 1)) ∧ (decode cX8_passOn 81 = .ok (.dup2, 1)) ∧ (decode cX8_passOn 82 = .ok (.iaload, 1)) ∧ (decode cX8_passOn 83 = .ok (.iconst 1, 1)) ∧ (decode cX8_passOn 84 = .ok (.iload 5, 2)) ∧ (decode cX8_passOn 86 = .ok (.ishl, 1)) ∧ (decode cX8_passOn 87 = .ok (.ior, 1)) ∧ (decode cX8_passOn 88 = .ok (.iastore, 1)) ∧ (decode cX8_passOn 89 = .ok (.aload_n 2, 1)) ∧ (decode cX8_passOn 90 = .ok (.iload_n 3, 1)) ∧ (decode cX8_passOn 91 = .ok (.bipush 9, 2)) := by decide +kernel
theorem dX8_passOn_73 : decode cX8_passOn 73 = .ok (.iastore, 1) := bX8_passOn_73.1
theorem dX8_passOn_74 : decode cX8_passOn 74 = .ok (.goto 25, 3) := bX8_passOn_73.2.1
theorem dX8_passOn_77 : decode cX8_passOn 77 = .ok (.aload_n 2, 1) := bX8_passOn_73.2.2.1
theorem dX8_passOn_78 : decode cX8_passOn 78 = .ok (.iload_n 3, 1) := bX8_passOn_73.2.2.2.1
theorem dX8_passOn_79 : decode cX8_passOn 79 = .ok (.iconst 1, 1) := bX8_passOn_73.2.2.2.2.1
theorem dX8_passOn_80 : decode cX8_passOn 80 = .ok (.iadd, 1) := bX8_passOn_73.2.2.2.2.2.1
theorem dX8_passOn_81 : decode cX8_passOn 81 = .ok (.dup2, 1) := bX8_passOn_73.2.2.2.2.2.2.1
theorem dX8_passOn_82 : decode cX8_passOn 82 = .ok (.iaload, 1) := bX8_passOn_73.2.2.2.2.2.2.2.1
theorem dX8_passOn_83 : decode cX8_passOn 83 = .ok (.iconst 1, 1) := bX8_passOn_73.2.2.2.2.2.2.2.2.1
theorem dX8_passOn_84 : decode cX8_passOn 84 = .ok (.iload 5, 2) := bX8_passOn_73.2.2.2.2.2.2.2.2.2.1
theorem dX8_passOn_86 : decode cX8_passOn 86 = .ok (.ishl, 1) := bX8_passOn_73.2.2.2.2.2.2.2.2.2.2.1
theorem dX8_passOn_87 : decode cX8_passOn 87 = .ok (.ior, 1) := bX8_passOn_73.2.2.2.2.2.2.2.2.2.2.2.1
theorem dX8_passOn_88 : decode cX8_passOn 88 = .ok (.iastore, 1) := bX8_passOn_73.2.2.2.2.2.2.2.2.2.2.2.2.1
theorem dX8_passOn_89 : decode cX8_passOn 89 = .ok (.aload_n 2, 1) := bX8_passOn_73.2.2.2.2.2.2.2.2.2.2.2.2.2.1
theorem dX8_passOn_90 : decode cX8_passOn 90 = .ok (.iload_n 3, 1) := bX8_passOn_73.2.2.2.2.2.2.2.2.2.2.2.2.2.2.1
theorem dX8_passOn_91 : decode cX8_passOn 91 = .ok (.bipush 9, 2) := bX8_passOn_73.2.2.2.2.2.2.2.2.2.2.2.2.2.2.2
theorem bX8_passOn_93 : (decode cX8_passOn 93 = .ok (.iadd, 1)) ∧ (decode cX8_passOn 94 = .ok (.iload 5, 2)) ∧ (decode cX8_passOn 96 = .ok (.iadd, 1)) ∧ (decode cX8_passOn 97 = .ok (.iconst (-1), 1)) ∧ (decode cX8_passOn 98 = .ok (.iastore, 1)) ∧ (decode cX8_passOn 99 = .ok (.iinc 5 1, 3)) ∧ (decode cX8_passOn 102 = .ok (.goto (-92), 3)) ∧ (decode cX8_passOn 105 = .ok (.aload_n 2, 1)) ∧ (decode cX8_passOn 106 = .ok (.iload_n 3, 1)) ∧ (decode cX8_passOn 107 = .ok (.iconst 0, 1)) ∧ (decode cX8_passOn 108 = .ok (.iadd, 1)) ∧ (decode cX8_passOn 109 = .ok (.dup2, 1)) ∧ (decode cX8_passOn 110 = .ok (.iaload, 1)) ∧ (decode cX8_passOn 111 = .ok (.iconst 1, 1)) ∧ (decode cX8_passOn 112 = .ok (.iadd, 1)) ∧ (decode cX8_passOn 113 = .ok (.iastore, 1)) := by decide +kernel
theorem dX8_passOn_93 : decode cX8_passOn 93 = .ok (.iadd, 1) := bX8_passOn_93.1
theorem dX8_passOn_94 : decode cX8_passOn 94 = .ok (.iload 5, 2) := bX8_passOn_93.2.1
theorem dX8_passOn_96 : decode cX8_passOn 96 = .ok (.iadd, 1) := bX8_passOn_93.2.2.1
theorem dX8_passOn_97 : decode cX8_passOn 97 = .ok (.iconst (-1), 1) := bX8_passOn_93.2.2.2.1
theorem dX8_passOn_98 : decode cX8_passOn 98 = .ok (.iastore, 1) := bX8_passOn_93.2.2.2.2.1
theorem dX8_passOn_99 : decode cX8_passOn 99 = .ok (.iinc 5 1, 3) := bX8_passOn_93.2.2.2.2.2.1
theorem dX8_passOn_102 : decode cX8_passOn 102 = .ok (.goto (-92), 3) := bX8_passOn_93.2.2.2.2.2.2.1
theorem dX8_passOn_105 : decode cX8_passOn 105 = .ok (.aload_n 2, 1) := bX8_passOn_93.2.2.2.2.2.2.2.1
theorem dX8_passOn_106 : decode cX8_passOn 106 = .ok (.iload_n 3, 1) := bX8_passOn_93.2.2.2.2.2.2.2.2.1
theorem dX8_passOn_107 : decode cX8_passOn 107 = .ok (.iconst 0, 1) := bX8_passOn_93.2.2.2.2.2.2.2.2.2.1
theorem dX8_passOn_108 : decode cX8_passOn 108 = .ok (.iadd, 1) := bX8_passOn_93.2.2.2.2.2.2.2.2.2.2.1
theorem dX8_passOn_109 : decode cX8_passOn 109 = .ok (.dup2, 1) := bX8_passOn_93.2.2.2.2.2.2.2.2.2.2.2.1
theorem dX8_passOn_110 : decode cX8_passOn 110 = .ok (.iaload, 1) := bX8_passOn_93.2.2.2.2.2.2.2.2.2.2.2.2.1
theorem dX8_passOn_111 : decode cX8_passOn 111 = .ok (.iconst 1, 1) := bX8_passOn_93.2.2.2.2.2.2.2.2.2.2.2.2.2.1
theorem dX8_passOn_112 : decode cX8_passOn 112 = .ok (.iadd, 1) := bX8_passOn_93.2.2.2.2.2.2.2.2.2.2.2.2.2.2.1
theorem dX8_passOn_113 : decode cX8_passOn 113 = .ok (.iastore, 1) := bX8_passOn_93.2.2.2.2.2.2.2.2.2.2.2.2.2.2.2
theorem dX8_passOn_114 : decode cX8_passOn 114 = .ok (.return_, 1) := by decide +kernel
theorem bX8_hereOf_0 : (decode cX8_hereOf 0 = .ok (.iconst 1, 1)) ∧ (decode cX8_hereOf 1 = .ok (.aload_n 0, 1)) ∧ (decode cX8_hereOf 2 = .ok (.getfield 13, 3)) ∧ (decode cX8_hereOf 5 = .ok (.iconst 1, 1)) ∧ (decode cX8_hereOf 6 = .ok (.iaload, 1)) ∧ (decode cX8_hereOf 7 = .ok (.ishl, 1)) ∧ (decode cX8_hereOf 8 = .ok (.iconst 1, 1)) ∧ (decode cX8_hereOf 9 = .ok (.isub, 1)) ∧ (decode cX8_hereOf 10 = .ok (.aload_n 1, 1)) ∧ (decode cX8_hereOf 11 = .ok (.iload_n 2, 1)) ∧ (decode cX8_hereOf 12 = .ok (.iconst 1, 1)) ∧ (decode cX8_hereOf 13 = .ok (.iadd, 1)) ∧ (decode cX8_hereOf 14 = .ok (.iaload, 1)) ∧ (decode cX8_hereOf 15 = .ok (.iconst (-1), 1)) ∧ (decode cX8_hereOf 16 = .ok (.ixor, 1)) ∧ (decode cX8_hereOf 17 = .ok (.iand, 1)) := by decide +kernel
theorem dX8_hereOf_0 : decode cX8_hereOf 0 = .ok (.iconst 1, 1) := bX8_hereOf_0.1
theorem dX8_hereOf_1 : decode cX8_hereOf 1 = .ok (.aload_n 0, 1) := bX8_hereOf_0.2.1
theorem dX8_hereOf_2 : decode cX8_hereOf 2 = .ok (.getfield 13, 3) := bX8_hereOf_0.2.2.1
theorem dX8_hereOf_5 : decode cX8_hereOf 5 = .ok (.iconst 1, 1) := bX8_hereOf_0.2.2.2.1
theorem dX8_hereOf_6 : decode cX8_hereOf 6 = .ok (.iaload, 1) := bX8_hereOf_0.2.2.2.2.1
theorem dX8_hereOf_7 : decode cX8_hereOf 7 = .ok (.ishl, 1) := bX8_hereOf_0.2.2.2.2.2.1
theorem dX8_hereOf_8 : decode cX8_hereOf 8 = .ok (.iconst 1, 1) := bX8_hereOf_0.2.2.2.2.2.2.1
theorem dX8_hereOf_9 : decode cX8_hereOf 9 = .ok (.isub, 1) := bX8_hereOf_0.2.2.2.2.2.2.2.1
theorem dX8_hereOf_10 : decode cX8_hereOf 10 = .ok (.aload_n 1, 1) := bX8_hereOf_0.2.2.2.2.2.2.2.2.1
theorem dX8_hereOf_11 : decode cX8_hereOf 11 = .ok (.iload_n 2, 1) := bX8_hereOf_0.2.2.2.2.2.2.2.2.2.1
theorem dX8_hereOf_12 : decode cX8_hereOf 12 = .ok (.iconst 1, 1) := bX8_hereOf_0.2.2.2.2.2.2.2.2.2.2.1
theorem dX8_hereOf_13 : decode cX8_hereOf 13 = .ok (.iadd, 1) := bX8_hereOf_0.2.2.2.2.2.2.2.2.2.2.2.1
theorem dX8_hereOf_14 : decode cX8_hereOf 14 = .ok (.iaload, 1) := bX8_hereOf_0.2.2.2.2.2.2.2.2.2.2.2.2.1
theorem dX8_hereOf_15 : decode cX8_hereOf 15 = .ok (.iconst (-1), 1) := bX8_hereOf_0.2.2.2.2.2.2.2.2.2.2.2.2.2.1
theorem dX8_hereOf_16 : decode cX8_hereOf 16 = .ok (.ixor, 1) := bX8_hereOf_0.2.2.2.2.2.2.2.2.2.2.2.2.2.2.1
theorem dX8_hereOf_17 : decode cX8_hereOf 17 = .ok (.iand, 1) := bX8_hereOf_0.2.2.2.2.2.2.2.2.2.2.2.2.2.2.2
theorem dX8_hereOf_18 : decode cX8_hereOf 18 = .ok (.ireturn, 1) := by decide +kernel
theorem bX8_ownerOf_0 : (decode cX8_ownerOf 0 = .ok (.iconst (-1), 1)) ∧ (decode cX8_ownerOf 1 = .ok (.istore 5, 2)) ∧ (decode cX8_ownerOf 3 = .ok (.iconst 0, 1)) ∧ (decode cX8_ownerOf 4 = .ok (.istore 6, 2)) ∧ (decode cX8_ownerOf 6 = .ok (.iload 6, 2)) ∧ (decode cX8_ownerOf 8 = .ok (.aload_n 0, 1)) ∧ (decode cX8_ownerOf 9 = .ok (.getfield 13, 3)) ∧ (decode cX8_ownerOf 12 = .ok (.iload_n 1, 1)) ∧ (decode cX8_ownerOf 13 = .ok (.iconst 1, 1)) ∧ (decode cX8_ownerOf 14 = .ok (.iadd, 1)) ∧ (decode cX8_ownerOf 15 = .ok (.iaload, 1)) ∧ (decode cX8_ownerOf 16 = .ok (.if_icmp .ge 32, 3)) ∧ (decode cX8_ownerOf 19 = .ok (.aload_n 2, 1)) ∧ (decode cX8_ownerOf 20 = .ok (.iload_n 3, 1)) ∧ (decode cX8_ownerOf 21 = .ok (.bipush 9, 2)) ∧ (decode cX8_ownerOf 23 = .ok (.iadd, 1)) := by decide +kernel
theorem dX8_ownerOf_0 : decode cX8_ownerOf 0 = .ok (.iconst (-1), 1) := bX8_ownerOf_0.1
theorem dX8_ownerOf_1 : decode cX8_ownerOf 1 = .ok (.istore 5, 2) := bX8_ownerOf_0.2.1
theorem dX8_ownerOf_3 : decode cX8_ownerOf 3 = .ok (.iconst 0, 1) := bX8_ownerOf_0.2.2.1
theorem dX8_ownerOf_4 : decode cX8_ownerOf 4 = .ok (.istore 6, 2) := bX8_ownerOf_0.2.2.2.1
theorem dX8_ownerOf_6 : decode cX8_ownerOf 6 = .ok (.iload 6, 2) := bX8_ownerOf_0.2.2.2.2.1
theorem dX8_ownerOf_8 : decode cX8_ownerOf 8 = .ok (.aload_n 0, 1) := bX8_ownerOf_0.2.2.2.2.2.1
theorem dX8_ownerOf_9 : decode cX8_ownerOf 9 = .ok (.getfield 13, 3) := bX8_ownerOf_0.2.2.2.2.2.2.1
theorem dX8_ownerOf_12 : decode cX8_ownerOf 12 = .ok (.iload_n 1, 1) := bX8_ownerOf_0.2.2.2.2.2.2.2.1
theorem dX8_ownerOf_13 : decode cX8_ownerOf 13 = .ok (.iconst 1, 1) := bX8_ownerOf_0.2.2.2.2.2.2.2.2.1
theorem dX8_ownerOf_14 : decode cX8_ownerOf 14 = .ok (.iadd, 1) := bX8_ownerOf_0.2.2.2.2.2.2.2.2.2.1
theorem dX8_ownerOf_15 : decode cX8_ownerOf 15 = .ok (.iaload, 1) := bX8_ownerOf_0.2.2.2.2.2.2.2.2.2.2.1
theorem dX8_ownerOf_16 : decode cX8_ownerOf 16 = .ok (.if_icmp .ge 32, 3) := bX8_ownerOf_0.2.2.2.2.2.2.2.2.2.2.2.1
theorem dX8_ownerOf_19 : decode cX8_ownerOf 19 = .ok (.aload_n 2, 1) := bX8_ownerOf_0.2.2.2.2.2.2.2.2.2.2.2.2.1
theorem dX8_ownerOf_20 : decode cX8_ownerOf 20 = .ok (.iload_n 3, 1) := bX8_ownerOf_0.2.2.2.2.2.2.2.2.2.2.2.2.2.1
theorem dX8_ownerOf_21 : decode cX8_ownerOf 21 = .ok (.bipush 9, 2) := bX8_ownerOf_0.2.2.2.2.2.2.2.2.2.2.2.2.2.2.1
theorem dX8_ownerOf_23 : decode cX8_ownerOf 23 = .ok (.iadd, 1) := bX8_ownerOf_0.2.2.2.2.2.2.2.2.2.2.2.2.2.2.2
theorem bX8_ownerOf_24 : (decode cX8_ownerOf 24 = .ok (.iload 6, 2)) ∧ (decode cX8_ownerOf 26 = .ok (.iadd, 1)) ∧ (decode cX8_ownerOf 27 = .ok (.iaload, 1)) ∧ (decode cX8_ownerOf 28 = .ok (.iload 4, 2)) ∧ (decode cX8_ownerOf 30 = .ok (.if_icmp .ne 8, 3)) ∧ (decode cX8_ownerOf 33 = .ok (.iload 6, 2)) ∧ (decode cX8_ownerOf 35 = .ok (.goto 5, 3)) ∧ (decode cX8_ownerOf 38 = .ok (.iload 5, 2)) ∧ (decode cX8_ownerOf 40 = .ok (.istore 5, 2)) ∧ (decode cX8_ownerOf 42 = .ok (.iinc 6 1, 3)) ∧ (decode cX8_ownerOf 45 = .ok (.goto (-39), 3)) ∧ (decode cX8_ownerOf 48 = .ok (.iload 5, 2)) ∧ (decode cX8_ownerOf 50 = .ok (.ireturn, 1)) := by decide +kernel
theorem dX8_ownerOf_24 : decode cX8_ownerOf 24 = .ok (.iload 6, 2) := bX8_ownerOf_24.1
theorem dX8_ownerOf_26 : decode cX8_ownerOf 26 = .ok (.iadd, 1) := bX8_ownerOf_24.2.1
theorem dX8_ownerOf_27 : decode cX8_ownerOf 27 = .ok (.iaload, 1) := bX8_ownerOf_24.2.2.1
theorem dX8_ownerOf_28 : decode cX8_ownerOf 28 = .ok (.iload 4, 2) := bX8_ownerOf_24.2.2.2.1
theorem dX8_ownerOf_30 : decode cX8_ownerOf 30 = .ok (.if_icmp .ne 8, 3) := bX8_ownerOf_24.2.2.2.2.1
theorem dX8_ownerOf_33 : decode cX8_ownerOf 33 = .ok (.iload 6, 2) := bX8_ownerOf_24.2.2.2.2.2.1
theorem dX8_ownerOf_35 : decode cX8_ownerOf 35 = .ok (.goto 5, 3) := bX8_ownerOf_24.2.2.2.2.2.2.1
theorem dX8_ownerOf_38 : decode cX8_ownerOf 38 = .ok (.iload 5, 2) := bX8_ownerOf_24.2.2.2.2.2.2.2.1
theorem dX8_ownerOf_40 : decode cX8_ownerOf 40 = .ok (.istore 5, 2) := bX8_ownerOf_24.2.2.2.2.2.2.2.2.1
theorem dX8_ownerOf_42 : decode cX8_ownerOf 42 = .ok (.iinc 6 1, 3) := bX8_ownerOf_24.2.2.2.2.2.2.2.2.2.1
theorem dX8_ownerOf_45 : decode cX8_ownerOf 45 = .ok (.goto (-39), 3) := bX8_ownerOf_24.2.2.2.2.2.2.2.2.2.2.1
theorem dX8_ownerOf_48 : decode cX8_ownerOf 48 = .ok (.iload 5, 2) := bX8_ownerOf_24.2.2.2.2.2.2.2.2.2.2.2.1
theorem dX8_ownerOf_50 : decode cX8_ownerOf 50 = .ok (.ireturn, 1) := bX8_ownerOf_24.2.2.2.2.2.2.2.2.2.2.2.2
theorem bX8_people_0 : (decode cX8_people 0 = .ok (.aload_n 0, 1)) ∧ (decode cX8_people 1 = .ok (.getfield 13, 3)) ∧ (decode cX8_people 4 = .ok (.iconst 1, 1)) ∧ (decode cX8_people 5 = .ok (.iaload, 1)) ∧ (decode cX8_people 6 = .ok (.istore_n 1, 1)) ∧ (decode cX8_people 7 = .ok (.aload_n 0, 1)) ∧ (decode cX8_people 8 = .ok (.iconst 0, 1)) ∧ (decode cX8_people 9 = .ok (.invokevirtual 40, 3)) ∧ (decode cX8_people 12 = .ok (.iload_n 1, 1)) ∧ (decode cX8_people 13 = .ok (.ireturn, 1)) := by decide +kernel
theorem dX8_people_0 : decode cX8_people 0 = .ok (.aload_n 0, 1) := bX8_people_0.1
theorem dX8_people_1 : decode cX8_people 1 = .ok (.getfield 13, 3) := bX8_people_0.2.1
theorem dX8_people_4 : decode cX8_people 4 = .ok (.iconst 1, 1) := bX8_people_0.2.2.1
theorem dX8_people_5 : decode cX8_people 5 = .ok (.iaload, 1) := bX8_people_0.2.2.2.1
theorem dX8_people_6 : decode cX8_people 6 = .ok (.istore_n 1, 1) := bX8_people_0.2.2.2.2.1
theorem dX8_people_7 : decode cX8_people 7 = .ok (.aload_n 0, 1) := bX8_people_0.2.2.2.2.2.1
theorem dX8_people_8 : decode cX8_people 8 = .ok (.iconst 0, 1) := bX8_people_0.2.2.2.2.2.2.1
theorem dX8_people_9 : decode cX8_people 9 = .ok (.invokevirtual 40, 3) := bX8_people_0.2.2.2.2.2.2.2.1
theorem dX8_people_12 : decode cX8_people 12 = .ok (.iload_n 1, 1) := bX8_people_0.2.2.2.2.2.2.2.2.1
theorem dX8_people_13 : decode cX8_people 13 = .ok (.ireturn, 1) := bX8_people_0.2.2.2.2.2.2.2.2.2
theorem bX8_add_0 : (decode cX8_add 0 = .ok (.aload_n 0, 1)) ∧ (decode cX8_add 1 = .ok (.getfield 13, 3)) ∧ (decode cX8_add 4 = .ok (.iload_n 1, 1)) ∧ (decode cX8_add 5 = .ok (.iconst 0, 1)) ∧ (decode cX8_add 6 = .ok (.iadd, 1)) ∧ (decode cX8_add 7 = .ok (.iaload, 1)) ∧ (decode cX8_add 8 = .ok (.istore 4, 2)) ∧ (decode cX8_add 10 = .ok (.aload_n 0, 1)) ∧ (decode cX8_add 11 = .ok (.getfield 13, 3)) ∧ (decode cX8_add 14 = .ok (.iload_n 1, 1)) ∧ (decode cX8_add 15 = .ok (.bipush 6, 2)) ∧ (decode cX8_add 17 = .ok (.iadd, 1)) ∧ (decode cX8_add 18 = .ok (.iload 4, 2)) ∧ (decode cX8_add 20 = .ok (.iadd, 1)) ∧ (decode cX8_add 21 = .ok (.iload_n 2, 1)) ∧ (decode cX8_add 22 = .ok (.iastore, 1)) := by decide +kernel
theorem dX8_add_0 : decode cX8_add 0 = .ok (.aload_n 0, 1) := bX8_add_0.1
theorem dX8_add_1 : decode cX8_add 1 = .ok (.getfield 13, 3) := bX8_add_0.2.1
theorem dX8_add_4 : decode cX8_add 4 = .ok (.iload_n 1, 1) := bX8_add_0.2.2.1
theorem dX8_add_5 : decode cX8_add 5 = .ok (.iconst 0, 1) := bX8_add_0.2.2.2.1
theorem dX8_add_6 : decode cX8_add 6 = .ok (.iadd, 1) := bX8_add_0.2.2.2.2.1
theorem dX8_add_7 : decode cX8_add 7 = .ok (.iaload, 1) := bX8_add_0.2.2.2.2.2.1
theorem dX8_add_8 : decode cX8_add 8 = .ok (.istore 4, 2) := bX8_add_0.2.2.2.2.2.2.1
theorem dX8_add_10 : decode cX8_add 10 = .ok (.aload_n 0, 1) := bX8_add_0.2.2.2.2.2.2.2.1
theorem dX8_add_11 : decode cX8_add 11 = .ok (.getfield 13, 3) := bX8_add_0.2.2.2.2.2.2.2.2.1
theorem dX8_add_14 : decode cX8_add 14 = .ok (.iload_n 1, 1) := bX8_add_0.2.2.2.2.2.2.2.2.2.1
theorem dX8_add_15 : decode cX8_add 15 = .ok (.bipush 6, 2) := bX8_add_0.2.2.2.2.2.2.2.2.2.2.1
theorem dX8_add_17 : decode cX8_add 17 = .ok (.iadd, 1) := bX8_add_0.2.2.2.2.2.2.2.2.2.2.2.1
theorem dX8_add_18 : decode cX8_add 18 = .ok (.iload 4, 2) := bX8_add_0.2.2.2.2.2.2.2.2.2.2.2.2.1
theorem dX8_add_20 : decode cX8_add 20 = .ok (.iadd, 1) := bX8_add_0.2.2.2.2.2.2.2.2.2.2.2.2.2.1
theorem dX8_add_21 : decode cX8_add 21 = .ok (.iload_n 2, 1) := bX8_add_0.2.2.2.2.2.2.2.2.2.2.2.2.2.2.1
theorem dX8_add_22 : decode cX8_add 22 = .ok (.iastore, 1) := bX8_add_0.2.2.2.2.2.2.2.2.2.2.2.2.2.2.2
theorem bX8_add_23 : (decode cX8_add 23 = .ok (.aload_n 0, 1)) ∧ (decode cX8_add 24 = .ok (.getfield 13, 3)) ∧ (decode cX8_add 27 = .ok (.iload_n 1, 1)) ∧ (decode cX8_add 28 = .ok (.bipush 13, 2)) ∧ (decode cX8_add 30 = .ok (.iadd, 1)) ∧ (decode cX8_add 31 = .ok (.iload 4, 2)) ∧ (decode cX8_add 33 = .ok (.iadd, 1)) ∧ (decode cX8_add 34 = .ok (.iload_n 3, 1)) ∧ (decode cX8_add 35 = .ok (.iastore, 1)) ∧ (decode cX8_add 36 = .ok (.aload_n 0, 1)) ∧ (decode cX8_add 37 = .ok (.getfield 13, 3)) ∧ (decode cX8_add 40 = .ok (.iload_n 1, 1)) ∧ (decode cX8_add 41 = .ok (.iconst 0, 1)) ∧ (decode cX8_add 42 = .ok (.iadd, 1)) ∧ (decode cX8_add 43 = .ok (.dup2, 1)) ∧ (decode cX8_add 44 = .ok (.iaload, 1)) := by decide +kernel
theorem dX8_add_23 : decode cX8_add 23 = .ok (.aload_n 0, 1) := bX8_add_23.1
theorem dX8_add_24 : decode cX8_add 24 = .ok (.getfield 13, 3) := bX8_add_23.2.1
theorem dX8_add_27 : decode cX8_add 27 = .ok (.iload_n 1, 1) := bX8_add_23.2.2.1
theorem dX8_add_28 : decode cX8_add 28 = .ok (.bipush 13, 2) := bX8_add_23.2.2.2.1
theorem dX8_add_30 : decode cX8_add 30 = .ok (.iadd, 1) := bX8_add_23.2.2.2.2.1
theorem dX8_add_31 : decode cX8_add 31 = .ok (.iload 4, 2) := bX8_add_23.2.2.2.2.2.1
theorem dX8_add_33 : decode cX8_add 33 = .ok (.iadd, 1) := bX8_add_23.2.2.2.2.2.2.1
theorem dX8_add_34 : decode cX8_add 34 = .ok (.iload_n 3, 1) := bX8_add_23.2.2.2.2.2.2.2.1
theorem dX8_add_35 : decode cX8_add 35 = .ok (.iastore, 1) := bX8_add_23.2.2.2.2.2.2.2.2.1
theorem dX8_add_36 : decode cX8_add 36 = .ok (.aload_n 0, 1) := bX8_add_23.2.2.2.2.2.2.2.2.2.1
theorem dX8_add_37 : decode cX8_add 37 = .ok (.getfield 13, 3) := bX8_add_23.2.2.2.2.2.2.2.2.2.2.1
theorem dX8_add_40 : decode cX8_add 40 = .ok (.iload_n 1, 1) := bX8_add_23.2.2.2.2.2.2.2.2.2.2.2.1
theorem dX8_add_41 : decode cX8_add 41 = .ok (.iconst 0, 1) := bX8_add_23.2.2.2.2.2.2.2.2.2.2.2.2.1
theorem dX8_add_42 : decode cX8_add 42 = .ok (.iadd, 1) := bX8_add_23.2.2.2.2.2.2.2.2.2.2.2.2.2.1
theorem dX8_add_43 : decode cX8_add 43 = .ok (.dup2, 1) := bX8_add_23.2.2.2.2.2.2.2.2.2.2.2.2.2.2.1
theorem dX8_add_44 : decode cX8_add 44 = .ok (.iaload, 1) := bX8_add_23.2.2.2.2.2.2.2.2.2.2.2.2.2.2.2
theorem bX8_add_45 : (decode cX8_add 45 = .ok (.iconst 1, 1)) ∧ (decode cX8_add 46 = .ok (.iadd, 1)) ∧ (decode cX8_add 47 = .ok (.iastore, 1)) ∧ (decode cX8_add 48 = .ok (.aload_n 0, 1)) ∧ (decode cX8_add 49 = .ok (.getfield 13, 3)) ∧ (decode cX8_add 52 = .ok (.iload_n 1, 1)) ∧ (decode cX8_add 53 = .ok (.iconst 5, 1)) ∧ (decode cX8_add 54 = .ok (.iadd, 1)) ∧ (decode cX8_add 55 = .ok (.iconst 0, 1)) ∧ (decode cX8_add 56 = .ok (.iastore, 1)) ∧ (decode cX8_add 57 = .ok (.iload 4, 2)) ∧ (decode cX8_add 59 = .ok (.ireturn, 1)) := by decide +kernel
theorem dX8_add_45 : decode cX8_add 45 = .ok (.iconst 1, 1) := bX8_add_45.1
theorem dX8_add_46 : decode cX8_add 46 = .ok (.iadd, 1) := bX8_add_45.2.1
theorem dX8_add_47 : decode cX8_add 47 = .ok (.iastore, 1) := bX8_add_45.2.2.1
theorem dX8_add_48 : decode cX8_add 48 = .ok (.aload_n 0, 1) := bX8_add_45.2.2.2.1
theorem dX8_add_49 : decode cX8_add 49 = .ok (.getfield 13, 3) := bX8_add_45.2.2.2.2.1
theorem dX8_add_52 : decode cX8_add 52 = .ok (.iload_n 1, 1) := bX8_add_45.2.2.2.2.2.1
theorem dX8_add_53 : decode cX8_add 53 = .ok (.iconst 5, 1) := bX8_add_45.2.2.2.2.2.2.1
theorem dX8_add_54 : decode cX8_add 54 = .ok (.iadd, 1) := bX8_add_45.2.2.2.2.2.2.2.1
theorem dX8_add_55 : decode cX8_add 55 = .ok (.iconst 0, 1) := bX8_add_45.2.2.2.2.2.2.2.2.1
theorem dX8_add_56 : decode cX8_add 56 = .ok (.iastore, 1) := bX8_add_45.2.2.2.2.2.2.2.2.2.1
theorem dX8_add_57 : decode cX8_add 57 = .ok (.iload 4, 2) := bX8_add_45.2.2.2.2.2.2.2.2.2.2.1
theorem dX8_add_59 : decode cX8_add 59 = .ok (.ireturn, 1) := bX8_add_45.2.2.2.2.2.2.2.2.2.2.2
theorem bX8_thing_0 : (decode cX8_thing 0 = .ok (.iload_n 1, 1)) ∧ (decode cX8_thing 1 = .ok (.iconst 0, 1)) ∧ (decode cX8_thing 2 = .ok (.iconst 5, 1)) ∧ (decode cX8_thing 3 = .ok (.invokestatic 44, 3)) ∧ (decode cX8_thing 6 = .ok (.ifCond .eq 13, 3)) ∧ (decode cX8_thing 9 = .ok (.iload_n 2, 1)) ∧ (decode cX8_thing 10 = .ok (.iconst 1, 1)) ∧ (decode cX8_thing 11 = .ok (.bipush 30, 2)) ∧ (decode cX8_thing 13 = .ok (.invokestatic 44, 3)) ∧ (decode cX8_thing 16 = .ok (.ifCond .ne 8, 3)) ∧ (decode cX8_thing 19 = .ok (.aload_n 0, 1)) ∧ (decode cX8_thing 20 = .ok (.invokevirtual 69, 3)) ∧ (decode cX8_thing 23 = .ok (.ireturn, 1)) ∧ (decode cX8_thing 24 = .ok (.aload_n 0, 1)) ∧ (decode cX8_thing 25 = .ok (.getfield 13, 3)) ∧ (decode cX8_thing 28 = .ok (.iconst 0, 1)) := by decide +kernel
theorem dX8_thing_0 : decode cX8_thing 0 = .ok (.iload_n 1, 1) := bX8_thing_0.1
theorem dX8_thing_1 : decode cX8_thing 1 = .ok (.iconst 0, 1) := bX8_thing_0.2.1
theorem dX8_thing_2 : decode cX8_thing 2 = .ok (.iconst 5, 1) := bX8_thing_0.2.2.1
theorem dX8_thing_3 : decode cX8_thing 3 = .ok (.invokestatic 44, 3) := bX8_thing_0.2.2.2.1
theorem dX8_thing_6 : decode cX8_thing 6 = .ok (.ifCond .eq 13, 3) := bX8_thing_0.2.2.2.2.1
theorem dX8_thing_9 : decode cX8_thing 9 = .ok (.iload_n 2, 1) := bX8_thing_0.2.2.2.2.2.1
theorem dX8_thing_10 : decode cX8_thing 10 = .ok (.iconst 1, 1) := bX8_thing_0.2.2.2.2.2.2.1
theorem dX8_thing_11 : decode cX8_thing 11 = .ok (.bipush 30, 2) := bX8_thing_0.2.2.2.2.2.2.2.1
theorem dX8_thing_13 : decode cX8_thing 13 = .ok (.invokestatic 44, 3) := bX8_thing_0.2.2.2.2.2.2.2.2.1
theorem dX8_thing_16 : decode cX8_thing 16 = .ok (.ifCond .ne 8, 3) := bX8_thing_0.2.2.2.2.2.2.2.2.2.1
theorem dX8_thing_19 : decode cX8_thing 19 = .ok (.aload_n 0, 1) := bX8_thing_0.2.2.2.2.2.2.2.2.2.2.1
theorem dX8_thing_20 : decode cX8_thing 20 = .ok (.invokevirtual 69, 3) := bX8_thing_0.2.2.2.2.2.2.2.2.2.2.2.1
theorem dX8_thing_23 : decode cX8_thing 23 = .ok (.ireturn, 1) := bX8_thing_0.2.2.2.2.2.2.2.2.2.2.2.2.1
theorem dX8_thing_24 : decode cX8_thing 24 = .ok (.aload_n 0, 1) := bX8_thing_0.2.2.2.2.2.2.2.2.2.2.2.2.2.1
theorem dX8_thing_25 : decode cX8_thing 25 = .ok (.getfield 13, 3) := bX8_thing_0.2.2.2.2.2.2.2.2.2.2.2.2.2.2.1
theorem dX8_thing_28 : decode cX8_thing 28 = .ok (.iconst 0, 1) := bX8_thing_0.2.2.2.2.2.2.2.2.2.2.2.2.2.2.2
theorem bX8_thing_29 : (decode cX8_thing 29 = .ok (.iaload, 1)) ∧ (decode cX8_thing 30 = .ok (.bipush 7, 2)) ∧ (decode cX8_thing 32 = .ok (.if_icmp .ne 10, 3)) ∧ (decode cX8_thing 35 = .ok (.aload_n 0, 1)) ∧ (decode cX8_thing 36 = .ok (.invokevirtual 73, 3)) ∧ (decode cX8_thing 39 = .ok (.goto 10, 3)) ∧ (decode cX8_thing 42 = .ok (.aload_n 0, 1)) ∧ (decode cX8_thing 43 = .ok (.iconst 0, 1)) ∧ (decode cX8_thing 44 = .ok (.iload_n 1, 1)) ∧ (decode cX8_thing 45 = .ok (.iload_n 2, 1)) ∧ (decode cX8_thing 46 = .ok (.invokevirtual 76, 3)) ∧ (decode cX8_thing 49 = .ok (.ireturn, 1)) := by decide +kernel
theorem dX8_thing_29 : decode cX8_thing 29 = .ok (.iaload, 1) := bX8_thing_29.1
theorem dX8_thing_30 : decode cX8_thing 30 = .ok (.bipush 7, 2) := bX8_thing_29.2.1
theorem dX8_thing_32 : decode cX8_thing 32 = .ok (.if_icmp .ne 10, 3) := bX8_thing_29.2.2.1
theorem dX8_thing_35 : decode cX8_thing 35 = .ok (.aload_n 0, 1) := bX8_thing_29.2.2.2.1
theorem dX8_thing_36 : decode cX8_thing 36 = .ok (.invokevirtual 73, 3) := bX8_thing_29.2.2.2.2.1
theorem dX8_thing_39 : decode cX8_thing 39 = .ok (.goto 10, 3) := bX8_thing_29.2.2.2.2.2.1
theorem dX8_thing_42 : decode cX8_thing 42 = .ok (.aload_n 0, 1) := bX8_thing_29.2.2.2.2.2.2.1
theorem dX8_thing_43 : decode cX8_thing 43 = .ok (.iconst 0, 1) := bX8_thing_29.2.2.2.2.2.2.2.1
theorem dX8_thing_44 : decode cX8_thing 44 = .ok (.iload_n 1, 1) := bX8_thing_29.2.2.2.2.2.2.2.2.1
theorem dX8_thing_45 : decode cX8_thing 45 = .ok (.iload_n 2, 1) := bX8_thing_29.2.2.2.2.2.2.2.2.2.1
theorem dX8_thing_46 : decode cX8_thing 46 = .ok (.invokevirtual 76, 3) := bX8_thing_29.2.2.2.2.2.2.2.2.2.2.1
theorem dX8_thing_49 : decode cX8_thing 49 = .ok (.ireturn, 1) := bX8_thing_29.2.2.2.2.2.2.2.2.2.2.2
theorem bX8_join_0 : (decode cX8_join 0 = .ok (.aload_n 0, 1)) ∧ (decode cX8_join 1 = .ok (.getfield 13, 3)) ∧ (decode cX8_join 4 = .ok (.iload_n 1, 1)) ∧ (decode cX8_join 5 = .ok (.iconst 1, 1)) ∧ (decode cX8_join 6 = .ok (.iadd, 1)) ∧ (decode cX8_join 7 = .ok (.iaload, 1)) ∧ (decode cX8_join 8 = .ok (.istore 5, 2)) ∧ (decode cX8_join 10 = .ok (.aload_n 0, 1)) ∧ (decode cX8_join 11 = .ok (.getfield 13, 3)) ∧ (decode cX8_join 14 = .ok (.iload_n 1, 1)) ∧ (decode cX8_join 15 = .ok (.bipush 20, 2)) ∧ (decode cX8_join 17 = .ok (.iadd, 1)) ∧ (decode cX8_join 18 = .ok (.iload 5, 2)) ∧ (decode cX8_join 20 = .ok (.iadd, 1)) ∧ (decode cX8_join 21 = .ok (.iload_n 2, 1)) ∧ (decode cX8_join 22 = .ok (.iastore, 1)) := by decide +kernel
theorem dX8_join_0 : decode cX8_join 0 = .ok (.aload_n 0, 1) := bX8_join_0.1
theorem dX8_join_1 : decode cX8_join 1 = .ok (.getfield 13, 3) := bX8_join_0.2.1
theorem dX8_join_4 : decode cX8_join 4 = .ok (.iload_n 1, 1) := bX8_join_0.2.2.1
theorem dX8_join_5 : decode cX8_join 5 = .ok (.iconst 1, 1) := bX8_join_0.2.2.2.1
theorem dX8_join_6 : decode cX8_join 6 = .ok (.iadd, 1) := bX8_join_0.2.2.2.2.1
theorem dX8_join_7 : decode cX8_join 7 = .ok (.iaload, 1) := bX8_join_0.2.2.2.2.2.1
theorem dX8_join_8 : decode cX8_join 8 = .ok (.istore 5, 2) := bX8_join_0.2.2.2.2.2.2.1
theorem dX8_join_10 : decode cX8_join 10 = .ok (.aload_n 0, 1) := bX8_join_0.2.2.2.2.2.2.2.1
theorem dX8_join_11 : decode cX8_join 11 = .ok (.getfield 13, 3) := bX8_join_0.2.2.2.2.2.2.2.2.1
theorem dX8_join_14 : decode cX8_join 14 = .ok (.iload_n 1, 1) := bX8_join_0.2.2.2.2.2.2.2.2.2.1
theorem dX8_join_15 : decode cX8_join 15 = .ok (.bipush 20, 2) := bX8_join_0.2.2.2.2.2.2.2.2.2.2.1
theorem dX8_join_17 : decode cX8_join 17 = .ok (.iadd, 1) := bX8_join_0.2.2.2.2.2.2.2.2.2.2.2.1
theorem dX8_join_18 : decode cX8_join 18 = .ok (.iload 5, 2) := bX8_join_0.2.2.2.2.2.2.2.2.2.2.2.2.1
theorem dX8_join_20 : decode cX8_join 20 = .ok (.iadd, 1) := bX8_join_0.2.2.2.2.2.2.2.2.2.2.2.2.2.1
theorem dX8_join_21 : decode cX8_join 21 = .ok (.iload_n 2, 1) := bX8_join_0.2.2.2.2.2.2.2.2.2.2.2.2.2.2.1
theorem dX8_join_22 : decode cX8_join 22 = .ok (.iastore, 1) := bX8_join_0.2.2.2.2.2.2.2.2.2.2.2.2.2.2.2
theorem bX8_join_23 : (decode cX8_join 23 = .ok (.aload_n 0, 1)) ∧ (decode cX8_join 24 = .ok (.getfield 13, 3)) ∧ (decode cX8_join 27 = .ok (.iload_n 1, 1)) ∧ (decode cX8_join 28 = .ok (.bipush 27, 2)) ∧ (decode cX8_join 30 = .ok (.iadd, 1)) ∧ (decode cX8_join 31 = .ok (.iload 5, 2)) ∧ (decode cX8_join 33 = .ok (.iadd, 1)) ∧ (decode cX8_join 34 = .ok (.iload_n 3, 1)) ∧ (decode cX8_join 35 = .ok (.iastore, 1)) ∧ (decode cX8_join 36 = .ok (.aload_n 0, 1)) ∧ (decode cX8_join 37 = .ok (.getfield 13, 3)) ∧ (decode cX8_join 40 = .ok (.iload_n 1, 1)) ∧ (decode cX8_join 41 = .ok (.bipush 34, 2)) ∧ (decode cX8_join 43 = .ok (.iadd, 1)) ∧ (decode cX8_join 44 = .ok (.iconst 2, 1)) ∧ (decode cX8_join 45 = .ok (.iadd, 1)) := by decide +kernel
theorem dX8_join_23 : decode cX8_join 23 = .ok (.aload_n 0, 1) := bX8_join_23.1
theorem dX8_join_24 : decode cX8_join 24 = .ok (.getfield 13, 3) := bX8_join_23.2.1
theorem dX8_join_27 : decode cX8_join 27 = .ok (.iload_n 1, 1) := bX8_join_23.2.2.1
theorem dX8_join_28 : decode cX8_join 28 = .ok (.bipush 27, 2) := bX8_join_23.2.2.2.1
theorem dX8_join_30 : decode cX8_join 30 = .ok (.iadd, 1) := bX8_join_23.2.2.2.2.1
theorem dX8_join_31 : decode cX8_join 31 = .ok (.iload 5, 2) := bX8_join_23.2.2.2.2.2.1
theorem dX8_join_33 : decode cX8_join 33 = .ok (.iadd, 1) := bX8_join_23.2.2.2.2.2.2.1
theorem dX8_join_34 : decode cX8_join 34 = .ok (.iload_n 3, 1) := bX8_join_23.2.2.2.2.2.2.2.1
theorem dX8_join_35 : decode cX8_join 35 = .ok (.iastore, 1) := bX8_join_23.2.2.2.2.2.2.2.2.1
theorem dX8_join_36 : decode cX8_join 36 = .ok (.aload_n 0, 1) := bX8_join_23.2.2.2.2.2.2.2.2.2.1
theorem dX8_join_37 : decode cX8_join 37 = .ok (.getfield 13, 3) := bX8_join_23.2.2.2.2.2.2.2.2.2.2.1
theorem dX8_join_40 : decode cX8_join 40 = .ok (.iload_n 1, 1) := bX8_join_23.2.2.2.2.2.2.2.2.2.2.2.1
theorem dX8_join_41 : decode cX8_join 41 = .ok (.bipush 34, 2) := bX8_join_23.2.2.2.2.2.2.2.2.2.2.2.2.1
theorem dX8_join_43 : decode cX8_join 43 = .ok (.iadd, 1) := bX8_join_23.2.2.2.2.2.2.2.2.2.2.2.2.2.1
theorem dX8_join_44 : decode cX8_join 44 = .ok (.iconst 2, 1) := bX8_join_23.2.2.2.2.2.2.2.2.2.2.2.2.2.2.1
theorem dX8_join_45 : decode cX8_join 45 = .ok (.iadd, 1) := bX8_join_23.2.2.2.2.2.2.2.2.2.2.2.2.2.2.2
theorem bX8_join_46 : (decode cX8_join 46 = .ok (.iload 5, 2)) ∧ (decode cX8_join 48 = .ok (.iadd, 1)) ∧ (decode cX8_join 49 = .ok (.iload 4, 2)) ∧ (decode cX8_join 51 = .ok (.iastore, 1)) ∧ (decode cX8_join 52 = .ok (.aload_n 0, 1)) ∧ (decode cX8_join 53 = .ok (.getfield 13, 3)) ∧ (decode cX8_join 56 = .ok (.iload_n 1, 1)) ∧ (decode cX8_join 57 = .ok (.bipush 34, 2)) ∧ (decode cX8_join 59 = .ok (.iadd, 1)) ∧ (decode cX8_join 60 = .ok (.bipush 9, 2)) ∧ (decode cX8_join 62 = .ok (.iadd, 1)) ∧ (decode cX8_join 63 = .ok (.iload 5, 2)) ∧ (decode cX8_join 65 = .ok (.iadd, 1)) ∧ (decode cX8_join 66 = .ok (.iconst (-1), 1)) ∧ (decode cX8_join 67 = .ok (.iastore, 1)) ∧ (decode cX8_join 68 = .ok (.aload_n 0, 1)) := by decide +kernel
theorem dX8_join_46 : decode cX8_join 46 = .ok (.iload 5, 2) := bX8_join_46.1
theorem dX8_join_48 : decode cX8_join 48 = .ok (.iadd, 1) := bX8_join_46.2.1
theorem dX8_join_49 : decode cX8_join 49 = .ok (.iload 4, 2) := bX8_join_46.2.2.1
theorem dX8_join_51 : decode cX8_join 51 = .ok (.iastore, 1) := bX8_join_46.2.2.2.1
theorem dX8_join_52 : decode cX8_join 52 = .ok (.aload_n 0, 1) := bX8_join_46.2.2.2.2.1
theorem dX8_join_53 : decode cX8_join 53 = .ok (.getfield 13, 3) := bX8_join_46.2.2.2.2.2.1
theorem dX8_join_56 : decode cX8_join 56 = .ok (.iload_n 1, 1) := bX8_join_46.2.2.2.2.2.2.1
theorem dX8_join_57 : decode cX8_join 57 = .ok (.bipush 34, 2) := bX8_join_46.2.2.2.2.2.2.2.1
theorem dX8_join_59 : decode cX8_join 59 = .ok (.iadd, 1) := bX8_join_46.2.2.2.2.2.2.2.2.1
theorem dX8_join_60 : decode cX8_join 60 = .ok (.bipush 9, 2) := bX8_join_46.2.2.2.2.2.2.2.2.2.1
theorem dX8_join_62 : decode cX8_join 62 = .ok (.iadd, 1) := bX8_join_46.2.2.2.2.2.2.2.2.2.2.1
theorem dX8_join_63 : decode cX8_join 63 = .ok (.iload 5, 2) := bX8_join_46.2.2.2.2.2.2.2.2.2.2.2.1
theorem dX8_join_65 : decode cX8_join 65 = .ok (.iadd, 1) := bX8_join_46.2.2.2.2.2.2.2.2.2.2.2.2.1
theorem dX8_join_66 : decode cX8_join 66 = .ok (.iconst (-1), 1) := bX8_join_46.2.2.2.2.2.2.2.2.2.2.2.2.2.1
theorem dX8_join_67 : decode cX8_join 67 = .ok (.iastore, 1) := bX8_join_46.2.2.2.2.2.2.2.2.2.2.2.2.2.2.1
theorem dX8_join_68 : decode cX8_join 68 = .ok (.aload_n 0, 1) := bX8_join_46.2.2.2.2.2.2.2.2.2.2.2.2.2.2.2
theorem bX8_join_69 : (decode cX8_join 69 = .ok (.getfield 13, 3)) ∧ (decode cX8_join 72 = .ok (.iload_n 1, 1)) ∧ (decode cX8_join 73 = .ok (.iconst 1, 1)) ∧ (decode cX8_join 74 = .ok (.iadd, 1)) ∧ (decode cX8_join 75 = .ok (.dup2, 1)) ∧ (decode cX8_join 76 = .ok (.iaload, 1)) ∧ (decode cX8_join 77 = .ok (.iconst 1, 1)) ∧ (decode cX8_join 78 = .ok (.iadd, 1)) ∧ (decode cX8_join 79 = .ok (.iastore, 1)) ∧ (decode cX8_join 80 = .ok (.aload_n 0, 1)) ∧ (decode cX8_join 81 = .ok (.getfield 13, 3)) ∧ (decode cX8_join 84 = .ok (.iload_n 1, 1)) ∧ (decode cX8_join 85 = .ok (.iconst 5, 1)) ∧ (decode cX8_join 86 = .ok (.iadd, 1)) ∧ (decode cX8_join 87 = .ok (.iconst 0, 1)) ∧ (decode cX8_join 88 = .ok (.iastore, 1)) := by decide +kernel
theorem dX8_join_69 : decode cX8_join 69 = .ok (.getfield 13, 3) := bX8_join_69.1
theorem dX8_join_72 : decode cX8_join 72 = .ok (.iload_n 1, 1) := bX8_join_69.2.1
theorem dX8_join_73 : decode cX8_join 73 = .ok (.iconst 1, 1) := bX8_join_69.2.2.1
theorem dX8_join_74 : decode cX8_join 74 = .ok (.iadd, 1) := bX8_join_69.2.2.2.1
theorem dX8_join_75 : decode cX8_join 75 = .ok (.dup2, 1) := bX8_join_69.2.2.2.2.1
theorem dX8_join_76 : decode cX8_join 76 = .ok (.iaload, 1) := bX8_join_69.2.2.2.2.2.1
theorem dX8_join_77 : decode cX8_join 77 = .ok (.iconst 1, 1) := bX8_join_69.2.2.2.2.2.2.1
theorem dX8_join_78 : decode cX8_join 78 = .ok (.iadd, 1) := bX8_join_69.2.2.2.2.2.2.2.1
theorem dX8_join_79 : decode cX8_join 79 = .ok (.iastore, 1) := bX8_join_69.2.2.2.2.2.2.2.2.1
theorem dX8_join_80 : decode cX8_join 80 = .ok (.aload_n 0, 1) := bX8_join_69.2.2.2.2.2.2.2.2.2.1
theorem dX8_join_81 : decode cX8_join 81 = .ok (.getfield 13, 3) := bX8_join_69.2.2.2.2.2.2.2.2.2.2.1
theorem dX8_join_84 : decode cX8_join 84 = .ok (.iload_n 1, 1) := bX8_join_69.2.2.2.2.2.2.2.2.2.2.2.1
theorem dX8_join_85 : decode cX8_join 85 = .ok (.iconst 5, 1) := bX8_join_69.2.2.2.2.2.2.2.2.2.2.2.2.1
theorem dX8_join_86 : decode cX8_join 86 = .ok (.iadd, 1) := bX8_join_69.2.2.2.2.2.2.2.2.2.2.2.2.2.1
theorem dX8_join_87 : decode cX8_join 87 = .ok (.iconst 0, 1) := bX8_join_69.2.2.2.2.2.2.2.2.2.2.2.2.2.2.1
theorem dX8_join_88 : decode cX8_join 88 = .ok (.iastore, 1) := bX8_join_69.2.2.2.2.2.2.2.2.2.2.2.2.2.2.2
theorem bX8_join_89 : (decode cX8_join 89 = .ok (.iload 5, 2)) ∧ (decode cX8_join 91 = .ok (.ireturn, 1)) := by decide +kernel
theorem dX8_join_89 : decode cX8_join 89 = .ok (.iload 5, 2) := bX8_join_89.1
theorem dX8_join_91 : decode cX8_join 91 = .ok (.ireturn, 1) := bX8_join_89.2
theorem bX8_one_0 : (decode cX8_one 0 = .ok (.iload_n 1, 1)) ∧ (decode cX8_one 1 = .ok (.iconst 0, 1)) ∧ (decode cX8_one 2 = .ok (.iconst 5, 1)) ∧ (decode cX8_one 3 = .ok (.invokestatic 44, 3)) ∧ (decode cX8_one 6 = .ok (.ifCond .eq 23, 3)) ∧ (decode cX8_one 9 = .ok (.iload_n 2, 1)) ∧ (decode cX8_one 10 = .ok (.iconst 1, 1)) ∧ (decode cX8_one 11 = .ok (.bipush 9, 2)) ∧ (decode cX8_one 13 = .ok (.invokestatic 44, 3)) ∧ (decode cX8_one 16 = .ok (.ifCond .eq 13, 3)) ∧ (decode cX8_one 19 = .ok (.iload_n 3, 1)) ∧ (decode cX8_one 20 = .ok (.iconst 0, 1)) ∧ (decode cX8_one 21 = .ok (.bipush 99, 2)) ∧ (decode cX8_one 23 = .ok (.invokestatic 44, 3)) ∧ (decode cX8_one 26 = .ok (.ifCond .ne 8, 3)) ∧ (decode cX8_one 29 = .ok (.aload_n 0, 1)) := by decide +kernel
theorem dX8_one_0 : decode cX8_one 0 = .ok (.iload_n 1, 1) := bX8_one_0.1
theorem dX8_one_1 : decode cX8_one 1 = .ok (.iconst 0, 1) := bX8_one_0.2.1
theorem dX8_one_2 : decode cX8_one 2 = .ok (.iconst 5, 1) := bX8_one_0.2.2.1
theorem dX8_one_3 : decode cX8_one 3 = .ok (.invokestatic 44, 3) := bX8_one_0.2.2.2.1
theorem dX8_one_6 : decode cX8_one 6 = .ok (.ifCond .eq 23, 3) := bX8_one_0.2.2.2.2.1
theorem dX8_one_9 : decode cX8_one 9 = .ok (.iload_n 2, 1) := bX8_one_0.2.2.2.2.2.1
theorem dX8_one_10 : decode cX8_one 10 = .ok (.iconst 1, 1) := bX8_one_0.2.2.2.2.2.2.1
theorem dX8_one_11 : decode cX8_one 11 = .ok (.bipush 9, 2) := bX8_one_0.2.2.2.2.2.2.2.1
theorem dX8_one_13 : decode cX8_one 13 = .ok (.invokestatic 44, 3) := bX8_one_0.2.2.2.2.2.2.2.2.1
theorem dX8_one_16 : decode cX8_one 16 = .ok (.ifCond .eq 13, 3) := bX8_one_0.2.2.2.2.2.2.2.2.2.1
theorem dX8_one_19 : decode cX8_one 19 = .ok (.iload_n 3, 1) := bX8_one_0.2.2.2.2.2.2.2.2.2.2.1
theorem dX8_one_20 : decode cX8_one 20 = .ok (.iconst 0, 1) := bX8_one_0.2.2.2.2.2.2.2.2.2.2.2.1
theorem dX8_one_21 : decode cX8_one 21 = .ok (.bipush 99, 2) := bX8_one_0.2.2.2.2.2.2.2.2.2.2.2.2.1
theorem dX8_one_23 : decode cX8_one 23 = .ok (.invokestatic 44, 3) := bX8_one_0.2.2.2.2.2.2.2.2.2.2.2.2.2.1
theorem dX8_one_26 : decode cX8_one 26 = .ok (.ifCond .ne 8, 3) := bX8_one_0.2.2.2.2.2.2.2.2.2.2.2.2.2.2.1
theorem dX8_one_29 : decode cX8_one 29 = .ok (.aload_n 0, 1) := bX8_one_0.2.2.2.2.2.2.2.2.2.2.2.2.2.2.2
theorem bX8_one_30 : (decode cX8_one 30 = .ok (.invokevirtual 69, 3)) ∧ (decode cX8_one 33 = .ok (.ireturn, 1)) ∧ (decode cX8_one 34 = .ok (.aload_n 0, 1)) ∧ (decode cX8_one 35 = .ok (.getfield 13, 3)) ∧ (decode cX8_one 38 = .ok (.iconst 1, 1)) ∧ (decode cX8_one 39 = .ok (.iaload, 1)) ∧ (decode cX8_one 40 = .ok (.bipush 7, 2)) ∧ (decode cX8_one 42 = .ok (.if_icmp .ne 10, 3)) ∧ (decode cX8_one 45 = .ok (.aload_n 0, 1)) ∧ (decode cX8_one 46 = .ok (.invokevirtual 73, 3)) ∧ (decode cX8_one 49 = .ok (.goto 11, 3)) ∧ (decode cX8_one 52 = .ok (.aload_n 0, 1)) ∧ (decode cX8_one 53 = .ok (.iconst 0, 1)) ∧ (decode cX8_one 54 = .ok (.iload_n 1, 1)) ∧ (decode cX8_one 55 = .ok (.iload_n 2, 1)) ∧ (decode cX8_one 56 = .ok (.iload_n 3, 1)) := by decide +kernel
theorem dX8_one_30 : decode cX8_one 30 = .ok (.invokevirtual 69, 3) := bX8_one_30.1
theorem dX8_one_33 : decode cX8_one 33 = .ok (.ireturn, 1) := bX8_one_30.2.1
theorem dX8_one_34 : decode cX8_one 34 = .ok (.aload_n 0, 1) := bX8_one_30.2.2.1
theorem dX8_one_35 : decode cX8_one 35 = .ok (.getfield 13, 3) := bX8_one_30.2.2.2.1
theorem dX8_one_38 : decode cX8_one 38 = .ok (.iconst 1, 1) := bX8_one_30.2.2.2.2.1
theorem dX8_one_39 : decode cX8_one 39 = .ok (.iaload, 1) := bX8_one_30.2.2.2.2.2.1
theorem dX8_one_40 : decode cX8_one 40 = .ok (.bipush 7, 2) := bX8_one_30.2.2.2.2.2.2.1
theorem dX8_one_42 : decode cX8_one 42 = .ok (.if_icmp .ne 10, 3) := bX8_one_30.2.2.2.2.2.2.2.1
theorem dX8_one_45 : decode cX8_one 45 = .ok (.aload_n 0, 1) := bX8_one_30.2.2.2.2.2.2.2.2.1
theorem dX8_one_46 : decode cX8_one 46 = .ok (.invokevirtual 73, 3) := bX8_one_30.2.2.2.2.2.2.2.2.2.1
theorem dX8_one_49 : decode cX8_one 49 = .ok (.goto 11, 3) := bX8_one_30.2.2.2.2.2.2.2.2.2.2.1
theorem dX8_one_52 : decode cX8_one 52 = .ok (.aload_n 0, 1) := bX8_one_30.2.2.2.2.2.2.2.2.2.2.2.1
theorem dX8_one_53 : decode cX8_one 53 = .ok (.iconst 0, 1) := bX8_one_30.2.2.2.2.2.2.2.2.2.2.2.2.1
theorem dX8_one_54 : decode cX8_one 54 = .ok (.iload_n 1, 1) := bX8_one_30.2.2.2.2.2.2.2.2.2.2.2.2.2.1
theorem dX8_one_55 : decode cX8_one 55 = .ok (.iload_n 2, 1) := bX8_one_30.2.2.2.2.2.2.2.2.2.2.2.2.2.2.1
theorem dX8_one_56 : decode cX8_one 56 = .ok (.iload_n 3, 1) := bX8_one_30.2.2.2.2.2.2.2.2.2.2.2.2.2.2.2
theorem bX8_one_57 : (decode cX8_one 57 = .ok (.invokevirtual 79, 3)) ∧ (decode cX8_one 60 = .ok (.ireturn, 1)) := by decide +kernel
theorem dX8_one_57 : decode cX8_one 57 = .ok (.invokevirtual 79, 3) := bX8_one_57.1
theorem dX8_one_60 : decode cX8_one 60 = .ok (.ireturn, 1) := bX8_one_57.2
theorem bX8_type_0 : (decode cX8_type 0 = .ok (.iload_n 1, 1)) ∧ (decode cX8_type 1 = .ok (.iconst 0, 1)) ∧ (decode cX8_type 2 = .ok (.bipush 127, 2)) ∧ (decode cX8_type 4 = .ok (.invokestatic 44, 3)) ∧ (decode cX8_type 7 = .ok (.ifCond .ne 8, 3)) ∧ (decode cX8_type 10 = .ok (.aload_n 0, 1)) ∧ (decode cX8_type 11 = .ok (.invokevirtual 69, 3)) ∧ (decode cX8_type 14 = .ok (.ireturn, 1)) ∧ (decode cX8_type 15 = .ok (.aload_n 0, 1)) ∧ (decode cX8_type 16 = .ok (.getfield 83, 3)) ∧ (decode cX8_type 19 = .ok (.sipush 150, 3)) ∧ (decode cX8_type 22 = .ok (.if_icmp .ne 8, 3)) ∧ (decode cX8_type 25 = .ok (.aload_n 0, 1)) ∧ (decode cX8_type 26 = .ok (.invokevirtual 73, 3)) ∧ (decode cX8_type 29 = .ok (.ireturn, 1)) ∧ (decode cX8_type 30 = .ok (.aload_n 0, 1)) := by decide +kernel
theorem dX8_type_0 : decode cX8_type 0 = .ok (.iload_n 1, 1) := bX8_type_0.1
theorem dX8_type_1 : decode cX8_type 1 = .ok (.iconst 0, 1) := bX8_type_0.2.1
theorem dX8_type_2 : decode cX8_type 2 = .ok (.bipush 127, 2) := bX8_type_0.2.2.1
theorem dX8_type_4 : decode cX8_type 4 = .ok (.invokestatic 44, 3) := bX8_type_0.2.2.2.1
theorem dX8_type_7 : decode cX8_type 7 = .ok (.ifCond .ne 8, 3) := bX8_type_0.2.2.2.2.1
theorem dX8_type_10 : decode cX8_type 10 = .ok (.aload_n 0, 1) := bX8_type_0.2.2.2.2.2.1
theorem dX8_type_11 : decode cX8_type 11 = .ok (.invokevirtual 69, 3) := bX8_type_0.2.2.2.2.2.2.1
theorem dX8_type_14 : decode cX8_type 14 = .ok (.ireturn, 1) := bX8_type_0.2.2.2.2.2.2.2.1
theorem dX8_type_15 : decode cX8_type 15 = .ok (.aload_n 0, 1) := bX8_type_0.2.2.2.2.2.2.2.2.1
theorem dX8_type_16 : decode cX8_type 16 = .ok (.getfield 83, 3) := bX8_type_0.2.2.2.2.2.2.2.2.2.1
theorem dX8_type_19 : decode cX8_type 19 = .ok (.sipush 150, 3) := bX8_type_0.2.2.2.2.2.2.2.2.2.2.1
theorem dX8_type_22 : decode cX8_type 22 = .ok (.if_icmp .ne 8, 3) := bX8_type_0.2.2.2.2.2.2.2.2.2.2.2.1
theorem dX8_type_25 : decode cX8_type 25 = .ok (.aload_n 0, 1) := bX8_type_0.2.2.2.2.2.2.2.2.2.2.2.2.1
theorem dX8_type_26 : decode cX8_type 26 = .ok (.invokevirtual 73, 3) := bX8_type_0.2.2.2.2.2.2.2.2.2.2.2.2.2.1
theorem dX8_type_29 : decode cX8_type 29 = .ok (.ireturn, 1) := bX8_type_0.2.2.2.2.2.2.2.2.2.2.2.2.2.2.1
theorem dX8_type_30 : decode cX8_type 30 = .ok (.aload_n 0, 1) := bX8_type_0.2.2.2.2.2.2.2.2.2.2.2.2.2.2.2
theorem bX8_type_31 : (decode cX8_type 31 = .ok (.getfield 23, 3)) ∧ (decode cX8_type 34 = .ok (.aload_n 0, 1)) ∧ (decode cX8_type 35 = .ok (.getfield 83, 3)) ∧ (decode cX8_type 38 = .ok (.iload_n 1, 1)) ∧ (decode cX8_type 39 = .ok (.i2b, 1)) ∧ (decode cX8_type 40 = .ok (.bastore, 1)) ∧ (decode cX8_type 41 = .ok (.aload_n 0, 1)) ∧ (decode cX8_type 42 = .ok (.dup, 1)) ∧ (decode cX8_type 43 = .ok (.getfield 83, 3)) ∧ (decode cX8_type 46 = .ok (.iconst 1, 1)) ∧ (decode cX8_type 47 = .ok (.iadd, 1)) ∧ (decode cX8_type 48 = .ok (.putfield 83, 3)) ∧ (decode cX8_type 51 = .ok (.aload_n 0, 1)) ∧ (decode cX8_type 52 = .ok (.getfield 83, 3)) ∧ (decode cX8_type 55 = .ok (.ireturn, 1)) := by decide +kernel
theorem dX8_type_31 : decode cX8_type 31 = .ok (.getfield 23, 3) := bX8_type_31.1
theorem dX8_type_34 : decode cX8_type 34 = .ok (.aload_n 0, 1) := bX8_type_31.2.1
theorem dX8_type_35 : decode cX8_type 35 = .ok (.getfield 83, 3) := bX8_type_31.2.2.1
theorem dX8_type_38 : decode cX8_type 38 = .ok (.iload_n 1, 1) := bX8_type_31.2.2.2.1
theorem dX8_type_39 : decode cX8_type 39 = .ok (.i2b, 1) := bX8_type_31.2.2.2.2.1
theorem dX8_type_40 : decode cX8_type 40 = .ok (.bastore, 1) := bX8_type_31.2.2.2.2.2.1
theorem dX8_type_41 : decode cX8_type 41 = .ok (.aload_n 0, 1) := bX8_type_31.2.2.2.2.2.2.1
theorem dX8_type_42 : decode cX8_type 42 = .ok (.dup, 1) := bX8_type_31.2.2.2.2.2.2.2.1
theorem dX8_type_43 : decode cX8_type 43 = .ok (.getfield 83, 3) := bX8_type_31.2.2.2.2.2.2.2.2.1
theorem dX8_type_46 : decode cX8_type 46 = .ok (.iconst 1, 1) := bX8_type_31.2.2.2.2.2.2.2.2.2.1
theorem dX8_type_47 : decode cX8_type 47 = .ok (.iadd, 1) := bX8_type_31.2.2.2.2.2.2.2.2.2.2.1
theorem dX8_type_48 : decode cX8_type 48 = .ok (.putfield 83, 3) := bX8_type_31.2.2.2.2.2.2.2.2.2.2.2.1
theorem dX8_type_51 : decode cX8_type 51 = .ok (.aload_n 0, 1) := bX8_type_31.2.2.2.2.2.2.2.2.2.2.2.2.1
theorem dX8_type_52 : decode cX8_type 52 = .ok (.getfield 83, 3) := bX8_type_31.2.2.2.2.2.2.2.2.2.2.2.2.2.1
theorem dX8_type_55 : decode cX8_type 55 = .ok (.ireturn, 1) := bX8_type_31.2.2.2.2.2.2.2.2.2.2.2.2.2.2
theorem bX8_clear_0 : (decode cX8_clear 0 = .ok (.aload_n 0, 1)) ∧ (decode cX8_clear 1 = .ok (.getfield 83, 3)) ∧ (decode cX8_clear 4 = .ok (.istore_n 1, 1)) ∧ (decode cX8_clear 5 = .ok (.aload_n 0, 1)) ∧ (decode cX8_clear 6 = .ok (.iconst 0, 1)) ∧ (decode cX8_clear 7 = .ok (.putfield 83, 3)) ∧ (decode cX8_clear 10 = .ok (.iload_n 1, 1)) ∧ (decode cX8_clear 11 = .ok (.ireturn, 1)) := by decide +kernel
theorem dX8_clear_0 : decode cX8_clear 0 = .ok (.aload_n 0, 1) := bX8_clear_0.1
theorem dX8_clear_1 : decode cX8_clear 1 = .ok (.getfield 83, 3) := bX8_clear_0.2.1
theorem dX8_clear_4 : decode cX8_clear 4 = .ok (.istore_n 1, 1) := bX8_clear_0.2.2.1
theorem dX8_clear_5 : decode cX8_clear 5 = .ok (.aload_n 0, 1) := bX8_clear_0.2.2.2.1
theorem dX8_clear_6 : decode cX8_clear 6 = .ok (.iconst 0, 1) := bX8_clear_0.2.2.2.2.1
theorem dX8_clear_7 : decode cX8_clear 7 = .ok (.putfield 83, 3) := bX8_clear_0.2.2.2.2.2.1
theorem dX8_clear_10 : decode cX8_clear 10 = .ok (.iload_n 1, 1) := bX8_clear_0.2.2.2.2.2.2.1
theorem dX8_clear_11 : decode cX8_clear 11 = .ok (.ireturn, 1) := bX8_clear_0.2.2.2.2.2.2.2
theorem bX8_here_0 : (decode cX8_here 0 = .ok (.aload_n 0, 1)) ∧ (decode cX8_here 1 = .ok (.getfield 87, 3)) ∧ (decode cX8_here 4 = .ok (.aload_n 0, 1)) ∧ (decode cX8_here 5 = .ok (.getfield 83, 3)) ∧ (decode cX8_here 8 = .ok (.if_icmp .ge 15, 3)) ∧ (decode cX8_here 11 = .ok (.aload_n 0, 1)) ∧ (decode cX8_here 12 = .ok (.getfield 23, 3)) ∧ (decode cX8_here 15 = .ok (.aload_n 0, 1)) ∧ (decode cX8_here 16 = .ok (.getfield 87, 3)) ∧ (decode cX8_here 19 = .ok (.baload, 1)) ∧ (decode cX8_here 20 = .ok (.goto 4, 3)) ∧ (decode cX8_here 23 = .ok (.iconst (-1), 1)) ∧ (decode cX8_here 24 = .ok (.ireturn, 1)) := by decide +kernel
theorem dX8_here_0 : decode cX8_here 0 = .ok (.aload_n 0, 1) := bX8_here_0.1
theorem dX8_here_1 : decode cX8_here 1 = .ok (.getfield 87, 3) := bX8_here_0.2.1
theorem dX8_here_4 : decode cX8_here 4 = .ok (.aload_n 0, 1) := bX8_here_0.2.2.1
theorem dX8_here_5 : decode cX8_here 5 = .ok (.getfield 83, 3) := bX8_here_0.2.2.2.1
theorem dX8_here_8 : decode cX8_here 8 = .ok (.if_icmp .ge 15, 3) := bX8_here_0.2.2.2.2.1
theorem dX8_here_11 : decode cX8_here 11 = .ok (.aload_n 0, 1) := bX8_here_0.2.2.2.2.2.1
theorem dX8_here_12 : decode cX8_here 12 = .ok (.getfield 23, 3) := bX8_here_0.2.2.2.2.2.2.1
theorem dX8_here_15 : decode cX8_here 15 = .ok (.aload_n 0, 1) := bX8_here_0.2.2.2.2.2.2.2.1
theorem dX8_here_16 : decode cX8_here 16 = .ok (.getfield 87, 3) := bX8_here_0.2.2.2.2.2.2.2.2.1
theorem dX8_here_19 : decode cX8_here 19 = .ok (.baload, 1) := bX8_here_0.2.2.2.2.2.2.2.2.2.1
theorem dX8_here_20 : decode cX8_here 20 = .ok (.goto 4, 3) := bX8_here_0.2.2.2.2.2.2.2.2.2.2.1
theorem dX8_here_23 : decode cX8_here 23 = .ok (.iconst (-1), 1) := bX8_here_0.2.2.2.2.2.2.2.2.2.2.2.1
theorem dX8_here_24 : decode cX8_here 24 = .ok (.ireturn, 1) := bX8_here_0.2.2.2.2.2.2.2.2.2.2.2.2
theorem bX8_spells_0 : (decode cX8_spells 0 = .ok (.aload_n 0, 1)) ∧ (decode cX8_spells 1 = .ok (.getfield 87, 3)) ∧ (decode cX8_spells 4 = .ok (.aload_n 0, 1)) ∧ (decode cX8_spells 5 = .ok (.getfield 90, 3)) ∧ (decode cX8_spells 8 = .ok (.isub, 1)) ∧ (decode cX8_spells 9 = .ok (.iload 7, 2)) ∧ (decode cX8_spells 11 = .ok (.if_icmp .ne 50, 3)) ∧ (decode cX8_spells 14 = .ok (.aload_n 0, 1)) ∧ (decode cX8_spells 15 = .ok (.getfield 23, 3)) ∧ (decode cX8_spells 18 = .ok (.aload_n 0, 1)) ∧ (decode cX8_spells 19 = .ok (.getfield 90, 3)) ∧ (decode cX8_spells 22 = .ok (.baload, 1)) ∧ (decode cX8_spells 23 = .ok (.iload_n 1, 1)) ∧ (decode cX8_spells 24 = .ok (.if_icmp .ne 37, 3)) ∧ (decode cX8_spells 27 = .ok (.aload_n 0, 1)) ∧ (decode cX8_spells 28 = .ok (.getfield 23, 3)) := by decide +kernel
theorem dX8_spells_0 : decode cX8_spells 0 = .ok (.aload_n 0, 1) := bX8_spells_0.1
theorem dX8_spells_1 : decode cX8_spells 1 = .ok (.getfield 87, 3) := bX8_spells_0.2.1
theorem dX8_spells_4 : decode cX8_spells 4 = .ok (.aload_n 0, 1) := bX8_spells_0.2.2.1
theorem dX8_spells_5 : decode cX8_spells 5 = .ok (.getfield 90, 3) := bX8_spells_0.2.2.2.1
theorem dX8_spells_8 : decode cX8_spells 8 = .ok (.isub, 1) := bX8_spells_0.2.2.2.2.1
theorem dX8_spells_9 : decode cX8_spells 9 = .ok (.iload 7, 2) := bX8_spells_0.2.2.2.2.2.1
theorem dX8_spells_11 : decode cX8_spells 11 = .ok (.if_icmp .ne 50, 3) := bX8_spells_0.2.2.2.2.2.2.1
theorem dX8_spells_14 : decode cX8_spells 14 = .ok (.aload_n 0, 1) := bX8_spells_0.2.2.2.2.2.2.2.1
theorem dX8_spells_15 : decode cX8_spells 15 = .ok (.getfield 23, 3) := bX8_spells_0.2.2.2.2.2.2.2.2.1
theorem dX8_spells_18 : decode cX8_spells 18 = .ok (.aload_n 0, 1) := bX8_spells_0.2.2.2.2.2.2.2.2.2.1
theorem dX8_spells_19 : decode cX8_spells 19 = .ok (.getfield 90, 3) := bX8_spells_0.2.2.2.2.2.2.2.2.2.2.1
theorem dX8_spells_22 : decode cX8_spells 22 = .ok (.baload, 1) := bX8_spells_0.2.2.2.2.2.2.2.2.2.2.2.1
theorem dX8_spells_23 : decode cX8_spells 23 = .ok (.iload_n 1, 1) := bX8_spells_0.2.2.2.2.2.2.2.2.2.2.2.2.1
theorem dX8_spells_24 : decode cX8_spells 24 = .ok (.if_icmp .ne 37, 3) := bX8_spells_0.2.2.2.2.2.2.2.2.2.2.2.2.2.1
theorem dX8_spells_27 : decode cX8_spells 27 = .ok (.aload_n 0, 1) := bX8_spells_0.2.2.2.2.2.2.2.2.2.2.2.2.2.2.1
theorem dX8_spells_28 : decode cX8_spells 28 = .ok (.getfield 23, 3) := bX8_spells_0.2.2.2.2.2.2.2.2.2.2.2.2.2.2.2
theorem bX8_spells_31 : (decode cX8_spells 31 = .ok (.aload_n 0, 1)) ∧ (decode cX8_spells 32 = .ok (.getfield 90, 3)) ∧ (decode cX8_spells 35 = .ok (.iconst 1, 1)) ∧ (decode cX8_spells 36 = .ok (.iadd, 1)) ∧ (decode cX8_spells 37 = .ok (.baload, 1)) ∧ (decode cX8_spells 38 = .ok (.iload_n 2, 1)) ∧ (decode cX8_spells 39 = .ok (.if_icmp .ne 22, 3)) ∧ (decode cX8_spells 42 = .ok (.aload_n 0, 1)) ∧ (decode cX8_spells 43 = .ok (.getfield 23, 3)) ∧ (decode cX8_spells 46 = .ok (.aload_n 0, 1)) ∧ (decode cX8_spells 47 = .ok (.getfield 90, 3)) ∧ (decode cX8_spells 50 = .ok (.iconst 2, 1)) ∧ (decode cX8_spells 51 = .ok (.iadd, 1)) ∧ (decode cX8_spells 52 = .ok (.baload, 1)) ∧ (decode cX8_spells 53 = .ok (.iload_n 3, 1)) ∧ (decode cX8_spells 54 = .ok (.if_icmp .ne 7, 3)) := by decide +kernel
theorem dX8_spells_31 : decode cX8_spells 31 = .ok (.aload_n 0, 1) := bX8_spells_31.1
theorem dX8_spells_32 : decode cX8_spells 32 = .ok (.getfield 90, 3) := bX8_spells_31.2.1
theorem dX8_spells_35 : decode cX8_spells 35 = .ok (.iconst 1, 1) := bX8_spells_31.2.2.1
theorem dX8_spells_36 : decode cX8_spells 36 = .ok (.iadd, 1) := bX8_spells_31.2.2.2.1
theorem dX8_spells_37 : decode cX8_spells 37 = .ok (.baload, 1) := bX8_spells_31.2.2.2.2.1
theorem dX8_spells_38 : decode cX8_spells 38 = .ok (.iload_n 2, 1) := bX8_spells_31.2.2.2.2.2.1
theorem dX8_spells_39 : decode cX8_spells 39 = .ok (.if_icmp .ne 22, 3) := bX8_spells_31.2.2.2.2.2.2.1
theorem dX8_spells_42 : decode cX8_spells 42 = .ok (.aload_n 0, 1) := bX8_spells_31.2.2.2.2.2.2.2.1
theorem dX8_spells_43 : decode cX8_spells 43 = .ok (.getfield 23, 3) := bX8_spells_31.2.2.2.2.2.2.2.2.1
theorem dX8_spells_46 : decode cX8_spells 46 = .ok (.aload_n 0, 1) := bX8_spells_31.2.2.2.2.2.2.2.2.2.1
theorem dX8_spells_47 : decode cX8_spells 47 = .ok (.getfield 90, 3) := bX8_spells_31.2.2.2.2.2.2.2.2.2.2.1
theorem dX8_spells_50 : decode cX8_spells 50 = .ok (.iconst 2, 1) := bX8_spells_31.2.2.2.2.2.2.2.2.2.2.2.1
theorem dX8_spells_51 : decode cX8_spells 51 = .ok (.iadd, 1) := bX8_spells_31.2.2.2.2.2.2.2.2.2.2.2.2.1
theorem dX8_spells_52 : decode cX8_spells 52 = .ok (.baload, 1) := bX8_spells_31.2.2.2.2.2.2.2.2.2.2.2.2.2.1
theorem dX8_spells_53 : decode cX8_spells 53 = .ok (.iload_n 3, 1) := bX8_spells_31.2.2.2.2.2.2.2.2.2.2.2.2.2.2.1
theorem dX8_spells_54 : decode cX8_spells 54 = .ok (.if_icmp .ne 7, 3) := bX8_spells_31.2.2.2.2.2.2.2.2.2.2.2.2.2.2.2
theorem bX8_spells_57 : (decode cX8_spells 57 = .ok (.iconst 1, 1)) ∧ (decode cX8_spells 58 = .ok (.goto 4, 3)) ∧ (decode cX8_spells 61 = .ok (.iconst 0, 1)) ∧ (decode cX8_spells 62 = .ok (.istore 8, 2)) ∧ (decode cX8_spells 64 = .ok (.iload 8, 2)) ∧ (decode cX8_spells 66 = .ok (.ifCond .eq 51, 3)) ∧ (decode cX8_spells 69 = .ok (.iload 7, 2)) ∧ (decode cX8_spells 71 = .ok (.iconst 4, 1)) ∧ (decode cX8_spells 72 = .ok (.if_icmp .lt 19, 3)) ∧ (decode cX8_spells 75 = .ok (.aload_n 0, 1)) ∧ (decode cX8_spells 76 = .ok (.getfield 23, 3)) ∧ (decode cX8_spells 79 = .ok (.aload_n 0, 1)) ∧ (decode cX8_spells 80 = .ok (.getfield 90, 3)) ∧ (decode cX8_spells 83 = .ok (.iconst 3, 1)) ∧ (decode cX8_spells 84 = .ok (.iadd, 1)) ∧ (decode cX8_spells 85 = .ok (.baload, 1)) := by decide +kernel
theorem dX8_spells_57 : decode cX8_spells 57 = .ok (.iconst 1, 1) := bX8_spells_57.1
theorem dX8_spells_58 : decode cX8_spells 58 = .ok (.goto 4, 3) := bX8_spells_57.2.1
theorem dX8_spells_61 : decode cX8_spells 61 = .ok (.iconst 0, 1) := bX8_spells_57.2.2.1
theorem dX8_spells_62 : decode cX8_spells 62 = .ok (.istore 8, 2) := bX8_spells_57.2.2.2.1
theorem dX8_spells_64 : decode cX8_spells 64 = .ok (.iload 8, 2) := bX8_spells_57.2.2.2.2.1
theorem dX8_spells_66 : decode cX8_spells 66 = .ok (.ifCond .eq 51, 3) := bX8_spells_57.2.2.2.2.2.1
theorem dX8_spells_69 : decode cX8_spells 69 = .ok (.iload 7, 2) := bX8_spells_57.2.2.2.2.2.2.1
theorem dX8_spells_71 : decode cX8_spells 71 = .ok (.iconst 4, 1) := bX8_spells_57.2.2.2.2.2.2.2.1
theorem dX8_spells_72 : decode cX8_spells 72 = .ok (.if_icmp .lt 19, 3) := bX8_spells_57.2.2.2.2.2.2.2.2.1
theorem dX8_spells_75 : decode cX8_spells 75 = .ok (.aload_n 0, 1) := bX8_spells_57.2.2.2.2.2.2.2.2.2.1
theorem dX8_spells_76 : decode cX8_spells 76 = .ok (.getfield 23, 3) := bX8_spells_57.2.2.2.2.2.2.2.2.2.2.1
theorem dX8_spells_79 : decode cX8_spells 79 = .ok (.aload_n 0, 1) := bX8_spells_57.2.2.2.2.2.2.2.2.2.2.2.1
theorem dX8_spells_80 : decode cX8_spells 80 = .ok (.getfield 90, 3) := bX8_spells_57.2.2.2.2.2.2.2.2.2.2.2.2.1
theorem dX8_spells_83 : decode cX8_spells 83 = .ok (.iconst 3, 1) := bX8_spells_57.2.2.2.2.2.2.2.2.2.2.2.2.2.1
theorem dX8_spells_84 : decode cX8_spells 84 = .ok (.iadd, 1) := bX8_spells_57.2.2.2.2.2.2.2.2.2.2.2.2.2.2.1
theorem dX8_spells_85 : decode cX8_spells 85 = .ok (.baload, 1) := bX8_spells_57.2.2.2.2.2.2.2.2.2.2.2.2.2.2.2
theorem bX8_spells_86 : (decode cX8_spells 86 = .ok (.iload 4, 2)) ∧ (decode cX8_spells 88 = .ok (.if_icmp .ne 29, 3)) ∧ (decode cX8_spells 91 = .ok (.iload 7, 2)) ∧ (decode cX8_spells 93 = .ok (.iconst 5, 1)) ∧ (decode cX8_spells 94 = .ok (.if_icmp .lt 19, 3)) ∧ (decode cX8_spells 97 = .ok (.aload_n 0, 1)) ∧ (decode cX8_spells 98 = .ok (.getfield 23, 3)) ∧ (decode cX8_spells 101 = .ok (.aload_n 0, 1)) ∧ (decode cX8_spells 102 = .ok (.getfield 90, 3)) ∧ (decode cX8_spells 105 = .ok (.iconst 4, 1)) ∧ (decode cX8_spells 106 = .ok (.iadd, 1)) ∧ (decode cX8_spells 107 = .ok (.baload, 1)) ∧ (decode cX8_spells 108 = .ok (.iload 5, 2)) ∧ (decode cX8_spells 110 = .ok (.if_icmp .ne 7, 3)) ∧ (decode cX8_spells 113 = .ok (.iconst 1, 1)) ∧ (decode cX8_spells 114 = .ok (.goto 4, 3)) := by decide +kernel
theorem dX8_spells_86 : decode cX8_spells 86 = .ok (.iload 4, 2) := bX8_spells_86.1
theorem dX8_spells_88 : decode cX8_spells 88 = .ok (.if_icmp .ne 29, 3) := bX8_spells_86.2.1
theorem dX8_spells_91 : decode cX8_spells 91 = .ok (.iload 7, 2) := bX8_spells_86.2.2.1
theorem dX8_spells_93 : decode cX8_spells 93 = .ok (.iconst 5, 1) := bX8_spells_86.2.2.2.1
theorem dX8_spells_94 : decode cX8_spells 94 = .ok (.if_icmp .lt 19, 3) := bX8_spells_86.2.2.2.2.1
theorem dX8_spells_97 : decode cX8_spells 97 = .ok (.aload_n 0, 1) := bX8_spells_86.2.2.2.2.2.1
theorem dX8_spells_98 : decode cX8_spells 98 = .ok (.getfield 23, 3) := bX8_spells_86.2.2.2.2.2.2.1
theorem dX8_spells_101 : decode cX8_spells 101 = .ok (.aload_n 0, 1) := bX8_spells_86.2.2.2.2.2.2.2.1
theorem dX8_spells_102 : decode cX8_spells 102 = .ok (.getfield 90, 3) := bX8_spells_86.2.2.2.2.2.2.2.2.1
theorem dX8_spells_105 : decode cX8_spells 105 = .ok (.iconst 4, 1) := bX8_spells_86.2.2.2.2.2.2.2.2.2.1
theorem dX8_spells_106 : decode cX8_spells 106 = .ok (.iadd, 1) := bX8_spells_86.2.2.2.2.2.2.2.2.2.2.1
theorem dX8_spells_107 : decode cX8_spells 107 = .ok (.baload, 1) := bX8_spells_86.2.2.2.2.2.2.2.2.2.2.2.1
theorem dX8_spells_108 : decode cX8_spells 108 = .ok (.iload 5, 2) := bX8_spells_86.2.2.2.2.2.2.2.2.2.2.2.2.1
theorem dX8_spells_110 : decode cX8_spells 110 = .ok (.if_icmp .ne 7, 3) := bX8_spells_86.2.2.2.2.2.2.2.2.2.2.2.2.2.1
theorem dX8_spells_113 : decode cX8_spells 113 = .ok (.iconst 1, 1) := bX8_spells_86.2.2.2.2.2.2.2.2.2.2.2.2.2.2.1
theorem dX8_spells_114 : decode cX8_spells 114 = .ok (.goto 4, 3) := bX8_spells_86.2.2.2.2.2.2.2.2.2.2.2.2.2.2.2
theorem bX8_spells_117 : (decode cX8_spells 117 = .ok (.iconst 0, 1)) ∧ (decode cX8_spells 118 = .ok (.istore 8, 2)) ∧ (decode cX8_spells 120 = .ok (.iload 8, 2)) ∧ (decode cX8_spells 122 = .ok (.ifCond .eq 30, 3)) ∧ (decode cX8_spells 125 = .ok (.iload 7, 2)) ∧ (decode cX8_spells 127 = .ok (.bipush 6, 2)) ∧ (decode cX8_spells 129 = .ok (.if_icmp .lt 19, 3)) ∧ (decode cX8_spells 132 = .ok (.aload_n 0, 1)) ∧ (decode cX8_spells 133 = .ok (.getfield 23, 3)) ∧ (decode cX8_spells 136 = .ok (.aload_n 0, 1)) ∧ (decode cX8_spells 137 = .ok (.getfield 90, 3)) ∧ (decode cX8_spells 140 = .ok (.iconst 5, 1)) ∧ (decode cX8_spells 141 = .ok (.iadd, 1)) ∧ (decode cX8_spells 142 = .ok (.baload, 1)) ∧ (decode cX8_spells 143 = .ok (.iload 6, 2)) ∧ (decode cX8_spells 145 = .ok (.if_icmp .ne 7, 3)) := by decide +kernel
theorem dX8_spells_117 : decode cX8_spells 117 = .ok (.iconst 0, 1) := bX8_spells_117.1
theorem dX8_spells_118 : decode cX8_spells 118 = .ok (.istore 8, 2) := bX8_spells_117.2.1
theorem dX8_spells_120 : decode cX8_spells 120 = .ok (.iload 8, 2) := bX8_spells_117.2.2.1
theorem dX8_spells_122 : decode cX8_spells 122 = .ok (.ifCond .eq 30, 3) := bX8_spells_117.2.2.2.1
theorem dX8_spells_125 : decode cX8_spells 125 = .ok (.iload 7, 2) := bX8_spells_117.2.2.2.2.1
theorem dX8_spells_127 : decode cX8_spells 127 = .ok (.bipush 6, 2) := bX8_spells_117.2.2.2.2.2.1
theorem dX8_spells_129 : decode cX8_spells 129 = .ok (.if_icmp .lt 19, 3) := bX8_spells_117.2.2.2.2.2.2.1
theorem dX8_spells_132 : decode cX8_spells 132 = .ok (.aload_n 0, 1) := bX8_spells_117.2.2.2.2.2.2.2.1
theorem dX8_spells_133 : decode cX8_spells 133 = .ok (.getfield 23, 3) := bX8_spells_117.2.2.2.2.2.2.2.2.1
theorem dX8_spells_136 : decode cX8_spells 136 = .ok (.aload_n 0, 1) := bX8_spells_117.2.2.2.2.2.2.2.2.2.1
theorem dX8_spells_137 : decode cX8_spells 137 = .ok (.getfield 90, 3) := bX8_spells_117.2.2.2.2.2.2.2.2.2.2.1
theorem dX8_spells_140 : decode cX8_spells 140 = .ok (.iconst 5, 1) := bX8_spells_117.2.2.2.2.2.2.2.2.2.2.2.1
theorem dX8_spells_141 : decode cX8_spells 141 = .ok (.iadd, 1) := bX8_spells_117.2.2.2.2.2.2.2.2.2.2.2.2.1
theorem dX8_spells_142 : decode cX8_spells 142 = .ok (.baload, 1) := bX8_spells_117.2.2.2.2.2.2.2.2.2.2.2.2.2.1
theorem dX8_spells_143 : decode cX8_spells 143 = .ok (.iload 6, 2) := bX8_spells_117.2.2.2.2.2.2.2.2.2.2.2.2.2.2.1
theorem dX8_spells_145 : decode cX8_spells 145 = .ok (.if_icmp .ne 7, 3) := bX8_spells_117.2.2.2.2.2.2.2.2.2.2.2.2.2.2.2
theorem bX8_spells_148 : (decode cX8_spells 148 = .ok (.iconst 1, 1)) ∧ (decode cX8_spells 149 = .ok (.goto 4, 3)) ∧ (decode cX8_spells 152 = .ok (.iconst 0, 1)) ∧ (decode cX8_spells 153 = .ok (.ireturn, 1)) := by decide +kernel
theorem dX8_spells_148 : decode cX8_spells 148 = .ok (.iconst 1, 1) := bX8_spells_148.1
theorem dX8_spells_149 : decode cX8_spells 149 = .ok (.goto 4, 3) := bX8_spells_148.2.1
theorem dX8_spells_152 : decode cX8_spells 152 = .ok (.iconst 0, 1) := bX8_spells_148.2.2.1
theorem dX8_spells_153 : decode cX8_spells 153 = .ok (.ireturn, 1) := bX8_spells_148.2.2.2
theorem bX8_wordOf_0 : (decode cX8_wordOf 0 = .ok (.aload_n 0, 1)) ∧ (decode cX8_wordOf 1 = .ok (.bipush 112, 2)) ∧ (decode cX8_wordOf 3 = .ok (.bipush 101, 2)) ∧ (decode cX8_wordOf 5 = .ok (.bipush 111, 2)) ∧ (decode cX8_wordOf 7 = .ok (.bipush 112, 2)) ∧ (decode cX8_wordOf 9 = .ok (.bipush 108, 2)) ∧ (decode cX8_wordOf 11 = .ok (.bipush 101, 2)) ∧ (decode cX8_wordOf 13 = .ok (.bipush 6, 2)) ∧ (decode cX8_wordOf 15 = .ok (.invokevirtual 93, 3)) ∧ (decode cX8_wordOf 18 = .ok (.ifCond .eq 7, 3)) ∧ (decode cX8_wordOf 21 = .ok (.iconst 0, 1)) ∧ (decode cX8_wordOf 22 = .ok (.goto 116, 3)) ∧ (decode cX8_wordOf 25 = .ok (.aload_n 0, 1)) ∧ (decode cX8_wordOf 26 = .ok (.bipush 116, 2)) ∧ (decode cX8_wordOf 28 = .ok (.bipush 104, 2)) ∧ (decode cX8_wordOf 30 = .ok (.bipush 105, 2)) := by decide +kernel
theorem dX8_wordOf_0 : decode cX8_wordOf 0 = .ok (.aload_n 0, 1) := bX8_wordOf_0.1
theorem dX8_wordOf_1 : decode cX8_wordOf 1 = .ok (.bipush 112, 2) := bX8_wordOf_0.2.1
theorem dX8_wordOf_3 : decode cX8_wordOf 3 = .ok (.bipush 101, 2) := bX8_wordOf_0.2.2.1
theorem dX8_wordOf_5 : decode cX8_wordOf 5 = .ok (.bipush 111, 2) := bX8_wordOf_0.2.2.2.1
theorem dX8_wordOf_7 : decode cX8_wordOf 7 = .ok (.bipush 112, 2) := bX8_wordOf_0.2.2.2.2.1
theorem dX8_wordOf_9 : decode cX8_wordOf 9 = .ok (.bipush 108, 2) := bX8_wordOf_0.2.2.2.2.2.1
theorem dX8_wordOf_11 : decode cX8_wordOf 11 = .ok (.bipush 101, 2) := bX8_wordOf_0.2.2.2.2.2.2.1
theorem dX8_wordOf_13 : decode cX8_wordOf 13 = .ok (.bipush 6, 2) := bX8_wordOf_0.2.2.2.2.2.2.2.1
theorem dX8_wordOf_15 : decode cX8_wordOf 15 = .ok (.invokevirtual 93, 3) := bX8_wordOf_0.2.2.2.2.2.2.2.2.1
theorem dX8_wordOf_18 : decode cX8_wordOf 18 = .ok (.ifCond .eq 7, 3) := bX8_wordOf_0.2.2.2.2.2.2.2.2.2.1
theorem dX8_wordOf_21 : decode cX8_wordOf 21 = .ok (.iconst 0, 1) := bX8_wordOf_0.2.2.2.2.2.2.2.2.2.2.1
theorem dX8_wordOf_22 : decode cX8_wordOf 22 = .ok (.goto 116, 3) := bX8_wordOf_0.2.2.2.2.2.2.2.2.2.2.2.1
theorem dX8_wordOf_25 : decode cX8_wordOf 25 = .ok (.aload_n 0, 1) := bX8_wordOf_0.2.2.2.2.2.2.2.2.2.2.2.2.1
theorem dX8_wordOf_26 : decode cX8_wordOf 26 = .ok (.bipush 116, 2) := bX8_wordOf_0.2.2.2.2.2.2.2.2.2.2.2.2.2.1
theorem dX8_wordOf_28 : decode cX8_wordOf 28 = .ok (.bipush 104, 2) := bX8_wordOf_0.2.2.2.2.2.2.2.2.2.2.2.2.2.2.1
theorem dX8_wordOf_30 : decode cX8_wordOf 30 = .ok (.bipush 105, 2) := bX8_wordOf_0.2.2.2.2.2.2.2.2.2.2.2.2.2.2.2
theorem bX8_wordOf_32 : (decode cX8_wordOf 32 = .ok (.bipush 110, 2)) ∧ (decode cX8_wordOf 34 = .ok (.bipush 103, 2)) ∧ (decode cX8_wordOf 36 = .ok (.iconst 0, 1)) ∧ (decode cX8_wordOf 37 = .ok (.iconst 5, 1)) ∧ (decode cX8_wordOf 38 = .ok (.invokevirtual 93, 3)) ∧ (decode cX8_wordOf 41 = .ok (.ifCond .eq 7, 3)) ∧ (decode cX8_wordOf 44 = .ok (.iconst 1, 1)) ∧ (decode cX8_wordOf 45 = .ok (.goto 93, 3)) ∧ (decode cX8_wordOf 48 = .ok (.aload_n 0, 1)) ∧ (decode cX8_wordOf 49 = .ok (.bipush 111, 2)) ∧ (decode cX8_wordOf 51 = .ok (.bipush 110, 2)) ∧ (decode cX8_wordOf 53 = .ok (.bipush 101, 2)) ∧ (decode cX8_wordOf 55 = .ok (.iconst 0, 1)) ∧ (decode cX8_wordOf 56 = .ok (.iconst 0, 1)) ∧ (decode cX8_wordOf 57 = .ok (.iconst 0, 1)) ∧ (decode cX8_wordOf 58 = .ok (.iconst 3, 1)) := by decide +kernel
theorem dX8_wordOf_32 : decode cX8_wordOf 32 = .ok (.bipush 110, 2) := bX8_wordOf_32.1
theorem dX8_wordOf_34 : decode cX8_wordOf 34 = .ok (.bipush 103, 2) := bX8_wordOf_32.2.1
theorem dX8_wordOf_36 : decode cX8_wordOf 36 = .ok (.iconst 0, 1) := bX8_wordOf_32.2.2.1
theorem dX8_wordOf_37 : decode cX8_wordOf 37 = .ok (.iconst 5, 1) := bX8_wordOf_32.2.2.2.1
theorem dX8_wordOf_38 : decode cX8_wordOf 38 = .ok (.invokevirtual 93, 3) := bX8_wordOf_32.2.2.2.2.1
theorem dX8_wordOf_41 : decode cX8_wordOf 41 = .ok (.ifCond .eq 7, 3) := bX8_wordOf_32.2.2.2.2.2.1
theorem dX8_wordOf_44 : decode cX8_wordOf 44 = .ok (.iconst 1, 1) := bX8_wordOf_32.2.2.2.2.2.2.1
theorem dX8_wordOf_45 : decode cX8_wordOf 45 = .ok (.goto 93, 3) := bX8_wordOf_32.2.2.2.2.2.2.2.1
theorem dX8_wordOf_48 : decode cX8_wordOf 48 = .ok (.aload_n 0, 1) := bX8_wordOf_32.2.2.2.2.2.2.2.2.1
theorem dX8_wordOf_49 : decode cX8_wordOf 49 = .ok (.bipush 111, 2) := bX8_wordOf_32.2.2.2.2.2.2.2.2.2.1
theorem dX8_wordOf_51 : decode cX8_wordOf 51 = .ok (.bipush 110, 2) := bX8_wordOf_32.2.2.2.2.2.2.2.2.2.2.1
theorem dX8_wordOf_53 : decode cX8_wordOf 53 = .ok (.bipush 101, 2) := bX8_wordOf_32.2.2.2.2.2.2.2.2.2.2.2.1
theorem dX8_wordOf_55 : decode cX8_wordOf 55 = .ok (.iconst 0, 1) := bX8_wordOf_32.2.2.2.2.2.2.2.2.2.2.2.2.1
theorem dX8_wordOf_56 : decode cX8_wordOf 56 = .ok (.iconst 0, 1) := bX8_wordOf_32.2.2.2.2.2.2.2.2.2.2.2.2.2.1
theorem dX8_wordOf_57 : decode cX8_wordOf 57 = .ok (.iconst 0, 1) := bX8_wordOf_32.2.2.2.2.2.2.2.2.2.2.2.2.2.2.1
theorem dX8_wordOf_58 : decode cX8_wordOf 58 = .ok (.iconst 3, 1) := bX8_wordOf_32.2.2.2.2.2.2.2.2.2.2.2.2.2.2.2
theorem bX8_wordOf_59 : (decode cX8_wordOf 59 = .ok (.invokevirtual 93, 3)) ∧ (decode cX8_wordOf 62 = .ok (.ifCond .eq 7, 3)) ∧ (decode cX8_wordOf 65 = .ok (.iconst 2, 1)) ∧ (decode cX8_wordOf 66 = .ok (.goto 72, 3)) ∧ (decode cX8_wordOf 69 = .ok (.aload_n 0, 1)) ∧ (decode cX8_wordOf 70 = .ok (.bipush 111, 2)) ∧ (decode cX8_wordOf 72 = .ok (.bipush 119, 2)) ∧ (decode cX8_wordOf 74 = .ok (.bipush 110, 2)) ∧ (decode cX8_wordOf 76 = .ok (.iconst 0, 1)) ∧ (decode cX8_wordOf 77 = .ok (.iconst 0, 1)) ∧ (decode cX8_wordOf 78 = .ok (.iconst 0, 1)) ∧ (decode cX8_wordOf 79 = .ok (.iconst 3, 1)) ∧ (decode cX8_wordOf 80 = .ok (.invokevirtual 93, 3)) ∧ (decode cX8_wordOf 83 = .ok (.ifCond .eq 7, 3)) ∧ (decode cX8_wordOf 86 = .ok (.iconst 3, 1)) ∧ (decode cX8_wordOf 87 = .ok (.goto 51, 3)) := by decide +kernel
theorem dX8_wordOf_59 : decode cX8_wordOf 59 = .ok (.invokevirtual 93, 3) := bX8_wordOf_59.1
theorem dX8_wordOf_62 : decode cX8_wordOf 62 = .ok (.ifCond .eq 7, 3) := bX8_wordOf_59.2.1
theorem dX8_wordOf_65 : decode cX8_wordOf 65 = .ok (.iconst 2, 1) := bX8_wordOf_59.2.2.1
theorem dX8_wordOf_66 : decode cX8_wordOf 66 = .ok (.goto 72, 3) := bX8_wordOf_59.2.2.2.1
theorem dX8_wordOf_69 : decode cX8_wordOf 69 = .ok (.aload_n 0, 1) := bX8_wordOf_59.2.2.2.2.1
theorem dX8_wordOf_70 : decode cX8_wordOf 70 = .ok (.bipush 111, 2) := bX8_wordOf_59.2.2.2.2.2.1
theorem dX8_wordOf_72 : decode cX8_wordOf 72 = .ok (.bipush 119, 2) := bX8_wordOf_59.2.2.2.2.2.2.1
theorem dX8_wordOf_74 : decode cX8_wordOf 74 = .ok (.bipush 110, 2) := bX8_wordOf_59.2.2.2.2.2.2.2.1
theorem dX8_wordOf_76 : decode cX8_wordOf 76 = .ok (.iconst 0, 1) := bX8_wordOf_59.2.2.2.2.2.2.2.2.1
theorem dX8_wordOf_77 : decode cX8_wordOf 77 = .ok (.iconst 0, 1) := bX8_wordOf_59.2.2.2.2.2.2.2.2.2.1
theorem dX8_wordOf_78 : decode cX8_wordOf 78 = .ok (.iconst 0, 1) := bX8_wordOf_59.2.2.2.2.2.2.2.2.2.2.1
theorem dX8_wordOf_79 : decode cX8_wordOf 79 = .ok (.iconst 3, 1) := bX8_wordOf_59.2.2.2.2.2.2.2.2.2.2.2.1
theorem dX8_wordOf_80 : decode cX8_wordOf 80 = .ok (.invokevirtual 93, 3) := bX8_wordOf_59.2.2.2.2.2.2.2.2.2.2.2.2.1
theorem dX8_wordOf_83 : decode cX8_wordOf 83 = .ok (.ifCond .eq 7, 3) := bX8_wordOf_59.2.2.2.2.2.2.2.2.2.2.2.2.2.1
theorem dX8_wordOf_86 : decode cX8_wordOf 86 = .ok (.iconst 3, 1) := bX8_wordOf_59.2.2.2.2.2.2.2.2.2.2.2.2.2.2.1
theorem dX8_wordOf_87 : decode cX8_wordOf 87 = .ok (.goto 51, 3) := bX8_wordOf_59.2.2.2.2.2.2.2.2.2.2.2.2.2.2.2
theorem bX8_wordOf_90 : (decode cX8_wordOf 90 = .ok (.aload_n 0, 1)) ∧ (decode cX8_wordOf 91 = .ok (.bipush 108, 2)) ∧ (decode cX8_wordOf 93 = .ok (.bipush 101, 2)) ∧ (decode cX8_wordOf 95 = .ok (.bipush 97, 2)) ∧ (decode cX8_wordOf 97 = .ok (.bipush 118, 2)) ∧ (decode cX8_wordOf 99 = .ok (.bipush 101, 2)) ∧ (decode cX8_wordOf 101 = .ok (.iconst 0, 1)) ∧ (decode cX8_wordOf 102 = .ok (.iconst 5, 1)) ∧ (decode cX8_wordOf 103 = .ok (.invokevirtual 93, 3)) ∧ (decode cX8_wordOf 106 = .ok (.ifCond .eq 7, 3)) ∧ (decode cX8_wordOf 109 = .ok (.iconst 4, 1)) ∧ (decode cX8_wordOf 110 = .ok (.goto 28, 3)) ∧ (decode cX8_wordOf 113 = .ok (.aload_n 0, 1)) ∧ (decode cX8_wordOf 114 = .ok (.bipush 121, 2)) ∧ (decode cX8_wordOf 116 = .ok (.bipush 101, 2)) ∧ (decode cX8_wordOf 118 = .ok (.bipush 97, 2)) := by decide +kernel
theorem dX8_wordOf_90 : decode cX8_wordOf 90 = .ok (.aload_n 0, 1) := bX8_wordOf_90.1
theorem dX8_wordOf_91 : decode cX8_wordOf 91 = .ok (.bipush 108, 2) := bX8_wordOf_90.2.1
theorem dX8_wordOf_93 : decode cX8_wordOf 93 = .ok (.bipush 101, 2) := bX8_wordOf_90.2.2.1
theorem dX8_wordOf_95 : decode cX8_wordOf 95 = .ok (.bipush 97, 2) := bX8_wordOf_90.2.2.2.1
theorem dX8_wordOf_97 : decode cX8_wordOf 97 = .ok (.bipush 118, 2) := bX8_wordOf_90.2.2.2.2.1
theorem dX8_wordOf_99 : decode cX8_wordOf 99 = .ok (.bipush 101, 2) := bX8_wordOf_90.2.2.2.2.2.1
theorem dX8_wordOf_101 : decode cX8_wordOf 101 = .ok (.iconst 0, 1) := bX8_wordOf_90.2.2.2.2.2.2.1
theorem dX8_wordOf_102 : decode cX8_wordOf 102 = .ok (.iconst 5, 1) := bX8_wordOf_90.2.2.2.2.2.2.2.1
theorem dX8_wordOf_103 : decode cX8_wordOf 103 = .ok (.invokevirtual 93, 3) := bX8_wordOf_90.2.2.2.2.2.2.2.2.1
theorem dX8_wordOf_106 : decode cX8_wordOf 106 = .ok (.ifCond .eq 7, 3) := bX8_wordOf_90.2.2.2.2.2.2.2.2.2.1
theorem dX8_wordOf_109 : decode cX8_wordOf 109 = .ok (.iconst 4, 1) := bX8_wordOf_90.2.2.2.2.2.2.2.2.2.2.1
theorem dX8_wordOf_110 : decode cX8_wordOf 110 = .ok (.goto 28, 3) := bX8_wordOf_90.2.2.2.2.2.2.2.2.2.2.2.1
theorem dX8_wordOf_113 : decode cX8_wordOf 113 = .ok (.aload_n 0, 1) := bX8_wordOf_90.2.2.2.2.2.2.2.2.2.2.2.2.1
theorem dX8_wordOf_114 : decode cX8_wordOf 114 = .ok (.bipush 121, 2) := bX8_wordOf_90.2.2.2.2.2.2.2.2.2.2.2.2.2.1
theorem dX8_wordOf_116 : decode cX8_wordOf 116 = .ok (.bipush 101, 2) := bX8_wordOf_90.2.2.2.2.2.2.2.2.2.2.2.2.2.2.1
theorem dX8_wordOf_118 : decode cX8_wordOf 118 = .ok (.bipush 97, 2) := bX8_wordOf_90.2.2.2.2.2.2.2.2.2.2.2.2.2.2.2
theorem bX8_wordOf_120 : (decode cX8_wordOf 120 = .ok (.bipush 114, 2)) ∧ (decode cX8_wordOf 122 = .ok (.bipush 115, 2)) ∧ (decode cX8_wordOf 124 = .ok (.iconst 0, 1)) ∧ (decode cX8_wordOf 125 = .ok (.iconst 5, 1)) ∧ (decode cX8_wordOf 126 = .ok (.invokevirtual 93, 3)) ∧ (decode cX8_wordOf 129 = .ok (.ifCond .eq 7, 3)) ∧ (decode cX8_wordOf 132 = .ok (.iconst 5, 1)) ∧ (decode cX8_wordOf 133 = .ok (.goto 5, 3)) ∧ (decode cX8_wordOf 136 = .ok (.bipush 9, 2)) ∧ (decode cX8_wordOf 138 = .ok (.ireturn, 1)) := by decide +kernel
theorem dX8_wordOf_120 : decode cX8_wordOf 120 = .ok (.bipush 114, 2) := bX8_wordOf_120.1
theorem dX8_wordOf_122 : decode cX8_wordOf 122 = .ok (.bipush 115, 2) := bX8_wordOf_120.2.1
theorem dX8_wordOf_124 : decode cX8_wordOf 124 = .ok (.iconst 0, 1) := bX8_wordOf_120.2.2.1
theorem dX8_wordOf_125 : decode cX8_wordOf 125 = .ok (.iconst 5, 1) := bX8_wordOf_120.2.2.2.1
theorem dX8_wordOf_126 : decode cX8_wordOf 126 = .ok (.invokevirtual 93, 3) := bX8_wordOf_120.2.2.2.2.1
theorem dX8_wordOf_129 : decode cX8_wordOf 129 = .ok (.ifCond .eq 7, 3) := bX8_wordOf_120.2.2.2.2.2.1
theorem dX8_wordOf_132 : decode cX8_wordOf 132 = .ok (.iconst 5, 1) := bX8_wordOf_120.2.2.2.2.2.2.1
theorem dX8_wordOf_133 : decode cX8_wordOf 133 = .ok (.goto 5, 3) := bX8_wordOf_120.2.2.2.2.2.2.2.1
theorem dX8_wordOf_136 : decode cX8_wordOf 136 = .ok (.bipush 9, 2) := bX8_wordOf_120.2.2.2.2.2.2.2.2.1
theorem dX8_wordOf_138 : decode cX8_wordOf 138 = .ok (.ireturn, 1) := bX8_wordOf_120.2.2.2.2.2.2.2.2.2
theorem bX8_step_0 : (decode cX8_step 0 = .ok (.aload_n 0, 1)) ∧ (decode cX8_step 1 = .ok (.invokevirtual 97, 3)) ∧ (decode cX8_step 4 = .ok (.bipush 32, 2)) ∧ (decode cX8_step 6 = .ok (.if_icmp .ne 16, 3)) ∧ (decode cX8_step 9 = .ok (.aload_n 0, 1)) ∧ (decode cX8_step 10 = .ok (.dup, 1)) ∧ (decode cX8_step 11 = .ok (.getfield 87, 3)) ∧ (decode cX8_step 14 = .ok (.iconst 1, 1)) ∧ (decode cX8_step 15 = .ok (.iadd, 1)) ∧ (decode cX8_step 16 = .ok (.putfield 87, 3)) ∧ (decode cX8_step 19 = .ok (.goto (-19), 3)) ∧ (decode cX8_step 22 = .ok (.aload_n 0, 1)) ∧ (decode cX8_step 23 = .ok (.aload_n 0, 1)) ∧ (decode cX8_step 24 = .ok (.getfield 87, 3)) ∧ (decode cX8_step 27 = .ok (.putfield 90, 3)) ∧ (decode cX8_step 30 = .ok (.aload_n 0, 1)) := by decide +kernel
theorem dX8_step_0 : decode cX8_step 0 = .ok (.aload_n 0, 1) := bX8_step_0.1
theorem dX8_step_1 : decode cX8_step 1 = .ok (.invokevirtual 97, 3) := bX8_step_0.2.1
theorem dX8_step_4 : decode cX8_step 4 = .ok (.bipush 32, 2) := bX8_step_0.2.2.1
theorem dX8_step_6 : decode cX8_step 6 = .ok (.if_icmp .ne 16, 3) := bX8_step_0.2.2.2.1
theorem dX8_step_9 : decode cX8_step 9 = .ok (.aload_n 0, 1) := bX8_step_0.2.2.2.2.1
theorem dX8_step_10 : decode cX8_step 10 = .ok (.dup, 1) := bX8_step_0.2.2.2.2.2.1
theorem dX8_step_11 : decode cX8_step 11 = .ok (.getfield 87, 3) := bX8_step_0.2.2.2.2.2.2.1
theorem dX8_step_14 : decode cX8_step 14 = .ok (.iconst 1, 1) := bX8_step_0.2.2.2.2.2.2.2.1
theorem dX8_step_15 : decode cX8_step 15 = .ok (.iadd, 1) := bX8_step_0.2.2.2.2.2.2.2.2.1
theorem dX8_step_16 : decode cX8_step 16 = .ok (.putfield 87, 3) := bX8_step_0.2.2.2.2.2.2.2.2.2.1
theorem dX8_step_19 : decode cX8_step 19 = .ok (.goto (-19), 3) := bX8_step_0.2.2.2.2.2.2.2.2.2.2.1
theorem dX8_step_22 : decode cX8_step 22 = .ok (.aload_n 0, 1) := bX8_step_0.2.2.2.2.2.2.2.2.2.2.2.1
theorem dX8_step_23 : decode cX8_step 23 = .ok (.aload_n 0, 1) := bX8_step_0.2.2.2.2.2.2.2.2.2.2.2.2.1
theorem dX8_step_24 : decode cX8_step 24 = .ok (.getfield 87, 3) := bX8_step_0.2.2.2.2.2.2.2.2.2.2.2.2.2.1
theorem dX8_step_27 : decode cX8_step 27 = .ok (.putfield 90, 3) := bX8_step_0.2.2.2.2.2.2.2.2.2.2.2.2.2.2.1
theorem dX8_step_30 : decode cX8_step 30 = .ok (.aload_n 0, 1) := bX8_step_0.2.2.2.2.2.2.2.2.2.2.2.2.2.2.2
theorem bX8_step_31 : (decode cX8_step 31 = .ok (.iconst 0, 1)) ∧ (decode cX8_step 32 = .ok (.putfield 100, 3)) ∧ (decode cX8_step 35 = .ok (.aload_n 0, 1)) ∧ (decode cX8_step 36 = .ok (.invokevirtual 97, 3)) ∧ (decode cX8_step 39 = .ok (.istore_n 1, 1)) ∧ (decode cX8_step 40 = .ok (.iload_n 1, 1)) ∧ (decode cX8_step 41 = .ok (.iconst (-1), 1)) ∧ (decode cX8_step 42 = .ok (.if_icmp .ne 12, 3)) ∧ (decode cX8_step 45 = .ok (.aload_n 0, 1)) ∧ (decode cX8_step 46 = .ok (.bipush 8, 2)) ∧ (decode cX8_step 48 = .ok (.putfield 103, 3)) ∧ (decode cX8_step 51 = .ok (.goto 179, 3)) ∧ (decode cX8_step 54 = .ok (.iload_n 1, 1)) ∧ (decode cX8_step 55 = .ok (.bipush 48, 2)) ∧ (decode cX8_step 57 = .ok (.bipush 57, 2)) ∧ (decode cX8_step 59 = .ok (.invokestatic 44, 3)) := by decide +kernel
theorem dX8_step_31 : decode cX8_step 31 = .ok (.iconst 0, 1) := bX8_step_31.1
theorem dX8_step_32 : decode cX8_step 32 = .ok (.putfield 100, 3) := bX8_step_31.2.1
theorem dX8_step_35 : decode cX8_step 35 = .ok (.aload_n 0, 1) := bX8_step_31.2.2.1
theorem dX8_step_36 : decode cX8_step 36 = .ok (.invokevirtual 97, 3) := bX8_step_31.2.2.2.1
theorem dX8_step_39 : decode cX8_step 39 = .ok (.istore_n 1, 1) := bX8_step_31.2.2.2.2.1
theorem dX8_step_40 : decode cX8_step 40 = .ok (.iload_n 1, 1) := bX8_step_31.2.2.2.2.2.1
theorem dX8_step_41 : decode cX8_step 41 = .ok (.iconst (-1), 1) := bX8_step_31.2.2.2.2.2.2.1
theorem dX8_step_42 : decode cX8_step 42 = .ok (.if_icmp .ne 12, 3) := bX8_step_31.2.2.2.2.2.2.2.1
theorem dX8_step_45 : decode cX8_step 45 = .ok (.aload_n 0, 1) := bX8_step_31.2.2.2.2.2.2.2.2.1
theorem dX8_step_46 : decode cX8_step 46 = .ok (.bipush 8, 2) := bX8_step_31.2.2.2.2.2.2.2.2.2.1
theorem dX8_step_48 : decode cX8_step 48 = .ok (.putfield 103, 3) := bX8_step_31.2.2.2.2.2.2.2.2.2.2.1
theorem dX8_step_51 : decode cX8_step 51 = .ok (.goto 179, 3) := bX8_step_31.2.2.2.2.2.2.2.2.2.2.2.1
theorem dX8_step_54 : decode cX8_step 54 = .ok (.iload_n 1, 1) := bX8_step_31.2.2.2.2.2.2.2.2.2.2.2.2.1
theorem dX8_step_55 : decode cX8_step 55 = .ok (.bipush 48, 2) := bX8_step_31.2.2.2.2.2.2.2.2.2.2.2.2.2.1
theorem dX8_step_57 : decode cX8_step 57 = .ok (.bipush 57, 2) := bX8_step_31.2.2.2.2.2.2.2.2.2.2.2.2.2.2.1
theorem dX8_step_59 : decode cX8_step 59 = .ok (.invokestatic 44, 3) := bX8_step_31.2.2.2.2.2.2.2.2.2.2.2.2.2.2.2
theorem bX8_step_62 : (decode cX8_step 62 = .ok (.ifCond .eq 92, 3)) ∧ (decode cX8_step 65 = .ok (.aload_n 0, 1)) ∧ (decode cX8_step 66 = .ok (.invokevirtual 97, 3)) ∧ (decode cX8_step 69 = .ok (.bipush 48, 2)) ∧ (decode cX8_step 71 = .ok (.bipush 57, 2)) ∧ (decode cX8_step 73 = .ok (.invokestatic 44, 3)) ∧ (decode cX8_step 76 = .ok (.ifCond .eq 51, 3)) ∧ (decode cX8_step 79 = .ok (.aload_n 0, 1)) ∧ (decode cX8_step 80 = .ok (.aload_n 0, 1)) ∧ (decode cX8_step 81 = .ok (.getfield 100, 3)) ∧ (decode cX8_step 84 = .ok (.bipush 99, 2)) ∧ (decode cX8_step 86 = .ok (.if_icmp .le 10, 3)) ∧ (decode cX8_step 89 = .ok (.aload_n 0, 1)) ∧ (decode cX8_step 90 = .ok (.getfield 100, 3)) ∧ (decode cX8_step 93 = .ok (.goto 18, 3)) ∧ (decode cX8_step 96 = .ok (.bipush 10, 2)) := by decide +kernel
theorem dX8_step_62 : decode cX8_step 62 = .ok (.ifCond .eq 92, 3) := bX8_step_62.1
theorem dX8_step_65 : decode cX8_step 65 = .ok (.aload_n 0, 1) := bX8_step_62.2.1
theorem dX8_step_66 : decode cX8_step 66 = .ok (.invokevirtual 97, 3) := bX8_step_62.2.2.1
theorem dX8_step_69 : decode cX8_step 69 = .ok (.bipush 48, 2) := bX8_step_62.2.2.2.1
theorem dX8_step_71 : decode cX8_step 71 = .ok (.bipush 57, 2) := bX8_step_62.2.2.2.2.1
theorem dX8_step_73 : decode cX8_step 73 = .ok (.invokestatic 44, 3) := bX8_step_62.2.2.2.2.2.1
theorem dX8_step_76 : decode cX8_step 76 = .ok (.ifCond .eq 51, 3) := bX8_step_62.2.2.2.2.2.2.1
theorem dX8_step_79 : decode cX8_step 79 = .ok (.aload_n 0, 1) := bX8_step_62.2.2.2.2.2.2.2.1
theorem dX8_step_80 : decode cX8_step 80 = .ok (.aload_n 0, 1) := bX8_step_62.2.2.2.2.2.2.2.2.1
theorem dX8_step_81 : decode cX8_step 81 = .ok (.getfield 100, 3) := bX8_step_62.2.2.2.2.2.2.2.2.2.1
theorem dX8_step_84 : decode cX8_step 84 = .ok (.bipush 99, 2) := bX8_step_62.2.2.2.2.2.2.2.2.2.2.1
theorem dX8_step_86 : decode cX8_step 86 = .ok (.if_icmp .le 10, 3) := bX8_step_62.2.2.2.2.2.2.2.2.2.2.2.1
theorem dX8_step_89 : decode cX8_step 89 = .ok (.aload_n 0, 1) := bX8_step_62.2.2.2.2.2.2.2.2.2.2.2.2.1
theorem dX8_step_90 : decode cX8_step 90 = .ok (.getfield 100, 3) := bX8_step_62.2.2.2.2.2.2.2.2.2.2.2.2.2.1
theorem dX8_step_93 : decode cX8_step 93 = .ok (.goto 18, 3) := bX8_step_62.2.2.2.2.2.2.2.2.2.2.2.2.2.2.1
theorem dX8_step_96 : decode cX8_step 96 = .ok (.bipush 10, 2) := bX8_step_62.2.2.2.2.2.2.2.2.2.2.2.2.2.2.2
theorem bX8_step_98 : (decode cX8_step 98 = .ok (.aload_n 0, 1)) ∧ (decode cX8_step 99 = .ok (.getfield 100, 3)) ∧ (decode cX8_step 102 = .ok (.imul, 1)) ∧ (decode cX8_step 103 = .ok (.aload_n 0, 1)) ∧ (decode cX8_step 104 = .ok (.invokevirtual 97, 3)) ∧ (decode cX8_step 107 = .ok (.iadd, 1)) ∧ (decode cX8_step 108 = .ok (.bipush 48, 2)) ∧ (decode cX8_step 110 = .ok (.isub, 1)) ∧ (decode cX8_step 111 = .ok (.putfield 100, 3)) ∧ (decode cX8_step 114 = .ok (.aload_n 0, 1)) ∧ (decode cX8_step 115 = .ok (.dup, 1)) ∧ (decode cX8_step 116 = .ok (.getfield 87, 3)) ∧ (decode cX8_step 119 = .ok (.iconst 1, 1)) ∧ (decode cX8_step 120 = .ok (.iadd, 1)) ∧ (decode cX8_step 121 = .ok (.putfield 87, 3)) ∧ (decode cX8_step 124 = .ok (.goto (-59), 3)) := by decide +kernel
theorem dX8_step_98 : decode cX8_step 98 = .ok (.aload_n 0, 1) := bX8_step_98.1
theorem dX8_step_99 : decode cX8_step 99 = .ok (.getfield 100, 3) := bX8_step_98.2.1
theorem dX8_step_102 : decode cX8_step 102 = .ok (.imul, 1) := bX8_step_98.2.2.1
theorem dX8_step_103 : decode cX8_step 103 = .ok (.aload_n 0, 1) := bX8_step_98.2.2.2.1
theorem dX8_step_104 : decode cX8_step 104 = .ok (.invokevirtual 97, 3) := bX8_step_98.2.2.2.2.1
theorem dX8_step_107 : decode cX8_step 107 = .ok (.iadd, 1) := bX8_step_98.2.2.2.2.2.1
theorem dX8_step_108 : decode cX8_step 108 = .ok (.bipush 48, 2) := bX8_step_98.2.2.2.2.2.2.1
theorem dX8_step_110 : decode cX8_step 110 = .ok (.isub, 1) := bX8_step_98.2.2.2.2.2.2.2.1
theorem dX8_step_111 : decode cX8_step 111 = .ok (.putfield 100, 3) := bX8_step_98.2.2.2.2.2.2.2.2.1
theorem dX8_step_114 : decode cX8_step 114 = .ok (.aload_n 0, 1) := bX8_step_98.2.2.2.2.2.2.2.2.2.1
theorem dX8_step_115 : decode cX8_step 115 = .ok (.dup, 1) := bX8_step_98.2.2.2.2.2.2.2.2.2.2.1
theorem dX8_step_116 : decode cX8_step 116 = .ok (.getfield 87, 3) := bX8_step_98.2.2.2.2.2.2.2.2.2.2.2.1
theorem dX8_step_119 : decode cX8_step 119 = .ok (.iconst 1, 1) := bX8_step_98.2.2.2.2.2.2.2.2.2.2.2.2.1
theorem dX8_step_120 : decode cX8_step 120 = .ok (.iadd, 1) := bX8_step_98.2.2.2.2.2.2.2.2.2.2.2.2.2.1
theorem dX8_step_121 : decode cX8_step 121 = .ok (.putfield 87, 3) := bX8_step_98.2.2.2.2.2.2.2.2.2.2.2.2.2.2.1
theorem dX8_step_124 : decode cX8_step 124 = .ok (.goto (-59), 3) := bX8_step_98.2.2.2.2.2.2.2.2.2.2.2.2.2.2.2
theorem bX8_step_127 : (decode cX8_step 127 = .ok (.aload_n 0, 1)) ∧ (decode cX8_step 128 = .ok (.aload_n 0, 1)) ∧ (decode cX8_step 129 = .ok (.getfield 87, 3)) ∧ (decode cX8_step 132 = .ok (.aload_n 0, 1)) ∧ (decode cX8_step 133 = .ok (.getfield 90, 3)) ∧ (decode cX8_step 136 = .ok (.isub, 1)) ∧ (decode cX8_step 137 = .ok (.iconst 2, 1)) ∧ (decode cX8_step 138 = .ok (.if_icmp .le 8, 3)) ∧ (decode cX8_step 141 = .ok (.bipush 9, 2)) ∧ (decode cX8_step 143 = .ok (.goto 5, 3)) ∧ (decode cX8_step 146 = .ok (.bipush 6, 2)) ∧ (decode cX8_step 148 = .ok (.putfield 103, 3)) ∧ (decode cX8_step 151 = .ok (.goto 79, 3)) ∧ (decode cX8_step 154 = .ok (.iload_n 1, 1)) ∧ (decode cX8_step 155 = .ok (.bipush 97, 2)) ∧ (decode cX8_step 157 = .ok (.bipush 122, 2)) := by decide +kernel
theorem dX8_step_127 : decode cX8_step 127 = .ok (.aload_n 0, 1) := bX8_step_127.1
theorem dX8_step_128 : decode cX8_step 128 = .ok (.aload_n 0, 1) := bX8_step_127.2.1
theorem dX8_step_129 : decode cX8_step 129 = .ok (.getfield 87, 3) := bX8_step_127.2.2.1
theorem dX8_step_132 : decode cX8_step 132 = .ok (.aload_n 0, 1) := bX8_step_127.2.2.2.1
theorem dX8_step_133 : decode cX8_step 133 = .ok (.getfield 90, 3) := bX8_step_127.2.2.2.2.1
theorem dX8_step_136 : decode cX8_step 136 = .ok (.isub, 1) := bX8_step_127.2.2.2.2.2.1
theorem dX8_step_137 : decode cX8_step 137 = .ok (.iconst 2, 1) := bX8_step_127.2.2.2.2.2.2.1
theorem dX8_step_138 : decode cX8_step 138 = .ok (.if_icmp .le 8, 3) := bX8_step_127.2.2.2.2.2.2.2.1
theorem dX8_step_141 : decode cX8_step 141 = .ok (.bipush 9, 2) := bX8_step_127.2.2.2.2.2.2.2.2.1
theorem dX8_step_143 : decode cX8_step 143 = .ok (.goto 5, 3) := bX8_step_127.2.2.2.2.2.2.2.2.2.1
theorem dX8_step_146 : decode cX8_step 146 = .ok (.bipush 6, 2) := bX8_step_127.2.2.2.2.2.2.2.2.2.2.1
theorem dX8_step_148 : decode cX8_step 148 = .ok (.putfield 103, 3) := bX8_step_127.2.2.2.2.2.2.2.2.2.2.2.1
theorem dX8_step_151 : decode cX8_step 151 = .ok (.goto 79, 3) := bX8_step_127.2.2.2.2.2.2.2.2.2.2.2.2.1
theorem dX8_step_154 : decode cX8_step 154 = .ok (.iload_n 1, 1) := bX8_step_127.2.2.2.2.2.2.2.2.2.2.2.2.2.1
theorem dX8_step_155 : decode cX8_step 155 = .ok (.bipush 97, 2) := bX8_step_127.2.2.2.2.2.2.2.2.2.2.2.2.2.2.1
theorem dX8_step_157 : decode cX8_step 157 = .ok (.bipush 122, 2) := bX8_step_127.2.2.2.2.2.2.2.2.2.2.2.2.2.2.2
theorem bX8_step_159 : (decode cX8_step 159 = .ok (.invokestatic 44, 3)) ∧ (decode cX8_step 162 = .ok (.ifCond .eq 41, 3)) ∧ (decode cX8_step 165 = .ok (.aload_n 0, 1)) ∧ (decode cX8_step 166 = .ok (.invokevirtual 97, 3)) ∧ (decode cX8_step 169 = .ok (.bipush 97, 2)) ∧ (decode cX8_step 171 = .ok (.bipush 122, 2)) ∧ (decode cX8_step 173 = .ok (.invokestatic 44, 3)) ∧ (decode cX8_step 176 = .ok (.ifCond .eq 16, 3)) ∧ (decode cX8_step 179 = .ok (.aload_n 0, 1)) ∧ (decode cX8_step 180 = .ok (.dup, 1)) ∧ (decode cX8_step 181 = .ok (.getfield 87, 3)) ∧ (decode cX8_step 184 = .ok (.iconst 1, 1)) ∧ (decode cX8_step 185 = .ok (.iadd, 1)) ∧ (decode cX8_step 186 = .ok (.putfield 87, 3)) ∧ (decode cX8_step 189 = .ok (.goto (-24), 3)) ∧ (decode cX8_step 192 = .ok (.aload_n 0, 1)) := by decide +kernel
theorem dX8_step_159 : decode cX8_step 159 = .ok (.invokestatic 44, 3) := bX8_step_159.1
theorem dX8_step_162 : decode cX8_step 162 = .ok (.ifCond .eq 41, 3) := bX8_step_159.2.1
theorem dX8_step_165 : decode cX8_step 165 = .ok (.aload_n 0, 1) := bX8_step_159.2.2.1
theorem dX8_step_166 : decode cX8_step 166 = .ok (.invokevirtual 97, 3) := bX8_step_159.2.2.2.1
theorem dX8_step_169 : decode cX8_step 169 = .ok (.bipush 97, 2) := bX8_step_159.2.2.2.2.1
theorem dX8_step_171 : decode cX8_step 171 = .ok (.bipush 122, 2) := bX8_step_159.2.2.2.2.2.1
theorem dX8_step_173 : decode cX8_step 173 = .ok (.invokestatic 44, 3) := bX8_step_159.2.2.2.2.2.2.1
theorem dX8_step_176 : decode cX8_step 176 = .ok (.ifCond .eq 16, 3) := bX8_step_159.2.2.2.2.2.2.2.1
theorem dX8_step_179 : decode cX8_step 179 = .ok (.aload_n 0, 1) := bX8_step_159.2.2.2.2.2.2.2.2.1
theorem dX8_step_180 : decode cX8_step 180 = .ok (.dup, 1) := bX8_step_159.2.2.2.2.2.2.2.2.2.1
theorem dX8_step_181 : decode cX8_step 181 = .ok (.getfield 87, 3) := bX8_step_159.2.2.2.2.2.2.2.2.2.2.1
theorem dX8_step_184 : decode cX8_step 184 = .ok (.iconst 1, 1) := bX8_step_159.2.2.2.2.2.2.2.2.2.2.2.1
theorem dX8_step_185 : decode cX8_step 185 = .ok (.iadd, 1) := bX8_step_159.2.2.2.2.2.2.2.2.2.2.2.2.1
theorem dX8_step_186 : decode cX8_step 186 = .ok (.putfield 87, 3) := bX8_step_159.2.2.2.2.2.2.2.2.2.2.2.2.2.1
theorem dX8_step_189 : decode cX8_step 189 = .ok (.goto (-24), 3) := bX8_step_159.2.2.2.2.2.2.2.2.2.2.2.2.2.2.1
theorem dX8_step_192 : decode cX8_step 192 = .ok (.aload_n 0, 1) := bX8_step_159.2.2.2.2.2.2.2.2.2.2.2.2.2.2.2
theorem bX8_step_193 : (decode cX8_step 193 = .ok (.aload_n 0, 1)) ∧ (decode cX8_step 194 = .ok (.invokevirtual 106, 3)) ∧ (decode cX8_step 197 = .ok (.putfield 103, 3)) ∧ (decode cX8_step 200 = .ok (.goto 30, 3)) ∧ (decode cX8_step 203 = .ok (.aload_n 0, 1)) ∧ (decode cX8_step 204 = .ok (.dup, 1)) ∧ (decode cX8_step 205 = .ok (.getfield 87, 3)) ∧ (decode cX8_step 208 = .ok (.iconst 1, 1)) ∧ (decode cX8_step 209 = .ok (.iadd, 1)) ∧ (decode cX8_step 210 = .ok (.putfield 87, 3)) ∧ (decode cX8_step 213 = .ok (.aload_n 0, 1)) ∧ (decode cX8_step 214 = .ok (.iload_n 1, 1)) ∧ (decode cX8_step 215 = .ok (.bipush 59, 2)) ∧ (decode cX8_step 217 = .ok (.if_icmp .ne 8, 3)) ∧ (decode cX8_step 220 = .ok (.bipush 7, 2)) ∧ (decode cX8_step 222 = .ok (.goto 5, 3)) := by decide +kernel
theorem dX8_step_193 : decode cX8_step 193 = .ok (.aload_n 0, 1) := bX8_step_193.1
theorem dX8_step_194 : decode cX8_step 194 = .ok (.invokevirtual 106, 3) := bX8_step_193.2.1
theorem dX8_step_197 : decode cX8_step 197 = .ok (.putfield 103, 3) := bX8_step_193.2.2.1
theorem dX8_step_200 : decode cX8_step 200 = .ok (.goto 30, 3) := bX8_step_193.2.2.2.1
theorem dX8_step_203 : decode cX8_step 203 = .ok (.aload_n 0, 1) := bX8_step_193.2.2.2.2.1
theorem dX8_step_204 : decode cX8_step 204 = .ok (.dup, 1) := bX8_step_193.2.2.2.2.2.1
theorem dX8_step_205 : decode cX8_step 205 = .ok (.getfield 87, 3) := bX8_step_193.2.2.2.2.2.2.1
theorem dX8_step_208 : decode cX8_step 208 = .ok (.iconst 1, 1) := bX8_step_193.2.2.2.2.2.2.2.1
theorem dX8_step_209 : decode cX8_step 209 = .ok (.iadd, 1) := bX8_step_193.2.2.2.2.2.2.2.2.1
theorem dX8_step_210 : decode cX8_step 210 = .ok (.putfield 87, 3) := bX8_step_193.2.2.2.2.2.2.2.2.2.1
theorem dX8_step_213 : decode cX8_step 213 = .ok (.aload_n 0, 1) := bX8_step_193.2.2.2.2.2.2.2.2.2.2.1
theorem dX8_step_214 : decode cX8_step 214 = .ok (.iload_n 1, 1) := bX8_step_193.2.2.2.2.2.2.2.2.2.2.2.1
theorem dX8_step_215 : decode cX8_step 215 = .ok (.bipush 59, 2) := bX8_step_193.2.2.2.2.2.2.2.2.2.2.2.2.1
theorem dX8_step_217 : decode cX8_step 217 = .ok (.if_icmp .ne 8, 3) := bX8_step_193.2.2.2.2.2.2.2.2.2.2.2.2.2.1
theorem dX8_step_220 : decode cX8_step 220 = .ok (.bipush 7, 2) := bX8_step_193.2.2.2.2.2.2.2.2.2.2.2.2.2.2.1
theorem dX8_step_222 : decode cX8_step 222 = .ok (.goto 5, 3) := bX8_step_193.2.2.2.2.2.2.2.2.2.2.2.2.2.2.2
theorem bX8_step_225 : (decode cX8_step 225 = .ok (.bipush 9, 2)) ∧ (decode cX8_step 227 = .ok (.putfield 103, 3)) ∧ (decode cX8_step 230 = .ok (.return_, 1)) := by decide +kernel
theorem dX8_step_225 : decode cX8_step 225 = .ok (.bipush 9, 2) := bX8_step_225.1
theorem dX8_step_227 : decode cX8_step 227 = .ok (.putfield 103, 3) := bX8_step_225.2.1
theorem dX8_step_230 : decode cX8_step 230 = .ok (.return_, 1) := bX8_step_225.2.2
theorem bX8_due_0 : (decode cX8_due 0 = .ok (.aload_n 0, 1)) ∧ (decode cX8_due 1 = .ok (.getfield 109, 3)) ∧ (decode cX8_due 4 = .ok (.ifCond .eq 4, 3)) ∧ (decode cX8_due 7 = .ok (.return_, 1)) ∧ (decode cX8_due 8 = .ok (.iload_n 1, 1)) ∧ (decode cX8_due 9 = .ok (.ifCond .eq 10, 3)) ∧ (decode cX8_due 12 = .ok (.aload_n 0, 1)) ∧ (decode cX8_due 13 = .ok (.invokevirtual 113, 3)) ∧ (decode cX8_due 16 = .ok (.goto 8, 3)) ∧ (decode cX8_due 19 = .ok (.aload_n 0, 1)) ∧ (decode cX8_due 20 = .ok (.iconst 1, 1)) ∧ (decode cX8_due 21 = .ok (.putfield 109, 3)) ∧ (decode cX8_due 24 = .ok (.return_, 1)) := by decide +kernel
theorem dX8_due_0 : decode cX8_due 0 = .ok (.aload_n 0, 1) := bX8_due_0.1
theorem dX8_due_1 : decode cX8_due 1 = .ok (.getfield 109, 3) := bX8_due_0.2.1
theorem dX8_due_4 : decode cX8_due 4 = .ok (.ifCond .eq 4, 3) := bX8_due_0.2.2.1
theorem dX8_due_7 : decode cX8_due 7 = .ok (.return_, 1) := bX8_due_0.2.2.2.1
theorem dX8_due_8 : decode cX8_due 8 = .ok (.iload_n 1, 1) := bX8_due_0.2.2.2.2.1
theorem dX8_due_9 : decode cX8_due 9 = .ok (.ifCond .eq 10, 3) := bX8_due_0.2.2.2.2.2.1
theorem dX8_due_12 : decode cX8_due 12 = .ok (.aload_n 0, 1) := bX8_due_0.2.2.2.2.2.2.1
theorem dX8_due_13 : decode cX8_due 13 = .ok (.invokevirtual 113, 3) := bX8_due_0.2.2.2.2.2.2.2.1
theorem dX8_due_16 : decode cX8_due 16 = .ok (.goto 8, 3) := bX8_due_0.2.2.2.2.2.2.2.2.1
theorem dX8_due_19 : decode cX8_due 19 = .ok (.aload_n 0, 1) := bX8_due_0.2.2.2.2.2.2.2.2.2.1
theorem dX8_due_20 : decode cX8_due 20 = .ok (.iconst 1, 1) := bX8_due_0.2.2.2.2.2.2.2.2.2.2.1
theorem dX8_due_21 : decode cX8_due 21 = .ok (.putfield 109, 3) := bX8_due_0.2.2.2.2.2.2.2.2.2.2.2.1
theorem dX8_due_24 : decode cX8_due 24 = .ok (.return_, 1) := bX8_due_0.2.2.2.2.2.2.2.2.2.2.2.2
theorem bX8_number_0 : (decode cX8_number 0 = .ok (.aload_n 0, 1)) ∧ (decode cX8_number 1 = .ok (.getfield 100, 3)) ∧ (decode cX8_number 4 = .ok (.istore_n 3, 1)) ∧ (decode cX8_number 5 = .ok (.aload_n 0, 1)) ∧ (decode cX8_number 6 = .ok (.aload_n 0, 1)) ∧ (decode cX8_number 7 = .ok (.getfield 103, 3)) ∧ (decode cX8_number 10 = .ok (.bipush 6, 2)) ∧ (decode cX8_number 12 = .ok (.if_icmp .ne 16, 3)) ∧ (decode cX8_number 15 = .ok (.iload_n 3, 1)) ∧ (decode cX8_number 16 = .ok (.iload_n 1, 1)) ∧ (decode cX8_number 17 = .ok (.iload_n 2, 1)) ∧ (decode cX8_number 18 = .ok (.invokestatic 44, 3)) ∧ (decode cX8_number 21 = .ok (.ifCond .eq 7, 3)) ∧ (decode cX8_number 24 = .ok (.iconst 1, 1)) ∧ (decode cX8_number 25 = .ok (.goto 4, 3)) ∧ (decode cX8_number 28 = .ok (.iconst 0, 1)) := by decide +kernel
theorem dX8_number_0 : decode cX8_number 0 = .ok (.aload_n 0, 1) := bX8_number_0.1
theorem dX8_number_1 : decode cX8_number 1 = .ok (.getfield 100, 3) := bX8_number_0.2.1
theorem dX8_number_4 : decode cX8_number 4 = .ok (.istore_n 3, 1) := bX8_number_0.2.2.1
theorem dX8_number_5 : decode cX8_number 5 = .ok (.aload_n 0, 1) := bX8_number_0.2.2.2.1
theorem dX8_number_6 : decode cX8_number 6 = .ok (.aload_n 0, 1) := bX8_number_0.2.2.2.2.1
theorem dX8_number_7 : decode cX8_number 7 = .ok (.getfield 103, 3) := bX8_number_0.2.2.2.2.2.1
theorem dX8_number_10 : decode cX8_number 10 = .ok (.bipush 6, 2) := bX8_number_0.2.2.2.2.2.2.1
theorem dX8_number_12 : decode cX8_number 12 = .ok (.if_icmp .ne 16, 3) := bX8_number_0.2.2.2.2.2.2.2.1
theorem dX8_number_15 : decode cX8_number 15 = .ok (.iload_n 3, 1) := bX8_number_0.2.2.2.2.2.2.2.2.1
theorem dX8_number_16 : decode cX8_number 16 = .ok (.iload_n 1, 1) := bX8_number_0.2.2.2.2.2.2.2.2.2.1
theorem dX8_number_17 : decode cX8_number 17 = .ok (.iload_n 2, 1) := bX8_number_0.2.2.2.2.2.2.2.2.2.2.1
theorem dX8_number_18 : decode cX8_number 18 = .ok (.invokestatic 44, 3) := bX8_number_0.2.2.2.2.2.2.2.2.2.2.2.1
theorem dX8_number_21 : decode cX8_number 21 = .ok (.ifCond .eq 7, 3) := bX8_number_0.2.2.2.2.2.2.2.2.2.2.2.2.1
theorem dX8_number_24 : decode cX8_number 24 = .ok (.iconst 1, 1) := bX8_number_0.2.2.2.2.2.2.2.2.2.2.2.2.2.1
theorem dX8_number_25 : decode cX8_number 25 = .ok (.goto 4, 3) := bX8_number_0.2.2.2.2.2.2.2.2.2.2.2.2.2.2.1
theorem dX8_number_28 : decode cX8_number 28 = .ok (.iconst 0, 1) := bX8_number_0.2.2.2.2.2.2.2.2.2.2.2.2.2.2.2
theorem bX8_number_29 : (decode cX8_number 29 = .ok (.invokevirtual 116, 3)) ∧ (decode cX8_number 32 = .ok (.iload_n 3, 1)) ∧ (decode cX8_number 33 = .ok (.ireturn, 1)) := by decide +kernel
theorem dX8_number_29 : decode cX8_number 29 = .ok (.invokevirtual 116, 3) := bX8_number_29.1
theorem dX8_number_32 : decode cX8_number 32 = .ok (.iload_n 3, 1) := bX8_number_29.2.1
theorem dX8_number_33 : decode cX8_number 33 = .ok (.ireturn, 1) := bX8_number_29.2.2
theorem bX8_readThing_0 : (decode cX8_readThing 0 = .ok (.aload_n 0, 1)) ∧ (decode cX8_readThing 1 = .ok (.iconst 0, 1)) ∧ (decode cX8_readThing 2 = .ok (.iconst 5, 1)) ∧ (decode cX8_readThing 3 = .ok (.invokevirtual 120, 3)) ∧ (decode cX8_readThing 6 = .ok (.istore_n 1, 1)) ∧ (decode cX8_readThing 7 = .ok (.aload_n 0, 1)) ∧ (decode cX8_readThing 8 = .ok (.iconst 1, 1)) ∧ (decode cX8_readThing 9 = .ok (.bipush 30, 2)) ∧ (decode cX8_readThing 11 = .ok (.invokevirtual 120, 3)) ∧ (decode cX8_readThing 14 = .ok (.istore_n 2, 1)) ∧ (decode cX8_readThing 15 = .ok (.aload_n 0, 1)) ∧ (decode cX8_readThing 16 = .ok (.getfield 109, 3)) ∧ (decode cX8_readThing 19 = .ok (.ifCond .ne 13, 3)) ∧ (decode cX8_readThing 22 = .ok (.aload_n 0, 1)) ∧ (decode cX8_readThing 23 = .ok (.sipush 738, 3)) ∧ (decode cX8_readThing 26 = .ok (.iload_n 1, 1)) := by decide +kernel
theorem dX8_readThing_0 : decode cX8_readThing 0 = .ok (.aload_n 0, 1) := bX8_readThing_0.1
theorem dX8_readThing_1 : decode cX8_readThing 1 = .ok (.iconst 0, 1) := bX8_readThing_0.2.1
theorem dX8_readThing_2 : decode cX8_readThing 2 = .ok (.iconst 5, 1) := bX8_readThing_0.2.2.1
theorem dX8_readThing_3 : decode cX8_readThing 3 = .ok (.invokevirtual 120, 3) := bX8_readThing_0.2.2.2.1
theorem dX8_readThing_6 : decode cX8_readThing 6 = .ok (.istore_n 1, 1) := bX8_readThing_0.2.2.2.2.1
theorem dX8_readThing_7 : decode cX8_readThing 7 = .ok (.aload_n 0, 1) := bX8_readThing_0.2.2.2.2.2.1
theorem dX8_readThing_8 : decode cX8_readThing 8 = .ok (.iconst 1, 1) := bX8_readThing_0.2.2.2.2.2.2.1
theorem dX8_readThing_9 : decode cX8_readThing 9 = .ok (.bipush 30, 2) := bX8_readThing_0.2.2.2.2.2.2.2.1
theorem dX8_readThing_11 : decode cX8_readThing 11 = .ok (.invokevirtual 120, 3) := bX8_readThing_0.2.2.2.2.2.2.2.2.1
theorem dX8_readThing_14 : decode cX8_readThing 14 = .ok (.istore_n 2, 1) := bX8_readThing_0.2.2.2.2.2.2.2.2.2.1
theorem dX8_readThing_15 : decode cX8_readThing 15 = .ok (.aload_n 0, 1) := bX8_readThing_0.2.2.2.2.2.2.2.2.2.2.1
theorem dX8_readThing_16 : decode cX8_readThing 16 = .ok (.getfield 109, 3) := bX8_readThing_0.2.2.2.2.2.2.2.2.2.2.2.1
theorem dX8_readThing_19 : decode cX8_readThing 19 = .ok (.ifCond .ne 13, 3) := bX8_readThing_0.2.2.2.2.2.2.2.2.2.2.2.2.1
theorem dX8_readThing_22 : decode cX8_readThing 22 = .ok (.aload_n 0, 1) := bX8_readThing_0.2.2.2.2.2.2.2.2.2.2.2.2.2.1
theorem dX8_readThing_23 : decode cX8_readThing 23 = .ok (.sipush 738, 3) := bX8_readThing_0.2.2.2.2.2.2.2.2.2.2.2.2.2.2.1
theorem dX8_readThing_26 : decode cX8_readThing 26 = .ok (.iload_n 1, 1) := bX8_readThing_0.2.2.2.2.2.2.2.2.2.2.2.2.2.2.2
theorem bX8_readThing_27 : (decode cX8_readThing 27 = .ok (.iload_n 2, 1)) ∧ (decode cX8_readThing 28 = .ok (.invokevirtual 76, 3)) ∧ (decode cX8_readThing 31 = .ok (.pop, 1)) ∧ (decode cX8_readThing 32 = .ok (.return_, 1)) := by decide +kernel
theorem dX8_readThing_27 : decode cX8_readThing 27 = .ok (.iload_n 2, 1) := bX8_readThing_27.1
theorem dX8_readThing_28 : decode cX8_readThing 28 = .ok (.invokevirtual 76, 3) := bX8_readThing_27.2.1
theorem dX8_readThing_31 : decode cX8_readThing 31 = .ok (.pop, 1) := bX8_readThing_27.2.2.1
theorem dX8_readThing_32 : decode cX8_readThing 32 = .ok (.return_, 1) := bX8_readThing_27.2.2.2
theorem bX8_readOne_0 : (decode cX8_readOne 0 = .ok (.aload_n 0, 1)) ∧ (decode cX8_readOne 1 = .ok (.iconst 0, 1)) ∧ (decode cX8_readOne 2 = .ok (.iconst 5, 1)) ∧ (decode cX8_readOne 3 = .ok (.invokevirtual 120, 3)) ∧ (decode cX8_readOne 6 = .ok (.istore_n 1, 1)) ∧ (decode cX8_readOne 7 = .ok (.aload_n 0, 1)) ∧ (decode cX8_readOne 8 = .ok (.iconst 1, 1)) ∧ (decode cX8_readOne 9 = .ok (.bipush 9, 2)) ∧ (decode cX8_readOne 11 = .ok (.invokevirtual 120, 3)) ∧ (decode cX8_readOne 14 = .ok (.istore_n 2, 1)) ∧ (decode cX8_readOne 15 = .ok (.aload_n 0, 1)) ∧ (decode cX8_readOne 16 = .ok (.iconst 0, 1)) ∧ (decode cX8_readOne 17 = .ok (.bipush 99, 2)) ∧ (decode cX8_readOne 19 = .ok (.invokevirtual 120, 3)) ∧ (decode cX8_readOne 22 = .ok (.istore_n 3, 1)) ∧ (decode cX8_readOne 23 = .ok (.aload_n 0, 1)) := by decide +kernel
theorem dX8_readOne_0 : decode cX8_readOne 0 = .ok (.aload_n 0, 1) := bX8_readOne_0.1
theorem dX8_readOne_1 : decode cX8_readOne 1 = .ok (.iconst 0, 1) := bX8_readOne_0.2.1
theorem dX8_readOne_2 : decode cX8_readOne 2 = .ok (.iconst 5, 1) := bX8_readOne_0.2.2.1
theorem dX8_readOne_3 : decode cX8_readOne 3 = .ok (.invokevirtual 120, 3) := bX8_readOne_0.2.2.2.1
theorem dX8_readOne_6 : decode cX8_readOne 6 = .ok (.istore_n 1, 1) := bX8_readOne_0.2.2.2.2.1
theorem dX8_readOne_7 : decode cX8_readOne 7 = .ok (.aload_n 0, 1) := bX8_readOne_0.2.2.2.2.2.1
theorem dX8_readOne_8 : decode cX8_readOne 8 = .ok (.iconst 1, 1) := bX8_readOne_0.2.2.2.2.2.2.1
theorem dX8_readOne_9 : decode cX8_readOne 9 = .ok (.bipush 9, 2) := bX8_readOne_0.2.2.2.2.2.2.2.1
theorem dX8_readOne_11 : decode cX8_readOne 11 = .ok (.invokevirtual 120, 3) := bX8_readOne_0.2.2.2.2.2.2.2.2.1
theorem dX8_readOne_14 : decode cX8_readOne 14 = .ok (.istore_n 2, 1) := bX8_readOne_0.2.2.2.2.2.2.2.2.2.1
theorem dX8_readOne_15 : decode cX8_readOne 15 = .ok (.aload_n 0, 1) := bX8_readOne_0.2.2.2.2.2.2.2.2.2.2.1
theorem dX8_readOne_16 : decode cX8_readOne 16 = .ok (.iconst 0, 1) := bX8_readOne_0.2.2.2.2.2.2.2.2.2.2.2.1
theorem dX8_readOne_17 : decode cX8_readOne 17 = .ok (.bipush 99, 2) := bX8_readOne_0.2.2.2.2.2.2.2.2.2.2.2.2.1
theorem dX8_readOne_19 : decode cX8_readOne 19 = .ok (.invokevirtual 120, 3) := bX8_readOne_0.2.2.2.2.2.2.2.2.2.2.2.2.2.1
theorem dX8_readOne_22 : decode cX8_readOne 22 = .ok (.istore_n 3, 1) := bX8_readOne_0.2.2.2.2.2.2.2.2.2.2.2.2.2.2.1
theorem dX8_readOne_23 : decode cX8_readOne 23 = .ok (.aload_n 0, 1) := bX8_readOne_0.2.2.2.2.2.2.2.2.2.2.2.2.2.2.2
theorem bX8_readOne_24 : (decode cX8_readOne 24 = .ok (.getfield 109, 3)) ∧ (decode cX8_readOne 27 = .ok (.ifCond .ne 14, 3)) ∧ (decode cX8_readOne 30 = .ok (.aload_n 0, 1)) ∧ (decode cX8_readOne 31 = .ok (.sipush 738, 3)) ∧ (decode cX8_readOne 34 = .ok (.iload_n 1, 1)) ∧ (decode cX8_readOne 35 = .ok (.iload_n 2, 1)) ∧ (decode cX8_readOne 36 = .ok (.iload_n 3, 1)) ∧ (decode cX8_readOne 37 = .ok (.invokevirtual 79, 3)) ∧ (decode cX8_readOne 40 = .ok (.pop, 1)) ∧ (decode cX8_readOne 41 = .ok (.return_, 1)) := by decide +kernel
theorem dX8_readOne_24 : decode cX8_readOne 24 = .ok (.getfield 109, 3) := bX8_readOne_24.1
theorem dX8_readOne_27 : decode cX8_readOne 27 = .ok (.ifCond .ne 14, 3) := bX8_readOne_24.2.1
theorem dX8_readOne_30 : decode cX8_readOne 30 = .ok (.aload_n 0, 1) := bX8_readOne_24.2.2.1
theorem dX8_readOne_31 : decode cX8_readOne 31 = .ok (.sipush 738, 3) := bX8_readOne_24.2.2.2.1
theorem dX8_readOne_34 : decode cX8_readOne 34 = .ok (.iload_n 1, 1) := bX8_readOne_24.2.2.2.2.1
theorem dX8_readOne_35 : decode cX8_readOne 35 = .ok (.iload_n 2, 1) := bX8_readOne_24.2.2.2.2.2.1
theorem dX8_readOne_36 : decode cX8_readOne 36 = .ok (.iload_n 3, 1) := bX8_readOne_24.2.2.2.2.2.2.1
theorem dX8_readOne_37 : decode cX8_readOne 37 = .ok (.invokevirtual 79, 3) := bX8_readOne_24.2.2.2.2.2.2.2.1
theorem dX8_readOne_40 : decode cX8_readOne 40 = .ok (.pop, 1) := bX8_readOne_24.2.2.2.2.2.2.2.2.1
theorem dX8_readOne_41 : decode cX8_readOne 41 = .ok (.return_, 1) := bX8_readOne_24.2.2.2.2.2.2.2.2.2
theorem bX8_readOwn_0 : (decode cX8_readOwn 0 = .ok (.aload_n 0, 1)) ∧ (decode cX8_readOwn 1 = .ok (.getfield 100, 3)) ∧ (decode cX8_readOwn 4 = .ok (.istore_n 1, 1)) ∧ (decode cX8_readOwn 5 = .ok (.aload_n 0, 1)) ∧ (decode cX8_readOwn 6 = .ok (.getfield 103, 3)) ∧ (decode cX8_readOwn 9 = .ok (.bipush 6, 2)) ∧ (decode cX8_readOwn 11 = .ok (.if_icmp .ne 34, 3)) ∧ (decode cX8_readOwn 14 = .ok (.iload_n 1, 1)) ∧ (decode cX8_readOwn 15 = .ok (.aload_n 0, 1)) ∧ (decode cX8_readOwn 16 = .ok (.getfield 13, 3)) ∧ (decode cX8_readOwn 19 = .ok (.sipush 739, 3)) ∧ (decode cX8_readOwn 22 = .ok (.iaload, 1)) ∧ (decode cX8_readOwn 23 = .ok (.if_icmp .ge 22, 3)) ∧ (decode cX8_readOwn 26 = .ok (.aload_n 0, 1)) ∧ (decode cX8_readOwn 27 = .ok (.getfield 13, 3)) ∧ (decode cX8_readOwn 30 = .ok (.sipush 773, 3)) := by decide +kernel
theorem dX8_readOwn_0 : decode cX8_readOwn 0 = .ok (.aload_n 0, 1) := bX8_readOwn_0.1
theorem dX8_readOwn_1 : decode cX8_readOwn 1 = .ok (.getfield 100, 3) := bX8_readOwn_0.2.1
theorem dX8_readOwn_4 : decode cX8_readOwn 4 = .ok (.istore_n 1, 1) := bX8_readOwn_0.2.2.1
theorem dX8_readOwn_5 : decode cX8_readOwn 5 = .ok (.aload_n 0, 1) := bX8_readOwn_0.2.2.2.1
theorem dX8_readOwn_6 : decode cX8_readOwn 6 = .ok (.getfield 103, 3) := bX8_readOwn_0.2.2.2.2.1
theorem dX8_readOwn_9 : decode cX8_readOwn 9 = .ok (.bipush 6, 2) := bX8_readOwn_0.2.2.2.2.2.1
theorem dX8_readOwn_11 : decode cX8_readOwn 11 = .ok (.if_icmp .ne 34, 3) := bX8_readOwn_0.2.2.2.2.2.2.1
theorem dX8_readOwn_14 : decode cX8_readOwn 14 = .ok (.iload_n 1, 1) := bX8_readOwn_0.2.2.2.2.2.2.2.1
theorem dX8_readOwn_15 : decode cX8_readOwn 15 = .ok (.aload_n 0, 1) := bX8_readOwn_0.2.2.2.2.2.2.2.2.1
theorem dX8_readOwn_16 : decode cX8_readOwn 16 = .ok (.getfield 13, 3) := bX8_readOwn_0.2.2.2.2.2.2.2.2.2.1
theorem dX8_readOwn_19 : decode cX8_readOwn 19 = .ok (.sipush 739, 3) := bX8_readOwn_0.2.2.2.2.2.2.2.2.2.2.1
theorem dX8_readOwn_22 : decode cX8_readOwn 22 = .ok (.iaload, 1) := bX8_readOwn_0.2.2.2.2.2.2.2.2.2.2.2.1
theorem dX8_readOwn_23 : decode cX8_readOwn 23 = .ok (.if_icmp .ge 22, 3) := bX8_readOwn_0.2.2.2.2.2.2.2.2.2.2.2.2.1
theorem dX8_readOwn_26 : decode cX8_readOwn 26 = .ok (.aload_n 0, 1) := bX8_readOwn_0.2.2.2.2.2.2.2.2.2.2.2.2.2.1
theorem dX8_readOwn_27 : decode cX8_readOwn 27 = .ok (.getfield 13, 3) := bX8_readOwn_0.2.2.2.2.2.2.2.2.2.2.2.2.2.2.1
theorem dX8_readOwn_30 : decode cX8_readOwn 30 = .ok (.sipush 773, 3) := bX8_readOwn_0.2.2.2.2.2.2.2.2.2.2.2.2.2.2.2
theorem bX8_readOwn_33 : (decode cX8_readOwn 33 = .ok (.iaload, 1)) ∧ (decode cX8_readOwn 34 = .ok (.iload_n 1, 1)) ∧ (decode cX8_readOwn 35 = .ok (.invokestatic 61, 3)) ∧ (decode cX8_readOwn 38 = .ok (.ifCond .ne 7, 3)) ∧ (decode cX8_readOwn 41 = .ok (.iconst 1, 1)) ∧ (decode cX8_readOwn 42 = .ok (.goto 4, 3)) ∧ (decode cX8_readOwn 45 = .ok (.iconst 0, 1)) ∧ (decode cX8_readOwn 46 = .ok (.istore_n 2, 1)) ∧ (decode cX8_readOwn 47 = .ok (.aload_n 0, 1)) ∧ (decode cX8_readOwn 48 = .ok (.iload_n 2, 1)) ∧ (decode cX8_readOwn 49 = .ok (.ifCond .eq 21, 3)) ∧ (decode cX8_readOwn 52 = .ok (.aload_n 0, 1)) ∧ (decode cX8_readOwn 53 = .ok (.getfield 13, 3)) ∧ (decode cX8_readOwn 56 = .ok (.sipush 781, 3)) ∧ (decode cX8_readOwn 59 = .ok (.iload_n 1, 1)) ∧ (decode cX8_readOwn 60 = .ok (.iadd, 1)) := by decide +kernel
theorem dX8_readOwn_33 : decode cX8_readOwn 33 = .ok (.iaload, 1) := bX8_readOwn_33.1
theorem dX8_readOwn_34 : decode cX8_readOwn 34 = .ok (.iload_n 1, 1) := bX8_readOwn_33.2.1
theorem dX8_readOwn_35 : decode cX8_readOwn 35 = .ok (.invokestatic 61, 3) := bX8_readOwn_33.2.2.1
theorem dX8_readOwn_38 : decode cX8_readOwn 38 = .ok (.ifCond .ne 7, 3) := bX8_readOwn_33.2.2.2.1
theorem dX8_readOwn_41 : decode cX8_readOwn 41 = .ok (.iconst 1, 1) := bX8_readOwn_33.2.2.2.2.1
theorem dX8_readOwn_42 : decode cX8_readOwn 42 = .ok (.goto 4, 3) := bX8_readOwn_33.2.2.2.2.2.1
theorem dX8_readOwn_45 : decode cX8_readOwn 45 = .ok (.iconst 0, 1) := bX8_readOwn_33.2.2.2.2.2.2.1
theorem dX8_readOwn_46 : decode cX8_readOwn 46 = .ok (.istore_n 2, 1) := bX8_readOwn_33.2.2.2.2.2.2.2.1
theorem dX8_readOwn_47 : decode cX8_readOwn 47 = .ok (.aload_n 0, 1) := bX8_readOwn_33.2.2.2.2.2.2.2.2.1
theorem dX8_readOwn_48 : decode cX8_readOwn 48 = .ok (.iload_n 2, 1) := bX8_readOwn_33.2.2.2.2.2.2.2.2.2.1
theorem dX8_readOwn_49 : decode cX8_readOwn 49 = .ok (.ifCond .eq 21, 3) := bX8_readOwn_33.2.2.2.2.2.2.2.2.2.2.1
theorem dX8_readOwn_52 : decode cX8_readOwn 52 = .ok (.aload_n 0, 1) := bX8_readOwn_33.2.2.2.2.2.2.2.2.2.2.2.1
theorem dX8_readOwn_53 : decode cX8_readOwn 53 = .ok (.getfield 13, 3) := bX8_readOwn_33.2.2.2.2.2.2.2.2.2.2.2.2.1
theorem dX8_readOwn_56 : decode cX8_readOwn 56 = .ok (.sipush 781, 3) := bX8_readOwn_33.2.2.2.2.2.2.2.2.2.2.2.2.2.1
theorem dX8_readOwn_59 : decode cX8_readOwn 59 = .ok (.iload_n 1, 1) := bX8_readOwn_33.2.2.2.2.2.2.2.2.2.2.2.2.2.2.1
theorem dX8_readOwn_60 : decode cX8_readOwn 60 = .ok (.iadd, 1) := bX8_readOwn_33.2.2.2.2.2.2.2.2.2.2.2.2.2.2.2
theorem bX8_readOwn_61 : (decode cX8_readOwn 61 = .ok (.iaload, 1)) ∧ (decode cX8_readOwn 62 = .ok (.iconst (-1), 1)) ∧ (decode cX8_readOwn 63 = .ok (.if_icmp .ne 7, 3)) ∧ (decode cX8_readOwn 66 = .ok (.iconst 1, 1)) ∧ (decode cX8_readOwn 67 = .ok (.goto 4, 3)) ∧ (decode cX8_readOwn 70 = .ok (.iconst 0, 1)) ∧ (decode cX8_readOwn 71 = .ok (.invokevirtual 116, 3)) ∧ (decode cX8_readOwn 74 = .ok (.aload_n 0, 1)) ∧ (decode cX8_readOwn 75 = .ok (.getfield 100, 3)) ∧ (decode cX8_readOwn 78 = .ok (.istore_n 3, 1)) ∧ (decode cX8_readOwn 79 = .ok (.aload_n 0, 1)) ∧ (decode cX8_readOwn 80 = .ok (.aload_n 0, 1)) ∧ (decode cX8_readOwn 81 = .ok (.getfield 103, 3)) ∧ (decode cX8_readOwn 84 = .ok (.bipush 6, 2)) ∧ (decode cX8_readOwn 86 = .ok (.if_icmp .ne 38, 3)) ∧ (decode cX8_readOwn 89 = .ok (.iload_n 3, 1)) := by decide +kernel
theorem dX8_readOwn_61 : decode cX8_readOwn 61 = .ok (.iaload, 1) := bX8_readOwn_61.1
theorem dX8_readOwn_62 : decode cX8_readOwn 62 = .ok (.iconst (-1), 1) := bX8_readOwn_61.2.1
theorem dX8_readOwn_63 : decode cX8_readOwn 63 = .ok (.if_icmp .ne 7, 3) := bX8_readOwn_61.2.2.1
theorem dX8_readOwn_66 : decode cX8_readOwn 66 = .ok (.iconst 1, 1) := bX8_readOwn_61.2.2.2.1
theorem dX8_readOwn_67 : decode cX8_readOwn 67 = .ok (.goto 4, 3) := bX8_readOwn_61.2.2.2.2.1
theorem dX8_readOwn_70 : decode cX8_readOwn 70 = .ok (.iconst 0, 1) := bX8_readOwn_61.2.2.2.2.2.1
theorem dX8_readOwn_71 : decode cX8_readOwn 71 = .ok (.invokevirtual 116, 3) := bX8_readOwn_61.2.2.2.2.2.2.1
theorem dX8_readOwn_74 : decode cX8_readOwn 74 = .ok (.aload_n 0, 1) := bX8_readOwn_61.2.2.2.2.2.2.2.1
theorem dX8_readOwn_75 : decode cX8_readOwn 75 = .ok (.getfield 100, 3) := bX8_readOwn_61.2.2.2.2.2.2.2.2.1
theorem dX8_readOwn_78 : decode cX8_readOwn 78 = .ok (.istore_n 3, 1) := bX8_readOwn_61.2.2.2.2.2.2.2.2.2.1
theorem dX8_readOwn_79 : decode cX8_readOwn 79 = .ok (.aload_n 0, 1) := bX8_readOwn_61.2.2.2.2.2.2.2.2.2.2.1
theorem dX8_readOwn_80 : decode cX8_readOwn 80 = .ok (.aload_n 0, 1) := bX8_readOwn_61.2.2.2.2.2.2.2.2.2.2.2.1
theorem dX8_readOwn_81 : decode cX8_readOwn 81 = .ok (.getfield 103, 3) := bX8_readOwn_61.2.2.2.2.2.2.2.2.2.2.2.2.1
theorem dX8_readOwn_84 : decode cX8_readOwn 84 = .ok (.bipush 6, 2) := bX8_readOwn_61.2.2.2.2.2.2.2.2.2.2.2.2.2.1
theorem dX8_readOwn_86 : decode cX8_readOwn 86 = .ok (.if_icmp .ne 38, 3) := bX8_readOwn_61.2.2.2.2.2.2.2.2.2.2.2.2.2.2.1
theorem dX8_readOwn_89 : decode cX8_readOwn 89 = .ok (.iload_n 3, 1) := bX8_readOwn_61.2.2.2.2.2.2.2.2.2.2.2.2.2.2.2
theorem bX8_readOwn_90 : (decode cX8_readOwn 90 = .ok (.aload_n 0, 1)) ∧ (decode cX8_readOwn 91 = .ok (.getfield 13, 3)) ∧ (decode cX8_readOwn 94 = .ok (.sipush 738, 3)) ∧ (decode cX8_readOwn 97 = .ok (.iaload, 1)) ∧ (decode cX8_readOwn 98 = .ok (.if_icmp .ge 26, 3)) ∧ (decode cX8_readOwn 101 = .ok (.aload_n 0, 1)) ∧ (decode cX8_readOwn 102 = .ok (.sipush 738, 3)) ∧ (decode cX8_readOwn 105 = .ok (.aload_n 0, 1)) ∧ (decode cX8_readOwn 106 = .ok (.getfield 13, 3)) ∧ (decode cX8_readOwn 109 = .ok (.sipush 772, 3)) ∧ (decode cX8_readOwn 112 = .ok (.iload_n 3, 1)) ∧ (decode cX8_readOwn 113 = .ok (.invokevirtual 124, 3)) ∧ (decode cX8_readOwn 116 = .ok (.iconst (-1), 1)) ∧ (decode cX8_readOwn 117 = .ok (.if_icmp .ne 7, 3)) ∧ (decode cX8_readOwn 120 = .ok (.iconst 1, 1)) ∧ (decode cX8_readOwn 121 = .ok (.goto 4, 3)) := by decide +kernel
theorem dX8_readOwn_90 : decode cX8_readOwn 90 = .ok (.aload_n 0, 1) := bX8_readOwn_90.1
theorem dX8_readOwn_91 : decode cX8_readOwn 91 = .ok (.getfield 13, 3) := bX8_readOwn_90.2.1
theorem dX8_readOwn_94 : decode cX8_readOwn 94 = .ok (.sipush 738, 3) := bX8_readOwn_90.2.2.1
theorem dX8_readOwn_97 : decode cX8_readOwn 97 = .ok (.iaload, 1) := bX8_readOwn_90.2.2.2.1
theorem dX8_readOwn_98 : decode cX8_readOwn 98 = .ok (.if_icmp .ge 26, 3) := bX8_readOwn_90.2.2.2.2.1
theorem dX8_readOwn_101 : decode cX8_readOwn 101 = .ok (.aload_n 0, 1) := bX8_readOwn_90.2.2.2.2.2.1
theorem dX8_readOwn_102 : decode cX8_readOwn 102 = .ok (.sipush 738, 3) := bX8_readOwn_90.2.2.2.2.2.2.1
theorem dX8_readOwn_105 : decode cX8_readOwn 105 = .ok (.aload_n 0, 1) := bX8_readOwn_90.2.2.2.2.2.2.2.1
theorem dX8_readOwn_106 : decode cX8_readOwn 106 = .ok (.getfield 13, 3) := bX8_readOwn_90.2.2.2.2.2.2.2.2.1
theorem dX8_readOwn_109 : decode cX8_readOwn 109 = .ok (.sipush 772, 3) := bX8_readOwn_90.2.2.2.2.2.2.2.2.2.1
theorem dX8_readOwn_112 : decode cX8_readOwn 112 = .ok (.iload_n 3, 1) := bX8_readOwn_90.2.2.2.2.2.2.2.2.2.2.1
theorem dX8_readOwn_113 : decode cX8_readOwn 113 = .ok (.invokevirtual 124, 3) := bX8_readOwn_90.2.2.2.2.2.2.2.2.2.2.2.1
theorem dX8_readOwn_116 : decode cX8_readOwn 116 = .ok (.iconst (-1), 1) := bX8_readOwn_90.2.2.2.2.2.2.2.2.2.2.2.2.1
theorem dX8_readOwn_117 : decode cX8_readOwn 117 = .ok (.if_icmp .ne 7, 3) := bX8_readOwn_90.2.2.2.2.2.2.2.2.2.2.2.2.2.1
theorem dX8_readOwn_120 : decode cX8_readOwn 120 = .ok (.iconst 1, 1) := bX8_readOwn_90.2.2.2.2.2.2.2.2.2.2.2.2.2.2.1
theorem dX8_readOwn_121 : decode cX8_readOwn 121 = .ok (.goto 4, 3) := bX8_readOwn_90.2.2.2.2.2.2.2.2.2.2.2.2.2.2.2
theorem bX8_readOwn_124 : (decode cX8_readOwn 124 = .ok (.iconst 0, 1)) ∧ (decode cX8_readOwn 125 = .ok (.invokevirtual 116, 3)) ∧ (decode cX8_readOwn 128 = .ok (.aload_n 0, 1)) ∧ (decode cX8_readOwn 129 = .ok (.getfield 109, 3)) ∧ (decode cX8_readOwn 132 = .ok (.ifCond .ne 14, 3)) ∧ (decode cX8_readOwn 135 = .ok (.aload_n 0, 1)) ∧ (decode cX8_readOwn 136 = .ok (.getfield 13, 3)) ∧ (decode cX8_readOwn 139 = .ok (.sipush 781, 3)) ∧ (decode cX8_readOwn 142 = .ok (.iload_n 1, 1)) ∧ (decode cX8_readOwn 143 = .ok (.iadd, 1)) ∧ (decode cX8_readOwn 144 = .ok (.iload_n 3, 1)) ∧ (decode cX8_readOwn 145 = .ok (.iastore, 1)) ∧ (decode cX8_readOwn 146 = .ok (.return_, 1)) := by decide +kernel
theorem dX8_readOwn_124 : decode cX8_readOwn 124 = .ok (.iconst 0, 1) := bX8_readOwn_124.1
theorem dX8_readOwn_125 : decode cX8_readOwn 125 = .ok (.invokevirtual 116, 3) := bX8_readOwn_124.2.1
theorem dX8_readOwn_128 : decode cX8_readOwn 128 = .ok (.aload_n 0, 1) := bX8_readOwn_124.2.2.1
theorem dX8_readOwn_129 : decode cX8_readOwn 129 = .ok (.getfield 109, 3) := bX8_readOwn_124.2.2.2.1
theorem dX8_readOwn_132 : decode cX8_readOwn 132 = .ok (.ifCond .ne 14, 3) := bX8_readOwn_124.2.2.2.2.1
theorem dX8_readOwn_135 : decode cX8_readOwn 135 = .ok (.aload_n 0, 1) := bX8_readOwn_124.2.2.2.2.2.1
theorem dX8_readOwn_136 : decode cX8_readOwn 136 = .ok (.getfield 13, 3) := bX8_readOwn_124.2.2.2.2.2.2.1
theorem dX8_readOwn_139 : decode cX8_readOwn 139 = .ok (.sipush 781, 3) := bX8_readOwn_124.2.2.2.2.2.2.2.1
theorem dX8_readOwn_142 : decode cX8_readOwn 142 = .ok (.iload_n 1, 1) := bX8_readOwn_124.2.2.2.2.2.2.2.2.1
theorem dX8_readOwn_143 : decode cX8_readOwn 143 = .ok (.iadd, 1) := bX8_readOwn_124.2.2.2.2.2.2.2.2.2.1
theorem dX8_readOwn_144 : decode cX8_readOwn 144 = .ok (.iload_n 3, 1) := bX8_readOwn_124.2.2.2.2.2.2.2.2.2.2.1
theorem dX8_readOwn_145 : decode cX8_readOwn 145 = .ok (.iastore, 1) := bX8_readOwn_124.2.2.2.2.2.2.2.2.2.2.2.1
theorem dX8_readOwn_146 : decode cX8_readOwn 146 = .ok (.return_, 1) := bX8_readOwn_124.2.2.2.2.2.2.2.2.2.2.2.2
theorem bX8_readLeave_0 : (decode cX8_readLeave 0 = .ok (.aload_n 0, 1)) ∧ (decode cX8_readLeave 1 = .ok (.getfield 100, 3)) ∧ (decode cX8_readLeave 4 = .ok (.istore_n 1, 1)) ∧ (decode cX8_readLeave 5 = .ok (.aload_n 0, 1)) ∧ (decode cX8_readLeave 6 = .ok (.aload_n 0, 1)) ∧ (decode cX8_readLeave 7 = .ok (.getfield 103, 3)) ∧ (decode cX8_readLeave 10 = .ok (.bipush 6, 2)) ∧ (decode cX8_readLeave 12 = .ok (.if_icmp .ne 33, 3)) ∧ (decode cX8_readLeave 15 = .ok (.iload_n 1, 1)) ∧ (decode cX8_readLeave 16 = .ok (.aload_n 0, 1)) ∧ (decode cX8_readLeave 17 = .ok (.getfield 13, 3)) ∧ (decode cX8_readLeave 20 = .ok (.sipush 739, 3)) ∧ (decode cX8_readLeave 23 = .ok (.iaload, 1)) ∧ (decode cX8_readLeave 24 = .ok (.if_icmp .ge 21, 3)) ∧ (decode cX8_readLeave 27 = .ok (.aload_n 0, 1)) ∧ (decode cX8_readLeave 28 = .ok (.getfield 13, 3)) := by decide +kernel
theorem dX8_readLeave_0 : decode cX8_readLeave 0 = .ok (.aload_n 0, 1) := bX8_readLeave_0.1
theorem dX8_readLeave_1 : decode cX8_readLeave 1 = .ok (.getfield 100, 3) := bX8_readLeave_0.2.1
theorem dX8_readLeave_4 : decode cX8_readLeave 4 = .ok (.istore_n 1, 1) := bX8_readLeave_0.2.2.1
theorem dX8_readLeave_5 : decode cX8_readLeave 5 = .ok (.aload_n 0, 1) := bX8_readLeave_0.2.2.2.1
theorem dX8_readLeave_6 : decode cX8_readLeave 6 = .ok (.aload_n 0, 1) := bX8_readLeave_0.2.2.2.2.1
theorem dX8_readLeave_7 : decode cX8_readLeave 7 = .ok (.getfield 103, 3) := bX8_readLeave_0.2.2.2.2.2.1
theorem dX8_readLeave_10 : decode cX8_readLeave 10 = .ok (.bipush 6, 2) := bX8_readLeave_0.2.2.2.2.2.2.1
theorem dX8_readLeave_12 : decode cX8_readLeave 12 = .ok (.if_icmp .ne 33, 3) := bX8_readLeave_0.2.2.2.2.2.2.2.1
theorem dX8_readLeave_15 : decode cX8_readLeave 15 = .ok (.iload_n 1, 1) := bX8_readLeave_0.2.2.2.2.2.2.2.2.1
theorem dX8_readLeave_16 : decode cX8_readLeave 16 = .ok (.aload_n 0, 1) := bX8_readLeave_0.2.2.2.2.2.2.2.2.2.1
theorem dX8_readLeave_17 : decode cX8_readLeave 17 = .ok (.getfield 13, 3) := bX8_readLeave_0.2.2.2.2.2.2.2.2.2.2.1
theorem dX8_readLeave_20 : decode cX8_readLeave 20 = .ok (.sipush 739, 3) := bX8_readLeave_0.2.2.2.2.2.2.2.2.2.2.2.1
theorem dX8_readLeave_23 : decode cX8_readLeave 23 = .ok (.iaload, 1) := bX8_readLeave_0.2.2.2.2.2.2.2.2.2.2.2.2.1
theorem dX8_readLeave_24 : decode cX8_readLeave 24 = .ok (.if_icmp .ge 21, 3) := bX8_readLeave_0.2.2.2.2.2.2.2.2.2.2.2.2.2.1
theorem dX8_readLeave_27 : decode cX8_readLeave 27 = .ok (.aload_n 0, 1) := bX8_readLeave_0.2.2.2.2.2.2.2.2.2.2.2.2.2.2.1
theorem dX8_readLeave_28 : decode cX8_readLeave 28 = .ok (.getfield 13, 3) := bX8_readLeave_0.2.2.2.2.2.2.2.2.2.2.2.2.2.2.2
theorem bX8_readLeave_31 : (decode cX8_readLeave 31 = .ok (.sipush 781, 3)) ∧ (decode cX8_readLeave 34 = .ok (.iload_n 1, 1)) ∧ (decode cX8_readLeave 35 = .ok (.iadd, 1)) ∧ (decode cX8_readLeave 36 = .ok (.iaload, 1)) ∧ (decode cX8_readLeave 37 = .ok (.iconst (-1), 1)) ∧ (decode cX8_readLeave 38 = .ok (.if_icmp .eq 7, 3)) ∧ (decode cX8_readLeave 41 = .ok (.iconst 1, 1)) ∧ (decode cX8_readLeave 42 = .ok (.goto 4, 3)) ∧ (decode cX8_readLeave 45 = .ok (.iconst 0, 1)) ∧ (decode cX8_readLeave 46 = .ok (.invokevirtual 116, 3)) ∧ (decode cX8_readLeave 49 = .ok (.aload_n 0, 1)) ∧ (decode cX8_readLeave 50 = .ok (.getfield 109, 3)) ∧ (decode cX8_readLeave 53 = .ok (.ifCond .ne 14, 3)) ∧ (decode cX8_readLeave 56 = .ok (.aload_n 0, 1)) ∧ (decode cX8_readLeave 57 = .ok (.getfield 13, 3)) ∧ (decode cX8_readLeave 60 = .ok (.sipush 781, 3)) := by decide +kernel
theorem dX8_readLeave_31 : decode cX8_readLeave 31 = .ok (.sipush 781, 3) := bX8_readLeave_31.1
theorem dX8_readLeave_34 : decode cX8_readLeave 34 = .ok (.iload_n 1, 1) := bX8_readLeave_31.2.1
theorem dX8_readLeave_35 : decode cX8_readLeave 35 = .ok (.iadd, 1) := bX8_readLeave_31.2.2.1
theorem dX8_readLeave_36 : decode cX8_readLeave 36 = .ok (.iaload, 1) := bX8_readLeave_31.2.2.2.1
theorem dX8_readLeave_37 : decode cX8_readLeave 37 = .ok (.iconst (-1), 1) := bX8_readLeave_31.2.2.2.2.1
theorem dX8_readLeave_38 : decode cX8_readLeave 38 = .ok (.if_icmp .eq 7, 3) := bX8_readLeave_31.2.2.2.2.2.1
theorem dX8_readLeave_41 : decode cX8_readLeave 41 = .ok (.iconst 1, 1) := bX8_readLeave_31.2.2.2.2.2.2.1
theorem dX8_readLeave_42 : decode cX8_readLeave 42 = .ok (.goto 4, 3) := bX8_readLeave_31.2.2.2.2.2.2.2.1
theorem dX8_readLeave_45 : decode cX8_readLeave 45 = .ok (.iconst 0, 1) := bX8_readLeave_31.2.2.2.2.2.2.2.2.1
theorem dX8_readLeave_46 : decode cX8_readLeave 46 = .ok (.invokevirtual 116, 3) := bX8_readLeave_31.2.2.2.2.2.2.2.2.2.1
theorem dX8_readLeave_49 : decode cX8_readLeave 49 = .ok (.aload_n 0, 1) := bX8_readLeave_31.2.2.2.2.2.2.2.2.2.2.1
theorem dX8_readLeave_50 : decode cX8_readLeave 50 = .ok (.getfield 109, 3) := bX8_readLeave_31.2.2.2.2.2.2.2.2.2.2.2.1
theorem dX8_readLeave_53 : decode cX8_readLeave 53 = .ok (.ifCond .ne 14, 3) := bX8_readLeave_31.2.2.2.2.2.2.2.2.2.2.2.2.1
theorem dX8_readLeave_56 : decode cX8_readLeave 56 = .ok (.aload_n 0, 1) := bX8_readLeave_31.2.2.2.2.2.2.2.2.2.2.2.2.2.1
theorem dX8_readLeave_57 : decode cX8_readLeave 57 = .ok (.getfield 13, 3) := bX8_readLeave_31.2.2.2.2.2.2.2.2.2.2.2.2.2.2.1
theorem dX8_readLeave_60 : decode cX8_readLeave 60 = .ok (.sipush 781, 3) := bX8_readLeave_31.2.2.2.2.2.2.2.2.2.2.2.2.2.2.2
theorem bX8_readLeave_63 : (decode cX8_readLeave 63 = .ok (.iload_n 1, 1)) ∧ (decode cX8_readLeave 64 = .ok (.iadd, 1)) ∧ (decode cX8_readLeave 65 = .ok (.iconst (-1), 1)) ∧ (decode cX8_readLeave 66 = .ok (.iastore, 1)) ∧ (decode cX8_readLeave 67 = .ok (.return_, 1)) := by decide +kernel
theorem dX8_readLeave_63 : decode cX8_readLeave 63 = .ok (.iload_n 1, 1) := bX8_readLeave_63.1
theorem dX8_readLeave_64 : decode cX8_readLeave 64 = .ok (.iadd, 1) := bX8_readLeave_63.2.1
theorem dX8_readLeave_65 : decode cX8_readLeave 65 = .ok (.iconst (-1), 1) := bX8_readLeave_63.2.2.1
theorem dX8_readLeave_66 : decode cX8_readLeave 66 = .ok (.iastore, 1) := bX8_readLeave_63.2.2.2.1
theorem dX8_readLeave_67 : decode cX8_readLeave 67 = .ok (.return_, 1) := bX8_readLeave_63.2.2.2.2
theorem bX8_readYears_0 : (decode cX8_readYears 0 = .ok (.aload_n 0, 1)) ∧ (decode cX8_readYears 1 = .ok (.iconst 1, 1)) ∧ (decode cX8_readYears 2 = .ok (.bipush 99, 2)) ∧ (decode cX8_readYears 4 = .ok (.invokevirtual 120, 3)) ∧ (decode cX8_readYears 7 = .ok (.istore_n 1, 1)) ∧ (decode cX8_readYears 8 = .ok (.iconst 0, 1)) ∧ (decode cX8_readYears 9 = .ok (.istore_n 2, 1)) ∧ (decode cX8_readYears 10 = .ok (.iload_n 2, 1)) ∧ (decode cX8_readYears 11 = .ok (.iload_n 1, 1)) ∧ (decode cX8_readYears 12 = .ok (.if_icmp .ge 44, 3)) ∧ (decode cX8_readYears 15 = .ok (.aload_n 0, 1)) ∧ (decode cX8_readYears 16 = .ok (.getfield 109, 3)) ∧ (decode cX8_readYears 19 = .ok (.ifCond .ne 37, 3)) ∧ (decode cX8_readYears 22 = .ok (.aload_n 0, 1)) ∧ (decode cX8_readYears 23 = .ok (.getfield 13, 3)) ∧ (decode cX8_readYears 26 = .ok (.sipush 772, 3)) := by decide +kernel
theorem dX8_readYears_0 : decode cX8_readYears 0 = .ok (.aload_n 0, 1) := bX8_readYears_0.1
theorem dX8_readYears_1 : decode cX8_readYears 1 = .ok (.iconst 1, 1) := bX8_readYears_0.2.1
theorem dX8_readYears_2 : decode cX8_readYears 2 = .ok (.bipush 99, 2) := bX8_readYears_0.2.2.1
theorem dX8_readYears_4 : decode cX8_readYears 4 = .ok (.invokevirtual 120, 3) := bX8_readYears_0.2.2.2.1
theorem dX8_readYears_7 : decode cX8_readYears 7 = .ok (.istore_n 1, 1) := bX8_readYears_0.2.2.2.2.1
theorem dX8_readYears_8 : decode cX8_readYears 8 = .ok (.iconst 0, 1) := bX8_readYears_0.2.2.2.2.2.1
theorem dX8_readYears_9 : decode cX8_readYears 9 = .ok (.istore_n 2, 1) := bX8_readYears_0.2.2.2.2.2.2.1
theorem dX8_readYears_10 : decode cX8_readYears 10 = .ok (.iload_n 2, 1) := bX8_readYears_0.2.2.2.2.2.2.2.1
theorem dX8_readYears_11 : decode cX8_readYears 11 = .ok (.iload_n 1, 1) := bX8_readYears_0.2.2.2.2.2.2.2.2.1
theorem dX8_readYears_12 : decode cX8_readYears 12 = .ok (.if_icmp .ge 44, 3) := bX8_readYears_0.2.2.2.2.2.2.2.2.2.1
theorem dX8_readYears_15 : decode cX8_readYears 15 = .ok (.aload_n 0, 1) := bX8_readYears_0.2.2.2.2.2.2.2.2.2.2.1
theorem dX8_readYears_16 : decode cX8_readYears 16 = .ok (.getfield 109, 3) := bX8_readYears_0.2.2.2.2.2.2.2.2.2.2.2.1
theorem dX8_readYears_19 : decode cX8_readYears 19 = .ok (.ifCond .ne 37, 3) := bX8_readYears_0.2.2.2.2.2.2.2.2.2.2.2.2.1
theorem dX8_readYears_22 : decode cX8_readYears 22 = .ok (.aload_n 0, 1) := bX8_readYears_0.2.2.2.2.2.2.2.2.2.2.2.2.2.1
theorem dX8_readYears_23 : decode cX8_readYears 23 = .ok (.getfield 13, 3) := bX8_readYears_0.2.2.2.2.2.2.2.2.2.2.2.2.2.2.1
theorem dX8_readYears_26 : decode cX8_readYears 26 = .ok (.sipush 772, 3) := bX8_readYears_0.2.2.2.2.2.2.2.2.2.2.2.2.2.2.2
theorem bX8_readYears_29 : (decode cX8_readYears 29 = .ok (.iaload, 1)) ∧ (decode cX8_readYears 30 = .ok (.sipush 999, 3)) ∧ (decode cX8_readYears 33 = .ok (.if_icmp .ge 23, 3)) ∧ (decode cX8_readYears 36 = .ok (.aload_n 0, 1)) ∧ (decode cX8_readYears 37 = .ok (.sipush 738, 3)) ∧ (decode cX8_readYears 40 = .ok (.aload_n 0, 1)) ∧ (decode cX8_readYears 41 = .ok (.getfield 13, 3)) ∧ (decode cX8_readYears 44 = .ok (.sipush 772, 3)) ∧ (decode cX8_readYears 47 = .ok (.invokevirtual 128, 3)) ∧ (decode cX8_readYears 50 = .ok (.iinc 2 1, 3)) ∧ (decode cX8_readYears 53 = .ok (.goto (-43), 3)) ∧ (decode cX8_readYears 56 = .ok (.return_, 1)) := by decide +kernel
theorem dX8_readYears_29 : decode cX8_readYears 29 = .ok (.iaload, 1) := bX8_readYears_29.1
theorem dX8_readYears_30 : decode cX8_readYears 30 = .ok (.sipush 999, 3) := bX8_readYears_29.2.1
theorem dX8_readYears_33 : decode cX8_readYears 33 = .ok (.if_icmp .ge 23, 3) := bX8_readYears_29.2.2.1
theorem dX8_readYears_36 : decode cX8_readYears 36 = .ok (.aload_n 0, 1) := bX8_readYears_29.2.2.2.1
theorem dX8_readYears_37 : decode cX8_readYears 37 = .ok (.sipush 738, 3) := bX8_readYears_29.2.2.2.2.1
theorem dX8_readYears_40 : decode cX8_readYears 40 = .ok (.aload_n 0, 1) := bX8_readYears_29.2.2.2.2.2.1
theorem dX8_readYears_41 : decode cX8_readYears 41 = .ok (.getfield 13, 3) := bX8_readYears_29.2.2.2.2.2.2.1
theorem dX8_readYears_44 : decode cX8_readYears 44 = .ok (.sipush 772, 3) := bX8_readYears_29.2.2.2.2.2.2.2.1
theorem dX8_readYears_47 : decode cX8_readYears 47 = .ok (.invokevirtual 128, 3) := bX8_readYears_29.2.2.2.2.2.2.2.2.1
theorem dX8_readYears_50 : decode cX8_readYears 50 = .ok (.iinc 2 1, 3) := bX8_readYears_29.2.2.2.2.2.2.2.2.2.1
theorem dX8_readYears_53 : decode cX8_readYears 53 = .ok (.goto (-43), 3) := bX8_readYears_29.2.2.2.2.2.2.2.2.2.2.1
theorem dX8_readYears_56 : decode cX8_readYears 56 = .ok (.return_, 1) := bX8_readYears_29.2.2.2.2.2.2.2.2.2.2.2
theorem bX8_item_0 : (decode cX8_item 0 = .ok (.iload_n 1, 1)) ∧ (decode cX8_item 1 = .ok (.tableswitch 66 0 4 #[35, 38, 45, 52, 59], 35)) ∧ (decode cX8_item 36 = .ok (.goto 35, 3)) ∧ (decode cX8_item 39 = .ok (.aload_n 0, 1)) ∧ (decode cX8_item 40 = .ok (.invokevirtual 132, 3)) ∧ (decode cX8_item 43 = .ok (.goto 28, 3)) ∧ (decode cX8_item 46 = .ok (.aload_n 0, 1)) ∧ (decode cX8_item 47 = .ok (.invokevirtual 135, 3)) ∧ (decode cX8_item 50 = .ok (.goto 21, 3)) ∧ (decode cX8_item 53 = .ok (.aload_n 0, 1)) ∧ (decode cX8_item 54 = .ok (.invokevirtual 138, 3)) ∧ (decode cX8_item 57 = .ok (.goto 14, 3)) ∧ (decode cX8_item 60 = .ok (.aload_n 0, 1)) ∧ (decode cX8_item 61 = .ok (.invokevirtual 141, 3)) ∧ (decode cX8_item 64 = .ok (.goto 7, 3)) ∧ (decode cX8_item 67 = .ok (.aload_n 0, 1)) := by decide +kernel
theorem dX8_item_0 : decode cX8_item 0 = .ok (.iload_n 1, 1) := bX8_item_0.1
theorem dX8_item_1 : decode cX8_item 1 = .ok (.tableswitch 66 0 4 #[35, 38, 45, 52, 59], 35) := bX8_item_0.2.1
theorem dX8_item_36 : decode cX8_item 36 = .ok (.goto 35, 3) := bX8_item_0.2.2.1
theorem dX8_item_39 : decode cX8_item 39 = .ok (.aload_n 0, 1) := bX8_item_0.2.2.2.1
theorem dX8_item_40 : decode cX8_item 40 = .ok (.invokevirtual 132, 3) := bX8_item_0.2.2.2.2.1
theorem dX8_item_43 : decode cX8_item 43 = .ok (.goto 28, 3) := bX8_item_0.2.2.2.2.2.1
theorem dX8_item_46 : decode cX8_item 46 = .ok (.aload_n 0, 1) := bX8_item_0.2.2.2.2.2.2.1
theorem dX8_item_47 : decode cX8_item 47 = .ok (.invokevirtual 135, 3) := bX8_item_0.2.2.2.2.2.2.2.1
theorem dX8_item_50 : decode cX8_item 50 = .ok (.goto 21, 3) := bX8_item_0.2.2.2.2.2.2.2.2.1
theorem dX8_item_53 : decode cX8_item 53 = .ok (.aload_n 0, 1) := bX8_item_0.2.2.2.2.2.2.2.2.2.1
theorem dX8_item_54 : decode cX8_item 54 = .ok (.invokevirtual 138, 3) := bX8_item_0.2.2.2.2.2.2.2.2.2.2.1
theorem dX8_item_57 : decode cX8_item 57 = .ok (.goto 14, 3) := bX8_item_0.2.2.2.2.2.2.2.2.2.2.2.1
theorem dX8_item_60 : decode cX8_item 60 = .ok (.aload_n 0, 1) := bX8_item_0.2.2.2.2.2.2.2.2.2.2.2.2.1
theorem dX8_item_61 : decode cX8_item 61 = .ok (.invokevirtual 141, 3) := bX8_item_0.2.2.2.2.2.2.2.2.2.2.2.2.2.1
theorem dX8_item_64 : decode cX8_item 64 = .ok (.goto 7, 3) := bX8_item_0.2.2.2.2.2.2.2.2.2.2.2.2.2.2.1
theorem dX8_item_67 : decode cX8_item 67 = .ok (.aload_n 0, 1) := bX8_item_0.2.2.2.2.2.2.2.2.2.2.2.2.2.2.2
theorem bX8_item_68 : (decode cX8_item 68 = .ok (.invokevirtual 144, 3)) ∧ (decode cX8_item 71 = .ok (.return_, 1)) := by decide +kernel
theorem dX8_item_68 : decode cX8_item 68 = .ok (.invokevirtual 144, 3) := bX8_item_68.1
theorem dX8_item_71 : decode cX8_item 71 = .ok (.return_, 1) := bX8_item_68.2
theorem bX8_may_0 : (decode cX8_may 0 = .ok (.iload_n 1, 1)) ∧ (decode cX8_may 1 = .ok (.iconst 5, 1)) ∧ (decode cX8_may 2 = .ok (.if_icmp .gt 27, 3)) ∧ (decode cX8_may 5 = .ok (.iload_n 1, 1)) ∧ (decode cX8_may 6 = .ok (.ifCond .ne 7, 3)) ∧ (decode cX8_may 9 = .ok (.iconst 1, 1)) ∧ (decode cX8_may 10 = .ok (.goto 4, 3)) ∧ (decode cX8_may 13 = .ok (.iconst 0, 1)) ∧ (decode cX8_may 14 = .ok (.aload_n 0, 1)) ∧ (decode cX8_may 15 = .ok (.getfield 147, 3)) ∧ (decode cX8_may 18 = .ok (.ifCond .ne 7, 3)) ∧ (decode cX8_may 21 = .ok (.iconst 1, 1)) ∧ (decode cX8_may 22 = .ok (.goto 4, 3)) ∧ (decode cX8_may 25 = .ok (.iconst 0, 1)) ∧ (decode cX8_may 26 = .ok (.if_icmp .eq 5, 3)) ∧ (decode cX8_may 29 = .ok (.iconst 0, 1)) := by decide +kernel
theorem dX8_may_0 : decode cX8_may 0 = .ok (.iload_n 1, 1) := bX8_may_0.1
theorem dX8_may_1 : decode cX8_may 1 = .ok (.iconst 5, 1) := bX8_may_0.2.1
theorem dX8_may_2 : decode cX8_may 2 = .ok (.if_icmp .gt 27, 3) := bX8_may_0.2.2.1
theorem dX8_may_5 : decode cX8_may 5 = .ok (.iload_n 1, 1) := bX8_may_0.2.2.2.1
theorem dX8_may_6 : decode cX8_may 6 = .ok (.ifCond .ne 7, 3) := bX8_may_0.2.2.2.2.1
theorem dX8_may_9 : decode cX8_may 9 = .ok (.iconst 1, 1) := bX8_may_0.2.2.2.2.2.1
theorem dX8_may_10 : decode cX8_may 10 = .ok (.goto 4, 3) := bX8_may_0.2.2.2.2.2.2.1
theorem dX8_may_13 : decode cX8_may 13 = .ok (.iconst 0, 1) := bX8_may_0.2.2.2.2.2.2.2.1
theorem dX8_may_14 : decode cX8_may 14 = .ok (.aload_n 0, 1) := bX8_may_0.2.2.2.2.2.2.2.2.1
theorem dX8_may_15 : decode cX8_may 15 = .ok (.getfield 147, 3) := bX8_may_0.2.2.2.2.2.2.2.2.2.1
theorem dX8_may_18 : decode cX8_may 18 = .ok (.ifCond .ne 7, 3) := bX8_may_0.2.2.2.2.2.2.2.2.2.2.1
theorem dX8_may_21 : decode cX8_may 21 = .ok (.iconst 1, 1) := bX8_may_0.2.2.2.2.2.2.2.2.2.2.2.1
theorem dX8_may_22 : decode cX8_may 22 = .ok (.goto 4, 3) := bX8_may_0.2.2.2.2.2.2.2.2.2.2.2.2.1
theorem dX8_may_25 : decode cX8_may 25 = .ok (.iconst 0, 1) := bX8_may_0.2.2.2.2.2.2.2.2.2.2.2.2.2.1
theorem dX8_may_26 : decode cX8_may 26 = .ok (.if_icmp .eq 5, 3) := bX8_may_0.2.2.2.2.2.2.2.2.2.2.2.2.2.2.1
theorem dX8_may_29 : decode cX8_may 29 = .ok (.iconst 0, 1) := bX8_may_0.2.2.2.2.2.2.2.2.2.2.2.2.2.2.2
theorem bX8_may_30 : (decode cX8_may 30 = .ok (.ireturn, 1)) ∧ (decode cX8_may 31 = .ok (.iload_n 1, 1)) ∧ (decode cX8_may 32 = .ok (.iconst 1, 1)) ∧ (decode cX8_may 33 = .ok (.if_icmp .ne 16, 3)) ∧ (decode cX8_may 36 = .ok (.aload_n 0, 1)) ∧ (decode cX8_may 37 = .ok (.getfield 13, 3)) ∧ (decode cX8_may 40 = .ok (.sipush 738, 3)) ∧ (decode cX8_may 43 = .ok (.iaload, 1)) ∧ (decode cX8_may 44 = .ok (.bipush 7, 2)) ∧ (decode cX8_may 46 = .ok (.if_icmp .ge 25, 3)) ∧ (decode cX8_may 49 = .ok (.iload_n 1, 1)) ∧ (decode cX8_may 50 = .ok (.iconst 2, 1)) ∧ (decode cX8_may 51 = .ok (.if_icmp .ne 16, 3)) ∧ (decode cX8_may 54 = .ok (.aload_n 0, 1)) ∧ (decode cX8_may 55 = .ok (.getfield 13, 3)) ∧ (decode cX8_may 58 = .ok (.sipush 739, 3)) := by decide +kernel
theorem dX8_may_30 : decode cX8_may 30 = .ok (.ireturn, 1) := bX8_may_30.1
theorem dX8_may_31 : decode cX8_may 31 = .ok (.iload_n 1, 1) := bX8_may_30.2.1
theorem dX8_may_32 : decode cX8_may 32 = .ok (.iconst 1, 1) := bX8_may_30.2.2.1
theorem dX8_may_33 : decode cX8_may 33 = .ok (.if_icmp .ne 16, 3) := bX8_may_30.2.2.2.1
theorem dX8_may_36 : decode cX8_may 36 = .ok (.aload_n 0, 1) := bX8_may_30.2.2.2.2.1
theorem dX8_may_37 : decode cX8_may 37 = .ok (.getfield 13, 3) := bX8_may_30.2.2.2.2.2.1
theorem dX8_may_40 : decode cX8_may 40 = .ok (.sipush 738, 3) := bX8_may_30.2.2.2.2.2.2.1
theorem dX8_may_43 : decode cX8_may 43 = .ok (.iaload, 1) := bX8_may_30.2.2.2.2.2.2.2.1
theorem dX8_may_44 : decode cX8_may 44 = .ok (.bipush 7, 2) := bX8_may_30.2.2.2.2.2.2.2.2.1
theorem dX8_may_46 : decode cX8_may 46 = .ok (.if_icmp .ge 25, 3) := bX8_may_30.2.2.2.2.2.2.2.2.2.1
theorem dX8_may_49 : decode cX8_may 49 = .ok (.iload_n 1, 1) := bX8_may_30.2.2.2.2.2.2.2.2.2.2.1
theorem dX8_may_50 : decode cX8_may 50 = .ok (.iconst 2, 1) := bX8_may_30.2.2.2.2.2.2.2.2.2.2.2.1
theorem dX8_may_51 : decode cX8_may 51 = .ok (.if_icmp .ne 16, 3) := bX8_may_30.2.2.2.2.2.2.2.2.2.2.2.2.1
theorem dX8_may_54 : decode cX8_may 54 = .ok (.aload_n 0, 1) := bX8_may_30.2.2.2.2.2.2.2.2.2.2.2.2.2.1
theorem dX8_may_55 : decode cX8_may 55 = .ok (.getfield 13, 3) := bX8_may_30.2.2.2.2.2.2.2.2.2.2.2.2.2.2.1
theorem dX8_may_58 : decode cX8_may 58 = .ok (.sipush 739, 3) := bX8_may_30.2.2.2.2.2.2.2.2.2.2.2.2.2.2.2
theorem bX8_may_61 : (decode cX8_may 61 = .ok (.iaload, 1)) ∧ (decode cX8_may 62 = .ok (.bipush 7, 2)) ∧ (decode cX8_may 64 = .ok (.if_icmp .ge 7, 3)) ∧ (decode cX8_may 67 = .ok (.iconst 1, 1)) ∧ (decode cX8_may 68 = .ok (.goto 4, 3)) ∧ (decode cX8_may 71 = .ok (.iconst 0, 1)) ∧ (decode cX8_may 72 = .ok (.ireturn, 1)) := by decide +kernel
theorem dX8_may_61 : decode cX8_may 61 = .ok (.iaload, 1) := bX8_may_61.1
theorem dX8_may_62 : decode cX8_may 62 = .ok (.bipush 7, 2) := bX8_may_61.2.1
theorem dX8_may_64 : decode cX8_may 64 = .ok (.if_icmp .ge 7, 3) := bX8_may_61.2.2.1
theorem dX8_may_67 : decode cX8_may 67 = .ok (.iconst 1, 1) := bX8_may_61.2.2.2.1
theorem dX8_may_68 : decode cX8_may 68 = .ok (.goto 4, 3) := bX8_may_61.2.2.2.2.1
theorem dX8_may_71 : decode cX8_may 71 = .ok (.iconst 0, 1) := bX8_may_61.2.2.2.2.2.1
theorem dX8_may_72 : decode cX8_may 72 = .ok (.ireturn, 1) := bX8_may_61.2.2.2.2.2.2
theorem bX8_read_0 : (decode cX8_read 0 = .ok (.aload_n 0, 1)) ∧ (decode cX8_read 1 = .ok (.iconst 0, 1)) ∧ (decode cX8_read 2 = .ok (.putfield 87, 3)) ∧ (decode cX8_read 5 = .ok (.aload_n 0, 1)) ∧ (decode cX8_read 6 = .ok (.iconst 0, 1)) ∧ (decode cX8_read 7 = .ok (.putfield 109, 3)) ∧ (decode cX8_read 10 = .ok (.aload_n 0, 1)) ∧ (decode cX8_read 11 = .ok (.iconst 0, 1)) ∧ (decode cX8_read 12 = .ok (.putfield 147, 3)) ∧ (decode cX8_read 15 = .ok (.aload_n 0, 1)) ∧ (decode cX8_read 16 = .ok (.sipush 738, 3)) ∧ (decode cX8_read 19 = .ok (.invokevirtual 40, 3)) ∧ (decode cX8_read 22 = .ok (.aload_n 0, 1)) ∧ (decode cX8_read 23 = .ok (.invokevirtual 113, 3)) ∧ (decode cX8_read 26 = .ok (.aload_n 0, 1)) ∧ (decode cX8_read 27 = .ok (.getfield 109, 3)) := by decide +kernel
theorem dX8_read_0 : decode cX8_read 0 = .ok (.aload_n 0, 1) := bX8_read_0.1
theorem dX8_read_1 : decode cX8_read 1 = .ok (.iconst 0, 1) := bX8_read_0.2.1
theorem dX8_read_2 : decode cX8_read 2 = .ok (.putfield 87, 3) := bX8_read_0.2.2.1
theorem dX8_read_5 : decode cX8_read 5 = .ok (.aload_n 0, 1) := bX8_read_0.2.2.2.1
theorem dX8_read_6 : decode cX8_read 6 = .ok (.iconst 0, 1) := bX8_read_0.2.2.2.2.1
theorem dX8_read_7 : decode cX8_read 7 = .ok (.putfield 109, 3) := bX8_read_0.2.2.2.2.2.1
theorem dX8_read_10 : decode cX8_read 10 = .ok (.aload_n 0, 1) := bX8_read_0.2.2.2.2.2.2.1
theorem dX8_read_11 : decode cX8_read 11 = .ok (.iconst 0, 1) := bX8_read_0.2.2.2.2.2.2.2.1
theorem dX8_read_12 : decode cX8_read 12 = .ok (.putfield 147, 3) := bX8_read_0.2.2.2.2.2.2.2.2.1
theorem dX8_read_15 : decode cX8_read 15 = .ok (.aload_n 0, 1) := bX8_read_0.2.2.2.2.2.2.2.2.2.1
theorem dX8_read_16 : decode cX8_read 16 = .ok (.sipush 738, 3) := bX8_read_0.2.2.2.2.2.2.2.2.2.2.1
theorem dX8_read_19 : decode cX8_read 19 = .ok (.invokevirtual 40, 3) := bX8_read_0.2.2.2.2.2.2.2.2.2.2.2.1
theorem dX8_read_22 : decode cX8_read 22 = .ok (.aload_n 0, 1) := bX8_read_0.2.2.2.2.2.2.2.2.2.2.2.2.1
theorem dX8_read_23 : decode cX8_read 23 = .ok (.invokevirtual 113, 3) := bX8_read_0.2.2.2.2.2.2.2.2.2.2.2.2.2.1
theorem dX8_read_26 : decode cX8_read 26 = .ok (.aload_n 0, 1) := bX8_read_0.2.2.2.2.2.2.2.2.2.2.2.2.2.2.1
theorem dX8_read_27 : decode cX8_read 27 = .ok (.getfield 109, 3) := bX8_read_0.2.2.2.2.2.2.2.2.2.2.2.2.2.2.2
theorem bX8_read_30 : (decode cX8_read 30 = .ok (.ifCond .ne 76, 3)) ∧ (decode cX8_read 33 = .ok (.aload_n 0, 1)) ∧ (decode cX8_read 34 = .ok (.getfield 103, 3)) ∧ (decode cX8_read 37 = .ok (.bipush 8, 2)) ∧ (decode cX8_read 39 = .ok (.if_icmp .ne 10, 3)) ∧ (decode cX8_read 42 = .ok (.aload_n 0, 1)) ∧ (decode cX8_read 43 = .ok (.getfield 147, 3)) ∧ (decode cX8_read 46 = .ok (.ifCond .ne 60, 3)) ∧ (decode cX8_read 49 = .ok (.aload_n 0, 1)) ∧ (decode cX8_read 50 = .ok (.getfield 103, 3)) ∧ (decode cX8_read 53 = .ok (.istore_n 1, 1)) ∧ (decode cX8_read 54 = .ok (.aload_n 0, 1)) ∧ (decode cX8_read 55 = .ok (.aload_n 0, 1)) ∧ (decode cX8_read 56 = .ok (.iload_n 1, 1)) ∧ (decode cX8_read 57 = .ok (.invokevirtual 150, 3)) ∧ (decode cX8_read 60 = .ok (.invokevirtual 116, 3)) := by decide +kernel
theorem dX8_read_30 : decode cX8_read 30 = .ok (.ifCond .ne 76, 3) := bX8_read_30.1
theorem dX8_read_33 : decode cX8_read 33 = .ok (.aload_n 0, 1) := bX8_read_30.2.1
theorem dX8_read_34 : decode cX8_read 34 = .ok (.getfield 103, 3) := bX8_read_30.2.2.1
theorem dX8_read_37 : decode cX8_read 37 = .ok (.bipush 8, 2) := bX8_read_30.2.2.2.1
theorem dX8_read_39 : decode cX8_read 39 = .ok (.if_icmp .ne 10, 3) := bX8_read_30.2.2.2.2.1
theorem dX8_read_42 : decode cX8_read 42 = .ok (.aload_n 0, 1) := bX8_read_30.2.2.2.2.2.1
theorem dX8_read_43 : decode cX8_read 43 = .ok (.getfield 147, 3) := bX8_read_30.2.2.2.2.2.2.1
theorem dX8_read_46 : decode cX8_read 46 = .ok (.ifCond .ne 60, 3) := bX8_read_30.2.2.2.2.2.2.2.1
theorem dX8_read_49 : decode cX8_read 49 = .ok (.aload_n 0, 1) := bX8_read_30.2.2.2.2.2.2.2.2.1
theorem dX8_read_50 : decode cX8_read 50 = .ok (.getfield 103, 3) := bX8_read_30.2.2.2.2.2.2.2.2.2.1
theorem dX8_read_53 : decode cX8_read 53 = .ok (.istore_n 1, 1) := bX8_read_30.2.2.2.2.2.2.2.2.2.2.1
theorem dX8_read_54 : decode cX8_read 54 = .ok (.aload_n 0, 1) := bX8_read_30.2.2.2.2.2.2.2.2.2.2.2.1
theorem dX8_read_55 : decode cX8_read 55 = .ok (.aload_n 0, 1) := bX8_read_30.2.2.2.2.2.2.2.2.2.2.2.2.1
theorem dX8_read_56 : decode cX8_read 56 = .ok (.iload_n 1, 1) := bX8_read_30.2.2.2.2.2.2.2.2.2.2.2.2.2.1
theorem dX8_read_57 : decode cX8_read 57 = .ok (.invokevirtual 150, 3) := bX8_read_30.2.2.2.2.2.2.2.2.2.2.2.2.2.2.1
theorem dX8_read_60 : decode cX8_read 60 = .ok (.invokevirtual 116, 3) := bX8_read_30.2.2.2.2.2.2.2.2.2.2.2.2.2.2.2
theorem bX8_read_63 : (decode cX8_read 63 = .ok (.aload_n 0, 1)) ∧ (decode cX8_read 64 = .ok (.getfield 109, 3)) ∧ (decode cX8_read 67 = .ok (.ifCond .ne 36, 3)) ∧ (decode cX8_read 70 = .ok (.aload_n 0, 1)) ∧ (decode cX8_read 71 = .ok (.iload_n 1, 1)) ∧ (decode cX8_read 72 = .ok (.invokevirtual 154, 3)) ∧ (decode cX8_read 75 = .ok (.aload_n 0, 1)) ∧ (decode cX8_read 76 = .ok (.aload_n 0, 1)) ∧ (decode cX8_read 77 = .ok (.getfield 103, 3)) ∧ (decode cX8_read 80 = .ok (.bipush 7, 2)) ∧ (decode cX8_read 82 = .ok (.if_icmp .ne 7, 3)) ∧ (decode cX8_read 85 = .ok (.iconst 1, 1)) ∧ (decode cX8_read 86 = .ok (.goto 4, 3)) ∧ (decode cX8_read 89 = .ok (.iconst 0, 1)) ∧ (decode cX8_read 90 = .ok (.invokevirtual 116, 3)) ∧ (decode cX8_read 93 = .ok (.aload_n 0, 1)) := by decide +kernel
theorem dX8_read_63 : decode cX8_read 63 = .ok (.aload_n 0, 1) := bX8_read_63.1
theorem dX8_read_64 : decode cX8_read 64 = .ok (.getfield 109, 3) := bX8_read_63.2.1
theorem dX8_read_67 : decode cX8_read 67 = .ok (.ifCond .ne 36, 3) := bX8_read_63.2.2.1
theorem dX8_read_70 : decode cX8_read 70 = .ok (.aload_n 0, 1) := bX8_read_63.2.2.2.1
theorem dX8_read_71 : decode cX8_read 71 = .ok (.iload_n 1, 1) := bX8_read_63.2.2.2.2.1
theorem dX8_read_72 : decode cX8_read 72 = .ok (.invokevirtual 154, 3) := bX8_read_63.2.2.2.2.2.1
theorem dX8_read_75 : decode cX8_read 75 = .ok (.aload_n 0, 1) := bX8_read_63.2.2.2.2.2.2.1
theorem dX8_read_76 : decode cX8_read 76 = .ok (.aload_n 0, 1) := bX8_read_63.2.2.2.2.2.2.2.1
theorem dX8_read_77 : decode cX8_read 77 = .ok (.getfield 103, 3) := bX8_read_63.2.2.2.2.2.2.2.2.1
theorem dX8_read_80 : decode cX8_read 80 = .ok (.bipush 7, 2) := bX8_read_63.2.2.2.2.2.2.2.2.2.1
theorem dX8_read_82 : decode cX8_read 82 = .ok (.if_icmp .ne 7, 3) := bX8_read_63.2.2.2.2.2.2.2.2.2.2.1
theorem dX8_read_85 : decode cX8_read 85 = .ok (.iconst 1, 1) := bX8_read_63.2.2.2.2.2.2.2.2.2.2.2.1
theorem dX8_read_86 : decode cX8_read 86 = .ok (.goto 4, 3) := bX8_read_63.2.2.2.2.2.2.2.2.2.2.2.2.1
theorem dX8_read_89 : decode cX8_read 89 = .ok (.iconst 0, 1) := bX8_read_63.2.2.2.2.2.2.2.2.2.2.2.2.2.1
theorem dX8_read_90 : decode cX8_read 90 = .ok (.invokevirtual 116, 3) := bX8_read_63.2.2.2.2.2.2.2.2.2.2.2.2.2.2.1
theorem dX8_read_93 : decode cX8_read 93 = .ok (.aload_n 0, 1) := bX8_read_63.2.2.2.2.2.2.2.2.2.2.2.2.2.2.2
theorem bX8_read_94 : (decode cX8_read 94 = .ok (.dup, 1)) ∧ (decode cX8_read 95 = .ok (.getfield 147, 3)) ∧ (decode cX8_read 98 = .ok (.iconst 1, 1)) ∧ (decode cX8_read 99 = .ok (.iadd, 1)) ∧ (decode cX8_read 100 = .ok (.putfield 147, 3)) ∧ (decode cX8_read 103 = .ok (.goto (-77), 3)) ∧ (decode cX8_read 106 = .ok (.aload_n 0, 1)) ∧ (decode cX8_read 107 = .ok (.getfield 109, 3)) ∧ (decode cX8_read 110 = .ok (.ifCond .eq 11, 3)) ∧ (decode cX8_read 113 = .ok (.bipush (-10), 2)) ∧ (decode cX8_read 115 = .ok (.aload_n 0, 1)) ∧ (decode cX8_read 116 = .ok (.getfield 90, 3)) ∧ (decode cX8_read 119 = .ok (.isub, 1)) ∧ (decode cX8_read 120 = .ok (.ireturn, 1)) ∧ (decode cX8_read 121 = .ok (.aload_n 0, 1)) ∧ (decode cX8_read 122 = .ok (.sipush 738, 3)) := by decide +kernel
theorem dX8_read_94 : decode cX8_read 94 = .ok (.dup, 1) := bX8_read_94.1
theorem dX8_read_95 : decode cX8_read 95 = .ok (.getfield 147, 3) := bX8_read_94.2.1
theorem dX8_read_98 : decode cX8_read 98 = .ok (.iconst 1, 1) := bX8_read_94.2.2.1
theorem dX8_read_99 : decode cX8_read 99 = .ok (.iadd, 1) := bX8_read_94.2.2.2.1
theorem dX8_read_100 : decode cX8_read 100 = .ok (.putfield 147, 3) := bX8_read_94.2.2.2.2.1
theorem dX8_read_103 : decode cX8_read 103 = .ok (.goto (-77), 3) := bX8_read_94.2.2.2.2.2.1
theorem dX8_read_106 : decode cX8_read 106 = .ok (.aload_n 0, 1) := bX8_read_94.2.2.2.2.2.2.1
theorem dX8_read_107 : decode cX8_read 107 = .ok (.getfield 109, 3) := bX8_read_94.2.2.2.2.2.2.2.1
theorem dX8_read_110 : decode cX8_read 110 = .ok (.ifCond .eq 11, 3) := bX8_read_94.2.2.2.2.2.2.2.2.1
theorem dX8_read_113 : decode cX8_read 113 = .ok (.bipush (-10), 2) := bX8_read_94.2.2.2.2.2.2.2.2.2.1
theorem dX8_read_115 : decode cX8_read 115 = .ok (.aload_n 0, 1) := bX8_read_94.2.2.2.2.2.2.2.2.2.2.1
theorem dX8_read_116 : decode cX8_read 116 = .ok (.getfield 90, 3) := bX8_read_94.2.2.2.2.2.2.2.2.2.2.2.1
theorem dX8_read_119 : decode cX8_read 119 = .ok (.isub, 1) := bX8_read_94.2.2.2.2.2.2.2.2.2.2.2.2.1
theorem dX8_read_120 : decode cX8_read 120 = .ok (.ireturn, 1) := bX8_read_94.2.2.2.2.2.2.2.2.2.2.2.2.2.1
theorem dX8_read_121 : decode cX8_read 121 = .ok (.aload_n 0, 1) := bX8_read_94.2.2.2.2.2.2.2.2.2.2.2.2.2.2.1
theorem dX8_read_122 : decode cX8_read 122 = .ok (.sipush 738, 3) := bX8_read_94.2.2.2.2.2.2.2.2.2.2.2.2.2.2.2
theorem bX8_read_125 : (decode cX8_read 125 = .ok (.iconst 0, 1)) ∧ (decode cX8_read 126 = .ok (.invokevirtual 157, 3)) ∧ (decode cX8_read 129 = .ok (.aload_n 0, 1)) ∧ (decode cX8_read 130 = .ok (.getfield 13, 3)) ∧ (decode cX8_read 133 = .ok (.iconst 5, 1)) ∧ (decode cX8_read 134 = .ok (.iconst 0, 1)) ∧ (decode cX8_read 135 = .ok (.iastore, 1)) ∧ (decode cX8_read 136 = .ok (.aload_n 0, 1)) ∧ (decode cX8_read 137 = .ok (.getfield 147, 3)) ∧ (decode cX8_read 140 = .ok (.ireturn, 1)) := by decide +kernel
theorem dX8_read_125 : decode cX8_read 125 = .ok (.iconst 0, 1) := bX8_read_125.1
theorem dX8_read_126 : decode cX8_read 126 = .ok (.invokevirtual 157, 3) := bX8_read_125.2.1
theorem dX8_read_129 : decode cX8_read 129 = .ok (.aload_n 0, 1) := bX8_read_125.2.2.1
theorem dX8_read_130 : decode cX8_read 130 = .ok (.getfield 13, 3) := bX8_read_125.2.2.2.1
theorem dX8_read_133 : decode cX8_read 133 = .ok (.iconst 5, 1) := bX8_read_125.2.2.2.2.1
theorem dX8_read_134 : decode cX8_read 134 = .ok (.iconst 0, 1) := bX8_read_125.2.2.2.2.2.1
theorem dX8_read_135 : decode cX8_read 135 = .ok (.iastore, 1) := bX8_read_125.2.2.2.2.2.2.1
theorem dX8_read_136 : decode cX8_read 136 = .ok (.aload_n 0, 1) := bX8_read_125.2.2.2.2.2.2.2.1
theorem dX8_read_137 : decode cX8_read 137 = .ok (.getfield 147, 3) := bX8_read_125.2.2.2.2.2.2.2.2.1
theorem dX8_read_140 : decode cX8_read 140 = .ok (.ireturn, 1) := bX8_read_125.2.2.2.2.2.2.2.2.2
theorem bX8_know_0 : (decode cX8_know 0 = .ok (.aload_n 0, 1)) ∧ (decode cX8_know 1 = .ok (.getfield 13, 3)) ∧ (decode cX8_know 4 = .ok (.iconst 5, 1)) ∧ (decode cX8_know 5 = .ok (.iaload, 1)) ∧ (decode cX8_know 6 = .ok (.bipush 8, 2)) ∧ (decode cX8_know 8 = .ok (.if_icmp .ne 46, 3)) ∧ (decode cX8_know 11 = .ok (.iconst 0, 1)) ∧ (decode cX8_know 12 = .ok (.istore_n 1, 1)) ∧ (decode cX8_know 13 = .ok (.iload_n 1, 1)) ∧ (decode cX8_know 14 = .ok (.bipush 112, 2)) ∧ (decode cX8_know 16 = .ok (.if_icmp .ge 28, 3)) ∧ (decode cX8_know 19 = .ok (.aload_n 0, 1)) ∧ (decode cX8_know 20 = .ok (.getfield 13, 3)) ∧ (decode cX8_know 23 = .ok (.bipush 118, 2)) := by decide +kernel
theorem dX8_know_0 : decode cX8_know 0 = .ok (.aload_n 0, 1) := bX8_know_0.1
theorem dX8_know_1 : decode cX8_know 1 = .ok (.getfield 13, 3) := bX8_know_0.2.1
theorem dX8_know_4 : decode cX8_know 4 = .ok (.iconst 5, 1) := bX8_know_0.2.2.1
theorem dX8_know_5 : decode cX8_know 5 = .ok (.iaload, 1) := bX8_know_0.2.2.2.1
theorem dX8_know_6 : decode cX8_know 6 = .ok (.bipush 8, 2) := bX8_know_0.2.2.2.2.1
theorem dX8_know_8 : decode cX8_know 8 = .ok (.if_icmp .ne 46, 3) := bX8_know_0.2.2.2.2.2.1
theorem dX8_know_11 : decode cX8_know 11 = .ok (.iconst 0, 1) := bX8_know_0.2.2.2.2.2.2.1
theorem dX8_know_12 : decode cX8_know 12 = .ok (.istore_n 1, 1) := bX8_know_0.2.2.2.2.2.2.2.1
theorem dX8_know_13 : decode cX8_know 13 = .ok (.iload_n 1, 1) := bX8_know_0.2.2.2.2.2.2.2.2.1
theorem dX8_know_14 : decode cX8_know 14 = .ok (.bipush 112, 2) := bX8_know_0.2.2.2.2.2.2.2.2.2.1
theorem dX8_know_16 : decode cX8_know 16 = .ok (.if_icmp .ge 28, 3) := bX8_know_0.2.2.2.2.2.2.2.2.2.2.1
theorem dX8_know_19 : decode cX8_know 19 = .ok (.aload_n 0, 1) := bX8_know_0.2.2.2.2.2.2.2.2.2.2.2.1
theorem dX8_know_20 : decode cX8_know 20 = .ok (.getfield 13, 3) := bX8_know_0.2.2.2.2.2.2.2.2.2.2.2.2.1
theorem dX8_know_23 : decode cX8_know 23 = .ok (.bipush 118, 2) := bX8_know_0.2.2.2.2.2.2.2.2.2.2.2.2.2
