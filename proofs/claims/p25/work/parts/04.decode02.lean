theorem bX7_held_51 : (decode cX7_held 51 = .ok (.ior, 1)) ∧ (decode cX7_held 52 = .ok (.istore_n 1, 1)) ∧ (decode cX7_held 53 = .ok (.iinc 2 1, 3)) ∧ (decode cX7_held 56 = .ok (.goto (-52), 3)) ∧ (decode cX7_held 59 = .ok (.iload_n 1, 1)) ∧ (decode cX7_held 60 = .ok (.ireturn, 1)) := by decide +kernel
theorem dX7_held_51 : decode cX7_held 51 = .ok (.ior, 1) := bX7_held_51.1
theorem dX7_held_52 : decode cX7_held 52 = .ok (.istore_n 1, 1) := bX7_held_51.2.1
theorem dX7_held_53 : decode cX7_held 53 = .ok (.iinc 2 1, 3) := bX7_held_51.2.2.1
theorem dX7_held_56 : decode cX7_held 56 = .ok (.goto (-52), 3) := bX7_held_51.2.2.2.1
theorem dX7_held_59 : decode cX7_held 59 = .ok (.iload_n 1, 1) := bX7_held_51.2.2.2.2.1
theorem dX7_held_60 : decode cX7_held 60 = .ok (.ireturn, 1) := bX7_held_51.2.2.2.2.2
theorem bX7_left_0 : (decode cX7_left 0 = .ok (.iload_n 1, 1)) ∧ (decode cX7_left 1 = .ok (.iconst 0, 1)) ∧ (decode cX7_left 2 = .ok (.bipush 60, 2)) ∧ (decode cX7_left 4 = .ok (.invokestatic 59, 3)) ∧ (decode cX7_left 7 = .ok (.ifCond .ne 8, 3)) ∧ (decode cX7_left 10 = .ok (.aload_n 0, 1)) ∧ (decode cX7_left 11 = .ok (.invokevirtual 63, 3)) ∧ (decode cX7_left 14 = .ok (.ireturn, 1)) ∧ (decode cX7_left 15 = .ok (.aload_n 0, 1)) ∧ (decode cX7_left 16 = .ok (.getfield 44, 3)) ∧ (decode cX7_left 19 = .ok (.aload_n 0, 1)) ∧ (decode cX7_left 20 = .ok (.getfield 12, 3)) ∧ (decode cX7_left 23 = .ok (.getfield 117, 3)) ∧ (decode cX7_left 26 = .ok (.invokevirtual 165, 3)) ∧ (decode cX7_left 29 = .ok (.aload_n 0, 1)) ∧ (decode cX7_left 30 = .ok (.getfield 12, 3)) := by decide +kernel
theorem dX7_left_0 : decode cX7_left 0 = .ok (.iload_n 1, 1) := bX7_left_0.1
theorem dX7_left_1 : decode cX7_left 1 = .ok (.iconst 0, 1) := bX7_left_0.2.1
theorem dX7_left_2 : decode cX7_left 2 = .ok (.bipush 60, 2) := bX7_left_0.2.2.1
theorem dX7_left_4 : decode cX7_left 4 = .ok (.invokestatic 59, 3) := bX7_left_0.2.2.2.1
theorem dX7_left_7 : decode cX7_left 7 = .ok (.ifCond .ne 8, 3) := bX7_left_0.2.2.2.2.1
theorem dX7_left_10 : decode cX7_left 10 = .ok (.aload_n 0, 1) := bX7_left_0.2.2.2.2.2.1
theorem dX7_left_11 : decode cX7_left 11 = .ok (.invokevirtual 63, 3) := bX7_left_0.2.2.2.2.2.2.1
theorem dX7_left_14 : decode cX7_left 14 = .ok (.ireturn, 1) := bX7_left_0.2.2.2.2.2.2.2.1
theorem dX7_left_15 : decode cX7_left 15 = .ok (.aload_n 0, 1) := bX7_left_0.2.2.2.2.2.2.2.2.1
theorem dX7_left_16 : decode cX7_left 16 = .ok (.getfield 44, 3) := bX7_left_0.2.2.2.2.2.2.2.2.2.1
theorem dX7_left_19 : decode cX7_left 19 = .ok (.aload_n 0, 1) := bX7_left_0.2.2.2.2.2.2.2.2.2.2.1
theorem dX7_left_20 : decode cX7_left 20 = .ok (.getfield 12, 3) := bX7_left_0.2.2.2.2.2.2.2.2.2.2.2.1
theorem dX7_left_23 : decode cX7_left 23 = .ok (.getfield 117, 3) := bX7_left_0.2.2.2.2.2.2.2.2.2.2.2.2.1
theorem dX7_left_26 : decode cX7_left 26 = .ok (.invokevirtual 165, 3) := bX7_left_0.2.2.2.2.2.2.2.2.2.2.2.2.2.1
theorem dX7_left_29 : decode cX7_left 29 = .ok (.aload_n 0, 1) := bX7_left_0.2.2.2.2.2.2.2.2.2.2.2.2.2.2.1
theorem dX7_left_30 : decode cX7_left 30 = .ok (.getfield 12, 3) := bX7_left_0.2.2.2.2.2.2.2.2.2.2.2.2.2.2.2
theorem bX7_left_33 : (decode cX7_left 33 = .ok (.aload_n 0, 1)) ∧ (decode cX7_left 34 = .ok (.getfield 44, 3)) ∧ (decode cX7_left 37 = .ok (.iload_n 1, 1)) ∧ (decode cX7_left 38 = .ok (.sipush 1059, 3)) ∧ (decode cX7_left 41 = .ok (.invokevirtual 130, 3)) ∧ (decode cX7_left 44 = .ok (.aload_n 0, 1)) ∧ (decode cX7_left 45 = .ok (.getfield 44, 3)) ∧ (decode cX7_left 48 = .ok (.getfield 168, 3)) ∧ (decode cX7_left 51 = .ok (.ireturn, 1)) := by decide +kernel
theorem dX7_left_33 : decode cX7_left 33 = .ok (.aload_n 0, 1) := bX7_left_33.1
theorem dX7_left_34 : decode cX7_left 34 = .ok (.getfield 44, 3) := bX7_left_33.2.1
theorem dX7_left_37 : decode cX7_left 37 = .ok (.iload_n 1, 1) := bX7_left_33.2.2.1
theorem dX7_left_38 : decode cX7_left 38 = .ok (.sipush 1059, 3) := bX7_left_33.2.2.2.1
theorem dX7_left_41 : decode cX7_left 41 = .ok (.invokevirtual 130, 3) := bX7_left_33.2.2.2.2.1
theorem dX7_left_44 : decode cX7_left 44 = .ok (.aload_n 0, 1) := bX7_left_33.2.2.2.2.2.1
theorem dX7_left_45 : decode cX7_left 45 = .ok (.getfield 44, 3) := bX7_left_33.2.2.2.2.2.2.1
theorem dX7_left_48 : decode cX7_left 48 = .ok (.getfield 168, 3) := bX7_left_33.2.2.2.2.2.2.2.1
theorem dX7_left_51 : decode cX7_left 51 = .ok (.ireturn, 1) := bX7_left_33.2.2.2.2.2.2.2.2
theorem bX7_when_0 : (decode cX7_when 0 = .ok (.aload_n 0, 1)) ∧ (decode cX7_when 1 = .ok (.getfield 12, 3)) ∧ (decode cX7_when 4 = .ok (.iload_n 1, 1)) ∧ (decode cX7_when 5 = .ok (.invokevirtual 98, 3)) ∧ (decode cX7_when 8 = .ok (.ifCond .ne 8, 3)) ∧ (decode cX7_when 11 = .ok (.aload_n 0, 1)) ∧ (decode cX7_when 12 = .ok (.invokevirtual 63, 3)) ∧ (decode cX7_when 15 = .ok (.ireturn, 1)) ∧ (decode cX7_when 16 = .ok (.aload_n 0, 1)) ∧ (decode cX7_when 17 = .ok (.getfield 12, 3)) ∧ (decode cX7_when 20 = .ok (.getfield 117, 3)) ∧ (decode cX7_when 23 = .ok (.iload_n 1, 1)) ∧ (decode cX7_when 24 = .ok (.invokevirtual 158, 3)) ∧ (decode cX7_when 27 = .ok (.ifCond .ne 5, 3)) ∧ (decode cX7_when 30 = .ok (.iconst (-1), 1)) ∧ (decode cX7_when 31 = .ok (.ireturn, 1)) := by decide +kernel
theorem dX7_when_0 : decode cX7_when 0 = .ok (.aload_n 0, 1) := bX7_when_0.1
theorem dX7_when_1 : decode cX7_when 1 = .ok (.getfield 12, 3) := bX7_when_0.2.1
theorem dX7_when_4 : decode cX7_when 4 = .ok (.iload_n 1, 1) := bX7_when_0.2.2.1
theorem dX7_when_5 : decode cX7_when 5 = .ok (.invokevirtual 98, 3) := bX7_when_0.2.2.2.1
theorem dX7_when_8 : decode cX7_when 8 = .ok (.ifCond .ne 8, 3) := bX7_when_0.2.2.2.2.1
theorem dX7_when_11 : decode cX7_when 11 = .ok (.aload_n 0, 1) := bX7_when_0.2.2.2.2.2.1
theorem dX7_when_12 : decode cX7_when 12 = .ok (.invokevirtual 63, 3) := bX7_when_0.2.2.2.2.2.2.1
theorem dX7_when_15 : decode cX7_when 15 = .ok (.ireturn, 1) := bX7_when_0.2.2.2.2.2.2.2.1
theorem dX7_when_16 : decode cX7_when 16 = .ok (.aload_n 0, 1) := bX7_when_0.2.2.2.2.2.2.2.2.1
theorem dX7_when_17 : decode cX7_when 17 = .ok (.getfield 12, 3) := bX7_when_0.2.2.2.2.2.2.2.2.2.1
theorem dX7_when_20 : decode cX7_when 20 = .ok (.getfield 117, 3) := bX7_when_0.2.2.2.2.2.2.2.2.2.2.1
theorem dX7_when_23 : decode cX7_when 23 = .ok (.iload_n 1, 1) := bX7_when_0.2.2.2.2.2.2.2.2.2.2.2.1
theorem dX7_when_24 : decode cX7_when 24 = .ok (.invokevirtual 158, 3) := bX7_when_0.2.2.2.2.2.2.2.2.2.2.2.2.1
theorem dX7_when_27 : decode cX7_when 27 = .ok (.ifCond .ne 5, 3) := bX7_when_0.2.2.2.2.2.2.2.2.2.2.2.2.2.1
theorem dX7_when_30 : decode cX7_when 30 = .ok (.iconst (-1), 1) := bX7_when_0.2.2.2.2.2.2.2.2.2.2.2.2.2.2.1
theorem dX7_when_31 : decode cX7_when 31 = .ok (.ireturn, 1) := bX7_when_0.2.2.2.2.2.2.2.2.2.2.2.2.2.2.2
theorem bX7_when_32 : (decode cX7_when 32 = .ok (.aload_n 0, 1)) ∧ (decode cX7_when 33 = .ok (.getfield 12, 3)) ∧ (decode cX7_when 36 = .ok (.getfield 117, 3)) ∧ (decode cX7_when 39 = .ok (.getfield 120, 3)) ∧ (decode cX7_when 42 = .ok (.iload_n 1, 1)) ∧ (decode cX7_when 43 = .ok (.iaload, 1)) ∧ (decode cX7_when 44 = .ok (.istore_n 2, 1)) ∧ (decode cX7_when 45 = .ok (.aload_n 0, 1)) ∧ (decode cX7_when 46 = .ok (.getfield 12, 3)) ∧ (decode cX7_when 49 = .ok (.iload_n 2, 1)) ∧ (decode cX7_when 50 = .ok (.invokevirtual 102, 3)) ∧ (decode cX7_when 53 = .ok (.ifCond .eq 17, 3)) ∧ (decode cX7_when 56 = .ok (.aload_n 0, 1)) ∧ (decode cX7_when 57 = .ok (.getfield 12, 3)) ∧ (decode cX7_when 60 = .ok (.iload_n 2, 1)) ∧ (decode cX7_when 61 = .ok (.iload_n 1, 1)) := by decide +kernel
theorem dX7_when_32 : decode cX7_when 32 = .ok (.aload_n 0, 1) := bX7_when_32.1
theorem dX7_when_33 : decode cX7_when 33 = .ok (.getfield 12, 3) := bX7_when_32.2.1
theorem dX7_when_36 : decode cX7_when 36 = .ok (.getfield 117, 3) := bX7_when_32.2.2.1
theorem dX7_when_39 : decode cX7_when 39 = .ok (.getfield 120, 3) := bX7_when_32.2.2.2.1
theorem dX7_when_42 : decode cX7_when 42 = .ok (.iload_n 1, 1) := bX7_when_32.2.2.2.2.1
theorem dX7_when_43 : decode cX7_when 43 = .ok (.iaload, 1) := bX7_when_32.2.2.2.2.2.1
theorem dX7_when_44 : decode cX7_when 44 = .ok (.istore_n 2, 1) := bX7_when_32.2.2.2.2.2.2.1
theorem dX7_when_45 : decode cX7_when 45 = .ok (.aload_n 0, 1) := bX7_when_32.2.2.2.2.2.2.2.1
theorem dX7_when_46 : decode cX7_when 46 = .ok (.getfield 12, 3) := bX7_when_32.2.2.2.2.2.2.2.2.1
theorem dX7_when_49 : decode cX7_when 49 = .ok (.iload_n 2, 1) := bX7_when_32.2.2.2.2.2.2.2.2.2.1
theorem dX7_when_50 : decode cX7_when 50 = .ok (.invokevirtual 102, 3) := bX7_when_32.2.2.2.2.2.2.2.2.2.2.1
theorem dX7_when_53 : decode cX7_when 53 = .ok (.ifCond .eq 17, 3) := bX7_when_32.2.2.2.2.2.2.2.2.2.2.2.1
theorem dX7_when_56 : decode cX7_when 56 = .ok (.aload_n 0, 1) := bX7_when_32.2.2.2.2.2.2.2.2.2.2.2.2.1
theorem dX7_when_57 : decode cX7_when 57 = .ok (.getfield 12, 3) := bX7_when_32.2.2.2.2.2.2.2.2.2.2.2.2.2.1
theorem dX7_when_60 : decode cX7_when 60 = .ok (.iload_n 2, 1) := bX7_when_32.2.2.2.2.2.2.2.2.2.2.2.2.2.2.1
theorem dX7_when_61 : decode cX7_when 61 = .ok (.iload_n 1, 1) := bX7_when_32.2.2.2.2.2.2.2.2.2.2.2.2.2.2.2
theorem bX7_when_62 : (decode cX7_when 62 = .ok (.bipush 60, 2)) ∧ (decode cX7_when 64 = .ok (.invokevirtual 124, 3)) ∧ (decode cX7_when 67 = .ok (.goto 4, 3)) ∧ (decode cX7_when 70 = .ok (.iconst 0, 1)) ∧ (decode cX7_when 71 = .ok (.istore_n 3, 1)) ∧ (decode cX7_when 72 = .ok (.iload_n 3, 1)) ∧ (decode cX7_when 73 = .ok (.bipush 60, 2)) ∧ (decode cX7_when 75 = .ok (.if_icmp .ge 9, 3)) ∧ (decode cX7_when 78 = .ok (.iload_n 3, 1)) ∧ (decode cX7_when 79 = .ok (.iconst 1, 1)) ∧ (decode cX7_when 80 = .ok (.iadd, 1)) ∧ (decode cX7_when 81 = .ok (.goto 4, 3)) ∧ (decode cX7_when 84 = .ok (.iconst (-1), 1)) ∧ (decode cX7_when 85 = .ok (.ireturn, 1)) := by decide +kernel
theorem dX7_when_62 : decode cX7_when 62 = .ok (.bipush 60, 2) := bX7_when_62.1
theorem dX7_when_64 : decode cX7_when 64 = .ok (.invokevirtual 124, 3) := bX7_when_62.2.1
theorem dX7_when_67 : decode cX7_when 67 = .ok (.goto 4, 3) := bX7_when_62.2.2.1
theorem dX7_when_70 : decode cX7_when 70 = .ok (.iconst 0, 1) := bX7_when_62.2.2.2.1
theorem dX7_when_71 : decode cX7_when 71 = .ok (.istore_n 3, 1) := bX7_when_62.2.2.2.2.1
theorem dX7_when_72 : decode cX7_when 72 = .ok (.iload_n 3, 1) := bX7_when_62.2.2.2.2.2.1
theorem dX7_when_73 : decode cX7_when 73 = .ok (.bipush 60, 2) := bX7_when_62.2.2.2.2.2.2.1
theorem dX7_when_75 : decode cX7_when 75 = .ok (.if_icmp .ge 9, 3) := bX7_when_62.2.2.2.2.2.2.2.1
theorem dX7_when_78 : decode cX7_when 78 = .ok (.iload_n 3, 1) := bX7_when_62.2.2.2.2.2.2.2.2.1
theorem dX7_when_79 : decode cX7_when 79 = .ok (.iconst 1, 1) := bX7_when_62.2.2.2.2.2.2.2.2.2.1
theorem dX7_when_80 : decode cX7_when 80 = .ok (.iadd, 1) := bX7_when_62.2.2.2.2.2.2.2.2.2.2.1
theorem dX7_when_81 : decode cX7_when 81 = .ok (.goto 4, 3) := bX7_when_62.2.2.2.2.2.2.2.2.2.2.2.1
theorem dX7_when_84 : decode cX7_when 84 = .ok (.iconst (-1), 1) := bX7_when_62.2.2.2.2.2.2.2.2.2.2.2.2.1
theorem dX7_when_85 : decode cX7_when 85 = .ok (.ireturn, 1) := bX7_when_62.2.2.2.2.2.2.2.2.2.2.2.2.2
theorem bX7_lasts_0 : (decode cX7_lasts 0 = .ok (.aload_n 0, 1)) ∧ (decode cX7_lasts 1 = .ok (.getfield 12, 3)) ∧ (decode cX7_lasts 4 = .ok (.iload_n 1, 1)) ∧ (decode cX7_lasts 5 = .ok (.invokevirtual 98, 3)) ∧ (decode cX7_lasts 8 = .ok (.ifCond .eq 14, 3)) ∧ (decode cX7_lasts 11 = .ok (.aload_n 0, 1)) ∧ (decode cX7_lasts 12 = .ok (.getfield 12, 3)) ∧ (decode cX7_lasts 15 = .ok (.iload_n 2, 1)) ∧ (decode cX7_lasts 16 = .ok (.invokevirtual 102, 3)) ∧ (decode cX7_lasts 19 = .ok (.ifCond .ne 8, 3)) ∧ (decode cX7_lasts 22 = .ok (.aload_n 0, 1)) ∧ (decode cX7_lasts 23 = .ok (.invokevirtual 63, 3)) ∧ (decode cX7_lasts 26 = .ok (.ireturn, 1)) ∧ (decode cX7_lasts 27 = .ok (.aload_n 0, 1)) ∧ (decode cX7_lasts 28 = .ok (.getfield 12, 3)) ∧ (decode cX7_lasts 31 = .ok (.getfield 117, 3)) := by decide +kernel
theorem dX7_lasts_0 : decode cX7_lasts 0 = .ok (.aload_n 0, 1) := bX7_lasts_0.1
theorem dX7_lasts_1 : decode cX7_lasts 1 = .ok (.getfield 12, 3) := bX7_lasts_0.2.1
theorem dX7_lasts_4 : decode cX7_lasts 4 = .ok (.iload_n 1, 1) := bX7_lasts_0.2.2.1
theorem dX7_lasts_5 : decode cX7_lasts 5 = .ok (.invokevirtual 98, 3) := bX7_lasts_0.2.2.2.1
theorem dX7_lasts_8 : decode cX7_lasts 8 = .ok (.ifCond .eq 14, 3) := bX7_lasts_0.2.2.2.2.1
theorem dX7_lasts_11 : decode cX7_lasts 11 = .ok (.aload_n 0, 1) := bX7_lasts_0.2.2.2.2.2.1
theorem dX7_lasts_12 : decode cX7_lasts 12 = .ok (.getfield 12, 3) := bX7_lasts_0.2.2.2.2.2.2.1
theorem dX7_lasts_15 : decode cX7_lasts 15 = .ok (.iload_n 2, 1) := bX7_lasts_0.2.2.2.2.2.2.2.1
theorem dX7_lasts_16 : decode cX7_lasts 16 = .ok (.invokevirtual 102, 3) := bX7_lasts_0.2.2.2.2.2.2.2.2.1
theorem dX7_lasts_19 : decode cX7_lasts 19 = .ok (.ifCond .ne 8, 3) := bX7_lasts_0.2.2.2.2.2.2.2.2.2.1
theorem dX7_lasts_22 : decode cX7_lasts 22 = .ok (.aload_n 0, 1) := bX7_lasts_0.2.2.2.2.2.2.2.2.2.2.1
theorem dX7_lasts_23 : decode cX7_lasts 23 = .ok (.invokevirtual 63, 3) := bX7_lasts_0.2.2.2.2.2.2.2.2.2.2.2.1
theorem dX7_lasts_26 : decode cX7_lasts 26 = .ok (.ireturn, 1) := bX7_lasts_0.2.2.2.2.2.2.2.2.2.2.2.2.1
theorem dX7_lasts_27 : decode cX7_lasts 27 = .ok (.aload_n 0, 1) := bX7_lasts_0.2.2.2.2.2.2.2.2.2.2.2.2.2.1
theorem dX7_lasts_28 : decode cX7_lasts 28 = .ok (.getfield 12, 3) := bX7_lasts_0.2.2.2.2.2.2.2.2.2.2.2.2.2.2.1
theorem dX7_lasts_31 : decode cX7_lasts 31 = .ok (.getfield 117, 3) := bX7_lasts_0.2.2.2.2.2.2.2.2.2.2.2.2.2.2.2
theorem bX7_lasts_34 : (decode cX7_lasts 34 = .ok (.iload_n 1, 1)) ∧ (decode cX7_lasts 35 = .ok (.invokevirtual 158, 3)) ∧ (decode cX7_lasts 38 = .ok (.ifCond .ne 8, 3)) ∧ (decode cX7_lasts 41 = .ok (.aload_n 0, 1)) ∧ (decode cX7_lasts 42 = .ok (.invokevirtual 111, 3)) ∧ (decode cX7_lasts 45 = .ok (.ireturn, 1)) ∧ (decode cX7_lasts 46 = .ok (.aload_n 0, 1)) ∧ (decode cX7_lasts 47 = .ok (.getfield 12, 3)) ∧ (decode cX7_lasts 50 = .ok (.iload_n 2, 1)) ∧ (decode cX7_lasts 51 = .ok (.iload_n 1, 1)) ∧ (decode cX7_lasts 52 = .ok (.bipush 60, 2)) ∧ (decode cX7_lasts 54 = .ok (.invokevirtual 124, 3)) ∧ (decode cX7_lasts 57 = .ok (.ireturn, 1)) := by decide +kernel
theorem dX7_lasts_34 : decode cX7_lasts 34 = .ok (.iload_n 1, 1) := bX7_lasts_34.1
theorem dX7_lasts_35 : decode cX7_lasts 35 = .ok (.invokevirtual 158, 3) := bX7_lasts_34.2.1
theorem dX7_lasts_38 : decode cX7_lasts 38 = .ok (.ifCond .ne 8, 3) := bX7_lasts_34.2.2.1
theorem dX7_lasts_41 : decode cX7_lasts 41 = .ok (.aload_n 0, 1) := bX7_lasts_34.2.2.2.1
theorem dX7_lasts_42 : decode cX7_lasts 42 = .ok (.invokevirtual 111, 3) := bX7_lasts_34.2.2.2.2.1
theorem dX7_lasts_45 : decode cX7_lasts 45 = .ok (.ireturn, 1) := bX7_lasts_34.2.2.2.2.2.1
theorem dX7_lasts_46 : decode cX7_lasts 46 = .ok (.aload_n 0, 1) := bX7_lasts_34.2.2.2.2.2.2.1
theorem dX7_lasts_47 : decode cX7_lasts 47 = .ok (.getfield 12, 3) := bX7_lasts_34.2.2.2.2.2.2.2.1
theorem dX7_lasts_50 : decode cX7_lasts 50 = .ok (.iload_n 2, 1) := bX7_lasts_34.2.2.2.2.2.2.2.2.1
theorem dX7_lasts_51 : decode cX7_lasts 51 = .ok (.iload_n 1, 1) := bX7_lasts_34.2.2.2.2.2.2.2.2.2.1
theorem dX7_lasts_52 : decode cX7_lasts 52 = .ok (.bipush 60, 2) := bX7_lasts_34.2.2.2.2.2.2.2.2.2.2.1
theorem dX7_lasts_54 : decode cX7_lasts 54 = .ok (.invokevirtual 124, 3) := bX7_lasts_34.2.2.2.2.2.2.2.2.2.2.2.1
theorem dX7_lasts_57 : decode cX7_lasts 57 = .ok (.ireturn, 1) := bX7_lasts_34.2.2.2.2.2.2.2.2.2.2.2.2
theorem bX7_match_0 : (decode cX7_match 0 = .ok (.iload_n 1, 1)) ∧ (decode cX7_match 1 = .ok (.iconst 1, 1)) ∧ (decode cX7_match 2 = .ok (.bipush 60, 2)) ∧ (decode cX7_match 4 = .ok (.invokestatic 59, 3)) ∧ (decode cX7_match 7 = .ok (.ifCond .eq 19, 3)) ∧ (decode cX7_match 10 = .ok (.iload_n 2, 1)) ∧ (decode cX7_match 11 = .ok (.iconst (-1), 1)) ∧ (decode cX7_match 12 = .ok (.if_icmp .eq 22, 3)) ∧ (decode cX7_match 15 = .ok (.aload_n 0, 1)) ∧ (decode cX7_match 16 = .ok (.getfield 12, 3)) ∧ (decode cX7_match 19 = .ok (.iload_n 2, 1)) ∧ (decode cX7_match 20 = .ok (.invokevirtual 98, 3)) ∧ (decode cX7_match 23 = .ok (.ifCond .ne 11, 3)) ∧ (decode cX7_match 26 = .ok (.aload_n 0, 1)) ∧ (decode cX7_match 27 = .ok (.invokevirtual 63, 3)) ∧ (decode cX7_match 30 = .ok (.pop, 1)) := by decide +kernel
theorem dX7_match_0 : decode cX7_match 0 = .ok (.iload_n 1, 1) := bX7_match_0.1
theorem dX7_match_1 : decode cX7_match 1 = .ok (.iconst 1, 1) := bX7_match_0.2.1
theorem dX7_match_2 : decode cX7_match 2 = .ok (.bipush 60, 2) := bX7_match_0.2.2.1
theorem dX7_match_4 : decode cX7_match 4 = .ok (.invokestatic 59, 3) := bX7_match_0.2.2.2.1
theorem dX7_match_7 : decode cX7_match 7 = .ok (.ifCond .eq 19, 3) := bX7_match_0.2.2.2.2.1
theorem dX7_match_10 : decode cX7_match 10 = .ok (.iload_n 2, 1) := bX7_match_0.2.2.2.2.2.1
theorem dX7_match_11 : decode cX7_match 11 = .ok (.iconst (-1), 1) := bX7_match_0.2.2.2.2.2.2.1
theorem dX7_match_12 : decode cX7_match 12 = .ok (.if_icmp .eq 22, 3) := bX7_match_0.2.2.2.2.2.2.2.1
theorem dX7_match_15 : decode cX7_match 15 = .ok (.aload_n 0, 1) := bX7_match_0.2.2.2.2.2.2.2.2.1
theorem dX7_match_16 : decode cX7_match 16 = .ok (.getfield 12, 3) := bX7_match_0.2.2.2.2.2.2.2.2.2.1
theorem dX7_match_19 : decode cX7_match 19 = .ok (.iload_n 2, 1) := bX7_match_0.2.2.2.2.2.2.2.2.2.2.1
theorem dX7_match_20 : decode cX7_match 20 = .ok (.invokevirtual 98, 3) := bX7_match_0.2.2.2.2.2.2.2.2.2.2.2.1
theorem dX7_match_23 : decode cX7_match 23 = .ok (.ifCond .ne 11, 3) := bX7_match_0.2.2.2.2.2.2.2.2.2.2.2.2.1
theorem dX7_match_26 : decode cX7_match 26 = .ok (.aload_n 0, 1) := bX7_match_0.2.2.2.2.2.2.2.2.2.2.2.2.2.1
theorem dX7_match_27 : decode cX7_match 27 = .ok (.invokevirtual 63, 3) := bX7_match_0.2.2.2.2.2.2.2.2.2.2.2.2.2.2.1
theorem dX7_match_30 : decode cX7_match 30 = .ok (.pop, 1) := bX7_match_0.2.2.2.2.2.2.2.2.2.2.2.2.2.2.2
theorem bX7_match_31 : (decode cX7_match 31 = .ok (.bipush (-10), 2)) ∧ (decode cX7_match 33 = .ok (.ireturn, 1)) ∧ (decode cX7_match 34 = .ok (.aload_n 0, 1)) ∧ (decode cX7_match 35 = .ok (.getfield 30, 3)) ∧ (decode cX7_match 38 = .ok (.aload_n 0, 1)) ∧ (decode cX7_match 39 = .ok (.getfield 12, 3)) ∧ (decode cX7_match 42 = .ok (.iload_n 1, 1)) ∧ (decode cX7_match 43 = .ok (.invokevirtual 171, 3)) ∧ (decode cX7_match 46 = .ok (.iconst 1, 1)) ∧ (decode cX7_match 47 = .ok (.aload_n 0, 1)) ∧ (decode cX7_match 48 = .ok (.getfield 12, 3)) ∧ (decode cX7_match 51 = .ok (.getfield 67, 3)) ∧ (decode cX7_match 54 = .ok (.ishl, 1)) ∧ (decode cX7_match 55 = .ok (.iconst 1, 1)) ∧ (decode cX7_match 56 = .ok (.isub, 1)) ∧ (decode cX7_match 57 = .ok (.istore_n 3, 1)) := by decide +kernel
theorem dX7_match_31 : decode cX7_match 31 = .ok (.bipush (-10), 2) := bX7_match_31.1
theorem dX7_match_33 : decode cX7_match 33 = .ok (.ireturn, 1) := bX7_match_31.2.1
theorem dX7_match_34 : decode cX7_match 34 = .ok (.aload_n 0, 1) := bX7_match_31.2.2.1
theorem dX7_match_35 : decode cX7_match 35 = .ok (.getfield 30, 3) := bX7_match_31.2.2.2.1
theorem dX7_match_38 : decode cX7_match 38 = .ok (.aload_n 0, 1) := bX7_match_31.2.2.2.2.1
theorem dX7_match_39 : decode cX7_match 39 = .ok (.getfield 12, 3) := bX7_match_31.2.2.2.2.2.1
theorem dX7_match_42 : decode cX7_match 42 = .ok (.iload_n 1, 1) := bX7_match_31.2.2.2.2.2.2.1
theorem dX7_match_43 : decode cX7_match 43 = .ok (.invokevirtual 171, 3) := bX7_match_31.2.2.2.2.2.2.2.1
theorem dX7_match_46 : decode cX7_match 46 = .ok (.iconst 1, 1) := bX7_match_31.2.2.2.2.2.2.2.2.1
theorem dX7_match_47 : decode cX7_match 47 = .ok (.aload_n 0, 1) := bX7_match_31.2.2.2.2.2.2.2.2.2.1
theorem dX7_match_48 : decode cX7_match 48 = .ok (.getfield 12, 3) := bX7_match_31.2.2.2.2.2.2.2.2.2.2.1
theorem dX7_match_51 : decode cX7_match 51 = .ok (.getfield 67, 3) := bX7_match_31.2.2.2.2.2.2.2.2.2.2.2.1
theorem dX7_match_54 : decode cX7_match 54 = .ok (.ishl, 1) := bX7_match_31.2.2.2.2.2.2.2.2.2.2.2.2.1
theorem dX7_match_55 : decode cX7_match 55 = .ok (.iconst 1, 1) := bX7_match_31.2.2.2.2.2.2.2.2.2.2.2.2.2.1
theorem dX7_match_56 : decode cX7_match 56 = .ok (.isub, 1) := bX7_match_31.2.2.2.2.2.2.2.2.2.2.2.2.2.2.1
theorem dX7_match_57 : decode cX7_match 57 = .ok (.istore_n 3, 1) := bX7_match_31.2.2.2.2.2.2.2.2.2.2.2.2.2.2.2
theorem bX7_match_58 : (decode cX7_match 58 = .ok (.iload_n 2, 1)) ∧ (decode cX7_match 59 = .ok (.iconst (-1), 1)) ∧ (decode cX7_match 60 = .ok (.if_icmp .ne 15, 3)) ∧ (decode cX7_match 63 = .ok (.aload_n 0, 1)) ∧ (decode cX7_match 64 = .ok (.getfield 30, 3)) ∧ (decode cX7_match 67 = .ok (.iconst 0, 1)) ∧ (decode cX7_match 68 = .ok (.iload_n 3, 1)) ∧ (decode cX7_match 69 = .ok (.invokevirtual 175, 3)) ∧ (decode cX7_match 72 = .ok (.goto 12, 3)) ∧ (decode cX7_match 75 = .ok (.aload_n 0, 1)) ∧ (decode cX7_match 76 = .ok (.getfield 30, 3)) ∧ (decode cX7_match 79 = .ok (.iload_n 2, 1)) ∧ (decode cX7_match 80 = .ok (.iload_n 3, 1)) ∧ (decode cX7_match 81 = .ok (.invokevirtual 178, 3)) ∧ (decode cX7_match 84 = .ok (.ireturn, 1)) := by decide +kernel
theorem dX7_match_58 : decode cX7_match 58 = .ok (.iload_n 2, 1) := bX7_match_58.1
theorem dX7_match_59 : decode cX7_match 59 = .ok (.iconst (-1), 1) := bX7_match_58.2.1
theorem dX7_match_60 : decode cX7_match 60 = .ok (.if_icmp .ne 15, 3) := bX7_match_58.2.2.1
theorem dX7_match_63 : decode cX7_match 63 = .ok (.aload_n 0, 1) := bX7_match_58.2.2.2.1
theorem dX7_match_64 : decode cX7_match 64 = .ok (.getfield 30, 3) := bX7_match_58.2.2.2.2.1
theorem dX7_match_67 : decode cX7_match 67 = .ok (.iconst 0, 1) := bX7_match_58.2.2.2.2.2.1
theorem dX7_match_68 : decode cX7_match 68 = .ok (.iload_n 3, 1) := bX7_match_58.2.2.2.2.2.2.1
theorem dX7_match_69 : decode cX7_match 69 = .ok (.invokevirtual 175, 3) := bX7_match_58.2.2.2.2.2.2.2.1
theorem dX7_match_72 : decode cX7_match 72 = .ok (.goto 12, 3) := bX7_match_58.2.2.2.2.2.2.2.2.1
theorem dX7_match_75 : decode cX7_match 75 = .ok (.aload_n 0, 1) := bX7_match_58.2.2.2.2.2.2.2.2.2.1
theorem dX7_match_76 : decode cX7_match 76 = .ok (.getfield 30, 3) := bX7_match_58.2.2.2.2.2.2.2.2.2.2.1
theorem dX7_match_79 : decode cX7_match 79 = .ok (.iload_n 2, 1) := bX7_match_58.2.2.2.2.2.2.2.2.2.2.2.1
theorem dX7_match_80 : decode cX7_match 80 = .ok (.iload_n 3, 1) := bX7_match_58.2.2.2.2.2.2.2.2.2.2.2.2.1
theorem dX7_match_81 : decode cX7_match 81 = .ok (.invokevirtual 178, 3) := bX7_match_58.2.2.2.2.2.2.2.2.2.2.2.2.2.1
theorem dX7_match_84 : decode cX7_match 84 = .ok (.ireturn, 1) := bX7_match_58.2.2.2.2.2.2.2.2.2.2.2.2.2.2
theorem bX7_light_0 : (decode cX7_light 0 = .ok (.iload_n 1, 1)) ∧ (decode cX7_light 1 = .ok (.iconst 1, 1)) ∧ (decode cX7_light 2 = .ok (.bipush 60, 2)) ∧ (decode cX7_light 4 = .ok (.invokestatic 59, 3)) ∧ (decode cX7_light 7 = .ok (.ifCond .ne 8, 3)) ∧ (decode cX7_light 10 = .ok (.aload_n 0, 1)) ∧ (decode cX7_light 11 = .ok (.invokevirtual 63, 3)) ∧ (decode cX7_light 14 = .ok (.ireturn, 1)) ∧ (decode cX7_light 15 = .ok (.aload_n 0, 1)) ∧ (decode cX7_light 16 = .ok (.getfield 30, 3)) ∧ (decode cX7_light 19 = .ok (.aload_n 0, 1)) ∧ (decode cX7_light 20 = .ok (.getfield 12, 3)) ∧ (decode cX7_light 23 = .ok (.iload_n 1, 1)) ∧ (decode cX7_light 24 = .ok (.invokevirtual 171, 3)) ∧ (decode cX7_light 27 = .ok (.aload_n 0, 1)) ∧ (decode cX7_light 28 = .ok (.getfield 12, 3)) := by decide +kernel
theorem dX7_light_0 : decode cX7_light 0 = .ok (.iload_n 1, 1) := bX7_light_0.1
theorem dX7_light_1 : decode cX7_light 1 = .ok (.iconst 1, 1) := bX7_light_0.2.1
theorem dX7_light_2 : decode cX7_light 2 = .ok (.bipush 60, 2) := bX7_light_0.2.2.1
theorem dX7_light_4 : decode cX7_light 4 = .ok (.invokestatic 59, 3) := bX7_light_0.2.2.2.1
theorem dX7_light_7 : decode cX7_light 7 = .ok (.ifCond .ne 8, 3) := bX7_light_0.2.2.2.2.1
theorem dX7_light_10 : decode cX7_light 10 = .ok (.aload_n 0, 1) := bX7_light_0.2.2.2.2.2.1
theorem dX7_light_11 : decode cX7_light 11 = .ok (.invokevirtual 63, 3) := bX7_light_0.2.2.2.2.2.2.1
theorem dX7_light_14 : decode cX7_light 14 = .ok (.ireturn, 1) := bX7_light_0.2.2.2.2.2.2.2.1
theorem dX7_light_15 : decode cX7_light 15 = .ok (.aload_n 0, 1) := bX7_light_0.2.2.2.2.2.2.2.2.1
theorem dX7_light_16 : decode cX7_light 16 = .ok (.getfield 30, 3) := bX7_light_0.2.2.2.2.2.2.2.2.2.1
theorem dX7_light_19 : decode cX7_light 19 = .ok (.aload_n 0, 1) := bX7_light_0.2.2.2.2.2.2.2.2.2.2.1
theorem dX7_light_20 : decode cX7_light 20 = .ok (.getfield 12, 3) := bX7_light_0.2.2.2.2.2.2.2.2.2.2.2.1
theorem dX7_light_23 : decode cX7_light 23 = .ok (.iload_n 1, 1) := bX7_light_0.2.2.2.2.2.2.2.2.2.2.2.2.1
theorem dX7_light_24 : decode cX7_light 24 = .ok (.invokevirtual 171, 3) := bX7_light_0.2.2.2.2.2.2.2.2.2.2.2.2.2.1
theorem dX7_light_27 : decode cX7_light 27 = .ok (.aload_n 0, 1) := bX7_light_0.2.2.2.2.2.2.2.2.2.2.2.2.2.2.1
theorem dX7_light_28 : decode cX7_light 28 = .ok (.getfield 12, 3) := bX7_light_0.2.2.2.2.2.2.2.2.2.2.2.2.2.2.2
theorem bX7_light_31 : (decode cX7_light 31 = .ok (.getfield 117, 3)) ∧ (decode cX7_light 34 = .ok (.invokevirtual 134, 3)) ∧ (decode cX7_light 37 = .ok (.istore_n 2, 1)) ∧ (decode cX7_light 38 = .ok (.iconst (-1), 1)) ∧ (decode cX7_light 39 = .ok (.istore_n 3, 1)) ∧ (decode cX7_light 40 = .ok (.iconst 0, 1)) ∧ (decode cX7_light 41 = .ok (.istore 4, 2)) ∧ (decode cX7_light 43 = .ok (.iload 4, 2)) ∧ (decode cX7_light 45 = .ok (.iconst 1, 1)) ∧ (decode cX7_light 46 = .ok (.aload_n 0, 1)) ∧ (decode cX7_light 47 = .ok (.getfield 12, 3)) ∧ (decode cX7_light 50 = .ok (.getfield 67, 3)) ∧ (decode cX7_light 53 = .ok (.ishl, 1)) ∧ (decode cX7_light 54 = .ok (.if_icmp .ge 51, 3)) ∧ (decode cX7_light 57 = .ok (.aload_n 0, 1)) ∧ (decode cX7_light 58 = .ok (.getfield 30, 3)) := by decide +kernel
theorem dX7_light_31 : decode cX7_light 31 = .ok (.getfield 117, 3) := bX7_light_31.1
theorem dX7_light_34 : decode cX7_light 34 = .ok (.invokevirtual 134, 3) := bX7_light_31.2.1
theorem dX7_light_37 : decode cX7_light 37 = .ok (.istore_n 2, 1) := bX7_light_31.2.2.1
theorem dX7_light_38 : decode cX7_light 38 = .ok (.iconst (-1), 1) := bX7_light_31.2.2.2.1
theorem dX7_light_39 : decode cX7_light 39 = .ok (.istore_n 3, 1) := bX7_light_31.2.2.2.2.1
theorem dX7_light_40 : decode cX7_light 40 = .ok (.iconst 0, 1) := bX7_light_31.2.2.2.2.2.1
theorem dX7_light_41 : decode cX7_light 41 = .ok (.istore 4, 2) := bX7_light_31.2.2.2.2.2.2.1
theorem dX7_light_43 : decode cX7_light 43 = .ok (.iload 4, 2) := bX7_light_31.2.2.2.2.2.2.2.1
theorem dX7_light_45 : decode cX7_light 45 = .ok (.iconst 1, 1) := bX7_light_31.2.2.2.2.2.2.2.2.1
theorem dX7_light_46 : decode cX7_light 46 = .ok (.aload_n 0, 1) := bX7_light_31.2.2.2.2.2.2.2.2.2.1
theorem dX7_light_47 : decode cX7_light 47 = .ok (.getfield 12, 3) := bX7_light_31.2.2.2.2.2.2.2.2.2.2.1
theorem dX7_light_50 : decode cX7_light 50 = .ok (.getfield 67, 3) := bX7_light_31.2.2.2.2.2.2.2.2.2.2.2.1
theorem dX7_light_53 : decode cX7_light 53 = .ok (.ishl, 1) := bX7_light_31.2.2.2.2.2.2.2.2.2.2.2.2.1
theorem dX7_light_54 : decode cX7_light 54 = .ok (.if_icmp .ge 51, 3) := bX7_light_31.2.2.2.2.2.2.2.2.2.2.2.2.2.1
theorem dX7_light_57 : decode cX7_light 57 = .ok (.aload_n 0, 1) := bX7_light_31.2.2.2.2.2.2.2.2.2.2.2.2.2.2.1
theorem dX7_light_58 : decode cX7_light 58 = .ok (.getfield 30, 3) := bX7_light_31.2.2.2.2.2.2.2.2.2.2.2.2.2.2.2
theorem bX7_light_61 : (decode cX7_light 61 = .ok (.iconst 0, 1)) ∧ (decode cX7_light 62 = .ok (.iload 4, 2)) ∧ (decode cX7_light 64 = .ok (.invokevirtual 175, 3)) ∧ (decode cX7_light 67 = .ok (.iload_n 2, 1)) ∧ (decode cX7_light 68 = .ok (.if_icmp .ne 31, 3)) ∧ (decode cX7_light 71 = .ok (.aload_n 0, 1)) ∧ (decode cX7_light 72 = .ok (.getfield 12, 3)) ∧ (decode cX7_light 75 = .ok (.iload 4, 2)) ∧ (decode cX7_light 77 = .ok (.invokevirtual 181, 3)) ∧ (decode cX7_light 80 = .ok (.istore 5, 2)) ∧ (decode cX7_light 82 = .ok (.iload_n 3, 1)) ∧ (decode cX7_light 83 = .ok (.iconst (-1), 1)) ∧ (decode cX7_light 84 = .ok (.if_icmp .ne 8, 3)) ∧ (decode cX7_light 87 = .ok (.iload 5, 2)) ∧ (decode cX7_light 89 = .ok (.goto 9, 3)) ∧ (decode cX7_light 92 = .ok (.iload_n 3, 1)) := by decide +kernel
theorem dX7_light_61 : decode cX7_light 61 = .ok (.iconst 0, 1) := bX7_light_61.1
theorem dX7_light_62 : decode cX7_light 62 = .ok (.iload 4, 2) := bX7_light_61.2.1
theorem dX7_light_64 : decode cX7_light 64 = .ok (.invokevirtual 175, 3) := bX7_light_61.2.2.1
theorem dX7_light_67 : decode cX7_light 67 = .ok (.iload_n 2, 1) := bX7_light_61.2.2.2.1
theorem dX7_light_68 : decode cX7_light 68 = .ok (.if_icmp .ne 31, 3) := bX7_light_61.2.2.2.2.1
theorem dX7_light_71 : decode cX7_light 71 = .ok (.aload_n 0, 1) := bX7_light_61.2.2.2.2.2.1
theorem dX7_light_72 : decode cX7_light 72 = .ok (.getfield 12, 3) := bX7_light_61.2.2.2.2.2.2.1
theorem dX7_light_75 : decode cX7_light 75 = .ok (.iload 4, 2) := bX7_light_61.2.2.2.2.2.2.2.1
theorem dX7_light_77 : decode cX7_light 77 = .ok (.invokevirtual 181, 3) := bX7_light_61.2.2.2.2.2.2.2.2.1
theorem dX7_light_80 : decode cX7_light 80 = .ok (.istore 5, 2) := bX7_light_61.2.2.2.2.2.2.2.2.2.1
theorem dX7_light_82 : decode cX7_light 82 = .ok (.iload_n 3, 1) := bX7_light_61.2.2.2.2.2.2.2.2.2.2.1
theorem dX7_light_83 : decode cX7_light 83 = .ok (.iconst (-1), 1) := bX7_light_61.2.2.2.2.2.2.2.2.2.2.2.1
theorem dX7_light_84 : decode cX7_light 84 = .ok (.if_icmp .ne 8, 3) := bX7_light_61.2.2.2.2.2.2.2.2.2.2.2.2.1
theorem dX7_light_87 : decode cX7_light 87 = .ok (.iload 5, 2) := bX7_light_61.2.2.2.2.2.2.2.2.2.2.2.2.2.1
theorem dX7_light_89 : decode cX7_light 89 = .ok (.goto 9, 3) := bX7_light_61.2.2.2.2.2.2.2.2.2.2.2.2.2.2.1
theorem dX7_light_92 : decode cX7_light 92 = .ok (.iload_n 3, 1) := bX7_light_61.2.2.2.2.2.2.2.2.2.2.2.2.2.2.2
theorem bX7_light_93 : (decode cX7_light 93 = .ok (.iload 5, 2)) ∧ (decode cX7_light 95 = .ok (.invokestatic 184, 3)) ∧ (decode cX7_light 98 = .ok (.istore_n 3, 1)) ∧ (decode cX7_light 99 = .ok (.iinc 4 1, 3)) ∧ (decode cX7_light 102 = .ok (.goto (-59), 3)) ∧ (decode cX7_light 105 = .ok (.iload_n 3, 1)) ∧ (decode cX7_light 106 = .ok (.ireturn, 1)) := by decide +kernel
theorem dX7_light_93 : decode cX7_light 93 = .ok (.iload 5, 2) := bX7_light_93.1
theorem dX7_light_95 : decode cX7_light 95 = .ok (.invokestatic 184, 3) := bX7_light_93.2.1
theorem dX7_light_98 : decode cX7_light 98 = .ok (.istore_n 3, 1) := bX7_light_93.2.2.1
theorem dX7_light_99 : decode cX7_light 99 = .ok (.iinc 4 1, 3) := bX7_light_93.2.2.2.1
theorem dX7_light_102 : decode cX7_light 102 = .ok (.goto (-59), 3) := bX7_light_93.2.2.2.2.1
theorem dX7_light_105 : decode cX7_light 105 = .ok (.iload_n 3, 1) := bX7_light_93.2.2.2.2.2.1
theorem dX7_light_106 : decode cX7_light 106 = .ok (.ireturn, 1) := bX7_light_93.2.2.2.2.2.2
theorem bX7_two_0 : (decode cX7_two 0 = .ok (.aload_n 0, 1)) ∧ (decode cX7_two 1 = .ok (.getfield 12, 3)) ∧ (decode cX7_two 4 = .ok (.iload_n 1, 1)) ∧ (decode cX7_two 5 = .ok (.invokevirtual 102, 3)) ∧ (decode cX7_two 8 = .ok (.ifCond .eq 8, 3)) ∧ (decode cX7_two 11 = .ok (.iload_n 2, 1)) ∧ (decode cX7_two 12 = .ok (.iconst (-1), 1)) ∧ (decode cX7_two 13 = .ok (.if_icmp .ge 11, 3)) ∧ (decode cX7_two 16 = .ok (.aload_n 0, 1)) ∧ (decode cX7_two 17 = .ok (.invokevirtual 63, 3)) ∧ (decode cX7_two 20 = .ok (.pop, 1)) ∧ (decode cX7_two 21 = .ok (.bipush (-10), 2)) ∧ (decode cX7_two 23 = .ok (.ireturn, 1)) ∧ (decode cX7_two 24 = .ok (.iconst 0, 1)) ∧ (decode cX7_two 25 = .ok (.istore_n 3, 1)) ∧ (decode cX7_two 26 = .ok (.iconst 0, 1)) := by decide +kernel
theorem dX7_two_0 : decode cX7_two 0 = .ok (.aload_n 0, 1) := bX7_two_0.1
theorem dX7_two_1 : decode cX7_two 1 = .ok (.getfield 12, 3) := bX7_two_0.2.1
theorem dX7_two_4 : decode cX7_two 4 = .ok (.iload_n 1, 1) := bX7_two_0.2.2.1
theorem dX7_two_5 : decode cX7_two 5 = .ok (.invokevirtual 102, 3) := bX7_two_0.2.2.2.1
theorem dX7_two_8 : decode cX7_two 8 = .ok (.ifCond .eq 8, 3) := bX7_two_0.2.2.2.2.1
theorem dX7_two_11 : decode cX7_two 11 = .ok (.iload_n 2, 1) := bX7_two_0.2.2.2.2.2.1
theorem dX7_two_12 : decode cX7_two 12 = .ok (.iconst (-1), 1) := bX7_two_0.2.2.2.2.2.2.1
theorem dX7_two_13 : decode cX7_two 13 = .ok (.if_icmp .ge 11, 3) := bX7_two_0.2.2.2.2.2.2.2.1
theorem dX7_two_16 : decode cX7_two 16 = .ok (.aload_n 0, 1) := bX7_two_0.2.2.2.2.2.2.2.2.1
theorem dX7_two_17 : decode cX7_two 17 = .ok (.invokevirtual 63, 3) := bX7_two_0.2.2.2.2.2.2.2.2.2.1
theorem dX7_two_20 : decode cX7_two 20 = .ok (.pop, 1) := bX7_two_0.2.2.2.2.2.2.2.2.2.2.1
theorem dX7_two_21 : decode cX7_two 21 = .ok (.bipush (-10), 2) := bX7_two_0.2.2.2.2.2.2.2.2.2.2.2.1
theorem dX7_two_23 : decode cX7_two 23 = .ok (.ireturn, 1) := bX7_two_0.2.2.2.2.2.2.2.2.2.2.2.2.1
theorem dX7_two_24 : decode cX7_two 24 = .ok (.iconst 0, 1) := bX7_two_0.2.2.2.2.2.2.2.2.2.2.2.2.2.1
theorem dX7_two_25 : decode cX7_two 25 = .ok (.istore_n 3, 1) := bX7_two_0.2.2.2.2.2.2.2.2.2.2.2.2.2.2.1
theorem dX7_two_26 : decode cX7_two 26 = .ok (.iconst 0, 1) := bX7_two_0.2.2.2.2.2.2.2.2.2.2.2.2.2.2.2
theorem bX7_two_27 : (decode cX7_two 27 = .ok (.istore 4, 2)) ∧ (decode cX7_two 29 = .ok (.iload 4, 2)) ∧ (decode cX7_two 31 = .ok (.aload_n 0, 1)) ∧ (decode cX7_two 32 = .ok (.getfield 12, 3)) ∧ (decode cX7_two 35 = .ok (.getfield 52, 3)) ∧ (decode cX7_two 38 = .ok (.if_icmp .ge 65, 3)) ∧ (decode cX7_two 41 = .ok (.iload 4, 2)) ∧ (decode cX7_two 43 = .ok (.iconst 1, 1)) ∧ (decode cX7_two 44 = .ok (.iadd, 1)) ∧ (decode cX7_two 45 = .ok (.istore 5, 2)) ∧ (decode cX7_two 47 = .ok (.iload 5, 2)) ∧ (decode cX7_two 49 = .ok (.aload_n 0, 1)) ∧ (decode cX7_two 50 = .ok (.getfield 12, 3)) ∧ (decode cX7_two 53 = .ok (.getfield 52, 3)) ∧ (decode cX7_two 56 = .ok (.if_icmp .ge 41, 3)) ∧ (decode cX7_two 59 = .ok (.aload_n 0, 1)) := by decide +kernel
theorem dX7_two_27 : decode cX7_two 27 = .ok (.istore 4, 2) := bX7_two_27.1
theorem dX7_two_29 : decode cX7_two 29 = .ok (.iload 4, 2) := bX7_two_27.2.1
theorem dX7_two_31 : decode cX7_two 31 = .ok (.aload_n 0, 1) := bX7_two_27.2.2.1
theorem dX7_two_32 : decode cX7_two 32 = .ok (.getfield 12, 3) := bX7_two_27.2.2.2.1
theorem dX7_two_35 : decode cX7_two 35 = .ok (.getfield 52, 3) := bX7_two_27.2.2.2.2.1
theorem dX7_two_38 : decode cX7_two 38 = .ok (.if_icmp .ge 65, 3) := bX7_two_27.2.2.2.2.2.1
theorem dX7_two_41 : decode cX7_two 41 = .ok (.iload 4, 2) := bX7_two_27.2.2.2.2.2.2.1
theorem dX7_two_43 : decode cX7_two 43 = .ok (.iconst 1, 1) := bX7_two_27.2.2.2.2.2.2.2.1
theorem dX7_two_44 : decode cX7_two 44 = .ok (.iadd, 1) := bX7_two_27.2.2.2.2.2.2.2.2.1
theorem dX7_two_45 : decode cX7_two 45 = .ok (.istore 5, 2) := bX7_two_27.2.2.2.2.2.2.2.2.2.1
theorem dX7_two_47 : decode cX7_two 47 = .ok (.iload 5, 2) := bX7_two_27.2.2.2.2.2.2.2.2.2.2.1
theorem dX7_two_49 : decode cX7_two 49 = .ok (.aload_n 0, 1) := bX7_two_27.2.2.2.2.2.2.2.2.2.2.2.1
theorem dX7_two_50 : decode cX7_two 50 = .ok (.getfield 12, 3) := bX7_two_27.2.2.2.2.2.2.2.2.2.2.2.2.1
theorem dX7_two_53 : decode cX7_two 53 = .ok (.getfield 52, 3) := bX7_two_27.2.2.2.2.2.2.2.2.2.2.2.2.2.1
theorem dX7_two_56 : decode cX7_two 56 = .ok (.if_icmp .ge 41, 3) := bX7_two_27.2.2.2.2.2.2.2.2.2.2.2.2.2.2.1
theorem dX7_two_59 : decode cX7_two 59 = .ok (.aload_n 0, 1) := bX7_two_27.2.2.2.2.2.2.2.2.2.2.2.2.2.2.2
theorem bX7_two_60 : (decode cX7_two 60 = .ok (.getfield 12, 3)) ∧ (decode cX7_two 63 = .ok (.iload_n 1, 1)) ∧ (decode cX7_two 64 = .ok (.iload 4, 2)) ∧ (decode cX7_two 66 = .ok (.iload 5, 2)) ∧ (decode cX7_two 68 = .ok (.invokevirtual 189, 3)) ∧ (decode cX7_two 71 = .ok (.ifCond .eq 20, 3)) ∧ (decode cX7_two 74 = .ok (.iload_n 3, 1)) ∧ (decode cX7_two 75 = .ok (.iload_n 2, 1)) ∧ (decode cX7_two 76 = .ok (.if_icmp .ne 12, 3)) ∧ (decode cX7_two 79 = .ok (.bipush 10, 2)) ∧ (decode cX7_two 81 = .ok (.iload 4, 2)) ∧ (decode cX7_two 83 = .ok (.imul, 1)) ∧ (decode cX7_two 84 = .ok (.iload 5, 2)) ∧ (decode cX7_two 86 = .ok (.iadd, 1)) ∧ (decode cX7_two 87 = .ok (.ireturn, 1)) ∧ (decode cX7_two 88 = .ok (.iinc 3 1, 3)) := by decide +kernel
theorem dX7_two_60 : decode cX7_two 60 = .ok (.getfield 12, 3) := bX7_two_60.1
theorem dX7_two_63 : decode cX7_two 63 = .ok (.iload_n 1, 1) := bX7_two_60.2.1
theorem dX7_two_64 : decode cX7_two 64 = .ok (.iload 4, 2) := bX7_two_60.2.2.1
theorem dX7_two_66 : decode cX7_two 66 = .ok (.iload 5, 2) := bX7_two_60.2.2.2.1
theorem dX7_two_68 : decode cX7_two 68 = .ok (.invokevirtual 189, 3) := bX7_two_60.2.2.2.2.1
theorem dX7_two_71 : decode cX7_two 71 = .ok (.ifCond .eq 20, 3) := bX7_two_60.2.2.2.2.2.1
theorem dX7_two_74 : decode cX7_two 74 = .ok (.iload_n 3, 1) := bX7_two_60.2.2.2.2.2.2.1
theorem dX7_two_75 : decode cX7_two 75 = .ok (.iload_n 2, 1) := bX7_two_60.2.2.2.2.2.2.2.1
theorem dX7_two_76 : decode cX7_two 76 = .ok (.if_icmp .ne 12, 3) := bX7_two_60.2.2.2.2.2.2.2.2.1
theorem dX7_two_79 : decode cX7_two 79 = .ok (.bipush 10, 2) := bX7_two_60.2.2.2.2.2.2.2.2.2.1
theorem dX7_two_81 : decode cX7_two 81 = .ok (.iload 4, 2) := bX7_two_60.2.2.2.2.2.2.2.2.2.2.1
theorem dX7_two_83 : decode cX7_two 83 = .ok (.imul, 1) := bX7_two_60.2.2.2.2.2.2.2.2.2.2.2.1
theorem dX7_two_84 : decode cX7_two 84 = .ok (.iload 5, 2) := bX7_two_60.2.2.2.2.2.2.2.2.2.2.2.2.1
theorem dX7_two_86 : decode cX7_two 86 = .ok (.iadd, 1) := bX7_two_60.2.2.2.2.2.2.2.2.2.2.2.2.2.1
theorem dX7_two_87 : decode cX7_two 87 = .ok (.ireturn, 1) := bX7_two_60.2.2.2.2.2.2.2.2.2.2.2.2.2.2.1
theorem dX7_two_88 : decode cX7_two 88 = .ok (.iinc 3 1, 3) := bX7_two_60.2.2.2.2.2.2.2.2.2.2.2.2.2.2.2
theorem bX7_two_91 : (decode cX7_two 91 = .ok (.iinc 5 1, 3)) ∧ (decode cX7_two 94 = .ok (.goto (-47), 3)) ∧ (decode cX7_two 97 = .ok (.iinc 4 1, 3)) ∧ (decode cX7_two 100 = .ok (.goto (-71), 3)) ∧ (decode cX7_two 103 = .ok (.iload_n 2, 1)) ∧ (decode cX7_two 104 = .ok (.iconst (-1), 1)) ∧ (decode cX7_two 105 = .ok (.if_icmp .ne 7, 3)) ∧ (decode cX7_two 108 = .ok (.iload_n 3, 1)) ∧ (decode cX7_two 109 = .ok (.goto 5, 3)) ∧ (decode cX7_two 112 = .ok (.bipush (-5), 2)) ∧ (decode cX7_two 114 = .ok (.ireturn, 1)) := by decide +kernel
theorem dX7_two_91 : decode cX7_two 91 = .ok (.iinc 5 1, 3) := bX7_two_91.1
theorem dX7_two_94 : decode cX7_two 94 = .ok (.goto (-47), 3) := bX7_two_91.2.1
theorem dX7_two_97 : decode cX7_two 97 = .ok (.iinc 4 1, 3) := bX7_two_91.2.2.1
theorem dX7_two_100 : decode cX7_two 100 = .ok (.goto (-71), 3) := bX7_two_91.2.2.2.1
theorem dX7_two_103 : decode cX7_two 103 = .ok (.iload_n 2, 1) := bX7_two_91.2.2.2.2.1
theorem dX7_two_104 : decode cX7_two 104 = .ok (.iconst (-1), 1) := bX7_two_91.2.2.2.2.2.1
theorem dX7_two_105 : decode cX7_two 105 = .ok (.if_icmp .ne 7, 3) := bX7_two_91.2.2.2.2.2.2.1
theorem dX7_two_108 : decode cX7_two 108 = .ok (.iload_n 3, 1) := bX7_two_91.2.2.2.2.2.2.2.1
theorem dX7_two_109 : decode cX7_two 109 = .ok (.goto 5, 3) := bX7_two_91.2.2.2.2.2.2.2.2.1
theorem dX7_two_112 : decode cX7_two 112 = .ok (.bipush (-5), 2) := bX7_two_91.2.2.2.2.2.2.2.2.2.1
theorem dX7_two_114 : decode cX7_two 114 = .ok (.ireturn, 1) := bX7_two_91.2.2.2.2.2.2.2.2.2.2
theorem bX7_seen_0 : (decode cX7_seen 0 = .ok (.aload_n 0, 1)) ∧ (decode cX7_seen 1 = .ok (.getfield 12, 3)) ∧ (decode cX7_seen 4 = .ok (.iload_n 1, 1)) ∧ (decode cX7_seen 5 = .ok (.invokevirtual 98, 3)) ∧ (decode cX7_seen 8 = .ok (.ifCond .eq 33, 3)) ∧ (decode cX7_seen 11 = .ok (.iload_n 2, 1)) ∧ (decode cX7_seen 12 = .ok (.iconst 0, 1)) ∧ (decode cX7_seen 13 = .ok (.bipush 99, 2)) ∧ (decode cX7_seen 15 = .ok (.invokestatic 59, 3)) ∧ (decode cX7_seen 18 = .ok (.ifCond .eq 23, 3)) ∧ (decode cX7_seen 21 = .ok (.iload_n 3, 1)) ∧ (decode cX7_seen 22 = .ok (.iconst 0, 1)) ∧ (decode cX7_seen 23 = .ok (.bipush 60, 2)) ∧ (decode cX7_seen 25 = .ok (.invokestatic 59, 3)) ∧ (decode cX7_seen 28 = .ok (.ifCond .eq 13, 3)) ∧ (decode cX7_seen 31 = .ok (.iload 4, 2)) := by decide +kernel
theorem dX7_seen_0 : decode cX7_seen 0 = .ok (.aload_n 0, 1) := bX7_seen_0.1
theorem dX7_seen_1 : decode cX7_seen 1 = .ok (.getfield 12, 3) := bX7_seen_0.2.1
theorem dX7_seen_4 : decode cX7_seen 4 = .ok (.iload_n 1, 1) := bX7_seen_0.2.2.1
theorem dX7_seen_5 : decode cX7_seen 5 = .ok (.invokevirtual 98, 3) := bX7_seen_0.2.2.2.1
theorem dX7_seen_8 : decode cX7_seen 8 = .ok (.ifCond .eq 33, 3) := bX7_seen_0.2.2.2.2.1
theorem dX7_seen_11 : decode cX7_seen 11 = .ok (.iload_n 2, 1) := bX7_seen_0.2.2.2.2.2.1
theorem dX7_seen_12 : decode cX7_seen 12 = .ok (.iconst 0, 1) := bX7_seen_0.2.2.2.2.2.2.1
theorem dX7_seen_13 : decode cX7_seen 13 = .ok (.bipush 99, 2) := bX7_seen_0.2.2.2.2.2.2.2.1
theorem dX7_seen_15 : decode cX7_seen 15 = .ok (.invokestatic 59, 3) := bX7_seen_0.2.2.2.2.2.2.2.2.1
theorem dX7_seen_18 : decode cX7_seen 18 = .ok (.ifCond .eq 23, 3) := bX7_seen_0.2.2.2.2.2.2.2.2.2.1
theorem dX7_seen_21 : decode cX7_seen 21 = .ok (.iload_n 3, 1) := bX7_seen_0.2.2.2.2.2.2.2.2.2.2.1
theorem dX7_seen_22 : decode cX7_seen 22 = .ok (.iconst 0, 1) := bX7_seen_0.2.2.2.2.2.2.2.2.2.2.2.1
theorem dX7_seen_23 : decode cX7_seen 23 = .ok (.bipush 60, 2) := bX7_seen_0.2.2.2.2.2.2.2.2.2.2.2.2.1
theorem dX7_seen_25 : decode cX7_seen 25 = .ok (.invokestatic 59, 3) := bX7_seen_0.2.2.2.2.2.2.2.2.2.2.2.2.2.1
theorem dX7_seen_28 : decode cX7_seen 28 = .ok (.ifCond .eq 13, 3) := bX7_seen_0.2.2.2.2.2.2.2.2.2.2.2.2.2.2.1
theorem dX7_seen_31 : decode cX7_seen 31 = .ok (.iload 4, 2) := bX7_seen_0.2.2.2.2.2.2.2.2.2.2.2.2.2.2.2
theorem bX7_seen_33 : (decode cX7_seen 33 = .ok (.iconst 0, 1)) ∧ (decode cX7_seen 34 = .ok (.iconst 1, 1)) ∧ (decode cX7_seen 35 = .ok (.invokestatic 59, 3)) ∧ (decode cX7_seen 38 = .ok (.ifCond .ne 8, 3)) ∧ (decode cX7_seen 41 = .ok (.aload_n 0, 1)) ∧ (decode cX7_seen 42 = .ok (.invokevirtual 63, 3)) ∧ (decode cX7_seen 45 = .ok (.ireturn, 1)) ∧ (decode cX7_seen 46 = .ok (.aload_n 0, 1)) ∧ (decode cX7_seen 47 = .ok (.getfield 12, 3)) ∧ (decode cX7_seen 50 = .ok (.getfield 192, 3)) ∧ (decode cX7_seen 53 = .ok (.invokevirtual 196, 3)) ∧ (decode cX7_seen 56 = .ok (.ifCond .eq 8, 3)) ∧ (decode cX7_seen 59 = .ok (.aload_n 0, 1)) ∧ (decode cX7_seen 60 = .ok (.invokevirtual 70, 3)) ∧ (decode cX7_seen 63 = .ok (.ireturn, 1)) ∧ (decode cX7_seen 64 = .ok (.aload_n 0, 1)) := by decide +kernel
theorem dX7_seen_33 : decode cX7_seen 33 = .ok (.iconst 0, 1) := bX7_seen_33.1
theorem dX7_seen_34 : decode cX7_seen 34 = .ok (.iconst 1, 1) := bX7_seen_33.2.1
theorem dX7_seen_35 : decode cX7_seen 35 = .ok (.invokestatic 59, 3) := bX7_seen_33.2.2.1
theorem dX7_seen_38 : decode cX7_seen 38 = .ok (.ifCond .ne 8, 3) := bX7_seen_33.2.2.2.1
theorem dX7_seen_41 : decode cX7_seen 41 = .ok (.aload_n 0, 1) := bX7_seen_33.2.2.2.2.1
theorem dX7_seen_42 : decode cX7_seen 42 = .ok (.invokevirtual 63, 3) := bX7_seen_33.2.2.2.2.2.1
theorem dX7_seen_45 : decode cX7_seen 45 = .ok (.ireturn, 1) := bX7_seen_33.2.2.2.2.2.2.1
theorem dX7_seen_46 : decode cX7_seen 46 = .ok (.aload_n 0, 1) := bX7_seen_33.2.2.2.2.2.2.2.1
theorem dX7_seen_47 : decode cX7_seen 47 = .ok (.getfield 12, 3) := bX7_seen_33.2.2.2.2.2.2.2.2.1
theorem dX7_seen_50 : decode cX7_seen 50 = .ok (.getfield 192, 3) := bX7_seen_33.2.2.2.2.2.2.2.2.2.1
theorem dX7_seen_53 : decode cX7_seen 53 = .ok (.invokevirtual 196, 3) := bX7_seen_33.2.2.2.2.2.2.2.2.2.2.1
theorem dX7_seen_56 : decode cX7_seen 56 = .ok (.ifCond .eq 8, 3) := bX7_seen_33.2.2.2.2.2.2.2.2.2.2.2.1
theorem dX7_seen_59 : decode cX7_seen 59 = .ok (.aload_n 0, 1) := bX7_seen_33.2.2.2.2.2.2.2.2.2.2.2.2.1
theorem dX7_seen_60 : decode cX7_seen 60 = .ok (.invokevirtual 70, 3) := bX7_seen_33.2.2.2.2.2.2.2.2.2.2.2.2.2.1
theorem dX7_seen_63 : decode cX7_seen 63 = .ok (.ireturn, 1) := bX7_seen_33.2.2.2.2.2.2.2.2.2.2.2.2.2.2.1
theorem dX7_seen_64 : decode cX7_seen 64 = .ok (.aload_n 0, 1) := bX7_seen_33.2.2.2.2.2.2.2.2.2.2.2.2.2.2.2
theorem bX7_seen_65 : (decode cX7_seen 65 = .ok (.getfield 12, 3)) ∧ (decode cX7_seen 68 = .ok (.getfield 192, 3)) ∧ (decode cX7_seen 71 = .ok (.iload_n 1, 1)) ∧ (decode cX7_seen 72 = .ok (.iload_n 2, 1)) ∧ (decode cX7_seen 73 = .ok (.iload_n 3, 1)) ∧ (decode cX7_seen 74 = .ok (.iload 4, 2)) ∧ (decode cX7_seen 76 = .ok (.invokevirtual 202, 3)) ∧ (decode cX7_seen 79 = .ok (.ireturn, 1)) := by decide +kernel
theorem dX7_seen_65 : decode cX7_seen 65 = .ok (.getfield 12, 3) := bX7_seen_65.1
theorem dX7_seen_68 : decode cX7_seen 68 = .ok (.getfield 192, 3) := bX7_seen_65.2.1
theorem dX7_seen_71 : decode cX7_seen 71 = .ok (.iload_n 1, 1) := bX7_seen_65.2.2.1
theorem dX7_seen_72 : decode cX7_seen 72 = .ok (.iload_n 2, 1) := bX7_seen_65.2.2.2.1
theorem dX7_seen_73 : decode cX7_seen 73 = .ok (.iload_n 3, 1) := bX7_seen_65.2.2.2.2.1
theorem dX7_seen_74 : decode cX7_seen 74 = .ok (.iload 4, 2) := bX7_seen_65.2.2.2.2.2.1
theorem dX7_seen_76 : decode cX7_seen 76 = .ok (.invokevirtual 202, 3) := bX7_seen_65.2.2.2.2.2.2.1
theorem dX7_seen_79 : decode cX7_seen 79 = .ok (.ireturn, 1) := bX7_seen_65.2.2.2.2.2.2.2
theorem bX7_strong_0 : (decode cX7_strong 0 = .ok (.aload_n 0, 1)) ∧ (decode cX7_strong 1 = .ok (.getfield 12, 3)) ∧ (decode cX7_strong 4 = .ok (.iload_n 1, 1)) ∧ (decode cX7_strong 5 = .ok (.invokevirtual 98, 3)) ∧ (decode cX7_strong 8 = .ok (.ifCond .eq 12, 3)) ∧ (decode cX7_strong 11 = .ok (.iload_n 2, 1)) ∧ (decode cX7_strong 12 = .ok (.iconst 0, 1)) ∧ (decode cX7_strong 13 = .ok (.iconst 2, 1)) ∧ (decode cX7_strong 14 = .ok (.invokestatic 59, 3)) ∧ (decode cX7_strong 17 = .ok (.ifCond .ne 8, 3)) ∧ (decode cX7_strong 20 = .ok (.aload_n 0, 1)) ∧ (decode cX7_strong 21 = .ok (.invokevirtual 63, 3)) ∧ (decode cX7_strong 24 = .ok (.ireturn, 1)) ∧ (decode cX7_strong 25 = .ok (.aload_n 0, 1)) ∧ (decode cX7_strong 26 = .ok (.getfield 12, 3)) ∧ (decode cX7_strong 29 = .ok (.iload_n 1, 1)) := by decide +kernel
theorem dX7_strong_0 : decode cX7_strong 0 = .ok (.aload_n 0, 1) := bX7_strong_0.1
theorem dX7_strong_1 : decode cX7_strong 1 = .ok (.getfield 12, 3) := bX7_strong_0.2.1
theorem dX7_strong_4 : decode cX7_strong 4 = .ok (.iload_n 1, 1) := bX7_strong_0.2.2.1
theorem dX7_strong_5 : decode cX7_strong 5 = .ok (.invokevirtual 98, 3) := bX7_strong_0.2.2.2.1
theorem dX7_strong_8 : decode cX7_strong 8 = .ok (.ifCond .eq 12, 3) := bX7_strong_0.2.2.2.2.1
theorem dX7_strong_11 : decode cX7_strong 11 = .ok (.iload_n 2, 1) := bX7_strong_0.2.2.2.2.2.1
theorem dX7_strong_12 : decode cX7_strong 12 = .ok (.iconst 0, 1) := bX7_strong_0.2.2.2.2.2.2.1
theorem dX7_strong_13 : decode cX7_strong 13 = .ok (.iconst 2, 1) := bX7_strong_0.2.2.2.2.2.2.2.1
theorem dX7_strong_14 : decode cX7_strong 14 = .ok (.invokestatic 59, 3) := bX7_strong_0.2.2.2.2.2.2.2.2.1
theorem dX7_strong_17 : decode cX7_strong 17 = .ok (.ifCond .ne 8, 3) := bX7_strong_0.2.2.2.2.2.2.2.2.2.1
theorem dX7_strong_20 : decode cX7_strong 20 = .ok (.aload_n 0, 1) := bX7_strong_0.2.2.2.2.2.2.2.2.2.2.1
theorem dX7_strong_21 : decode cX7_strong 21 = .ok (.invokevirtual 63, 3) := bX7_strong_0.2.2.2.2.2.2.2.2.2.2.2.1
theorem dX7_strong_24 : decode cX7_strong 24 = .ok (.ireturn, 1) := bX7_strong_0.2.2.2.2.2.2.2.2.2.2.2.2.1
theorem dX7_strong_25 : decode cX7_strong 25 = .ok (.aload_n 0, 1) := bX7_strong_0.2.2.2.2.2.2.2.2.2.2.2.2.2.1
theorem dX7_strong_26 : decode cX7_strong 26 = .ok (.getfield 12, 3) := bX7_strong_0.2.2.2.2.2.2.2.2.2.2.2.2.2.2.1
theorem dX7_strong_29 : decode cX7_strong 29 = .ok (.iload_n 1, 1) := bX7_strong_0.2.2.2.2.2.2.2.2.2.2.2.2.2.2.2
theorem bX7_strong_30 : (decode cX7_strong 30 = .ok (.invokevirtual 206, 3)) ∧ (decode cX7_strong 33 = .ok (.istore_n 3, 1)) ∧ (decode cX7_strong 34 = .ok (.iload_n 2, 1)) ∧ (decode cX7_strong 35 = .ok (.ifCond .ne 8, 3)) ∧ (decode cX7_strong 38 = .ok (.iload_n 3, 1)) ∧ (decode cX7_strong 39 = .ok (.invokestatic 209, 3)) ∧ (decode cX7_strong 42 = .ok (.ireturn, 1)) ∧ (decode cX7_strong 43 = .ok (.iload_n 2, 1)) ∧ (decode cX7_strong 44 = .ok (.iconst 1, 1)) ∧ (decode cX7_strong 45 = .ok (.if_icmp .ne 10, 3)) ∧ (decode cX7_strong 48 = .ok (.iload_n 3, 1)) ∧ (decode cX7_strong 49 = .ok (.invokestatic 214, 3)) ∧ (decode cX7_strong 52 = .ok (.goto 7, 3)) ∧ (decode cX7_strong 55 = .ok (.iload_n 3, 1)) ∧ (decode cX7_strong 56 = .ok (.invokestatic 217, 3)) ∧ (decode cX7_strong 59 = .ok (.ireturn, 1)) := by decide +kernel
theorem dX7_strong_30 : decode cX7_strong 30 = .ok (.invokevirtual 206, 3) := bX7_strong_30.1
theorem dX7_strong_33 : decode cX7_strong 33 = .ok (.istore_n 3, 1) := bX7_strong_30.2.1
theorem dX7_strong_34 : decode cX7_strong 34 = .ok (.iload_n 2, 1) := bX7_strong_30.2.2.1
theorem dX7_strong_35 : decode cX7_strong 35 = .ok (.ifCond .ne 8, 3) := bX7_strong_30.2.2.2.1
theorem dX7_strong_38 : decode cX7_strong 38 = .ok (.iload_n 3, 1) := bX7_strong_30.2.2.2.2.1
theorem dX7_strong_39 : decode cX7_strong 39 = .ok (.invokestatic 209, 3) := bX7_strong_30.2.2.2.2.2.1
theorem dX7_strong_42 : decode cX7_strong 42 = .ok (.ireturn, 1) := bX7_strong_30.2.2.2.2.2.2.1
theorem dX7_strong_43 : decode cX7_strong 43 = .ok (.iload_n 2, 1) := bX7_strong_30.2.2.2.2.2.2.2.1
theorem dX7_strong_44 : decode cX7_strong 44 = .ok (.iconst 1, 1) := bX7_strong_30.2.2.2.2.2.2.2.2.1
theorem dX7_strong_45 : decode cX7_strong 45 = .ok (.if_icmp .ne 10, 3) := bX7_strong_30.2.2.2.2.2.2.2.2.2.1
theorem dX7_strong_48 : decode cX7_strong 48 = .ok (.iload_n 3, 1) := bX7_strong_30.2.2.2.2.2.2.2.2.2.2.1
theorem dX7_strong_49 : decode cX7_strong 49 = .ok (.invokestatic 214, 3) := bX7_strong_30.2.2.2.2.2.2.2.2.2.2.2.1
theorem dX7_strong_52 : decode cX7_strong 52 = .ok (.goto 7, 3) := bX7_strong_30.2.2.2.2.2.2.2.2.2.2.2.2.1
theorem dX7_strong_55 : decode cX7_strong 55 = .ok (.iload_n 3, 1) := bX7_strong_30.2.2.2.2.2.2.2.2.2.2.2.2.2.1
theorem dX7_strong_56 : decode cX7_strong 56 = .ok (.invokestatic 217, 3) := bX7_strong_30.2.2.2.2.2.2.2.2.2.2.2.2.2.2.1
theorem dX7_strong_59 : decode cX7_strong 59 = .ok (.ireturn, 1) := bX7_strong_30.2.2.2.2.2.2.2.2.2.2.2.2.2.2.2
theorem bX7_tell_0 : (decode cX7_tell 0 = .ok (.aload_n 0, 1)) ∧ (decode cX7_tell 1 = .ok (.getfield 12, 3)) ∧ (decode cX7_tell 4 = .ok (.iload_n 1, 1)) ∧ (decode cX7_tell 5 = .ok (.invokevirtual 98, 3)) ∧ (decode cX7_tell 8 = .ok (.ifCond .ne 8, 3)) ∧ (decode cX7_tell 11 = .ok (.aload_n 0, 1)) ∧ (decode cX7_tell 12 = .ok (.invokevirtual 63, 3)) ∧ (decode cX7_tell 15 = .ok (.ireturn, 1)) ∧ (decode cX7_tell 16 = .ok (.aload_n 0, 1)) ∧ (decode cX7_tell 17 = .ok (.getfield 12, 3)) ∧ (decode cX7_tell 20 = .ok (.iload_n 1, 1)) ∧ (decode cX7_tell 21 = .ok (.invokevirtual 206, 3)) ∧ (decode cX7_tell 24 = .ok (.istore_n 2, 1)) ∧ (decode cX7_tell 25 = .ok (.iload_n 2, 1)) ∧ (decode cX7_tell 26 = .ok (.ifCond .ne 5, 3)) ∧ (decode cX7_tell 29 = .ok (.iconst (-1), 1)) := by decide +kernel
theorem dX7_tell_0 : decode cX7_tell 0 = .ok (.aload_n 0, 1) := bX7_tell_0.1
theorem dX7_tell_1 : decode cX7_tell 1 = .ok (.getfield 12, 3) := bX7_tell_0.2.1
theorem dX7_tell_4 : decode cX7_tell 4 = .ok (.iload_n 1, 1) := bX7_tell_0.2.2.1
theorem dX7_tell_5 : decode cX7_tell 5 = .ok (.invokevirtual 98, 3) := bX7_tell_0.2.2.2.1
theorem dX7_tell_8 : decode cX7_tell 8 = .ok (.ifCond .ne 8, 3) := bX7_tell_0.2.2.2.2.1
theorem dX7_tell_11 : decode cX7_tell 11 = .ok (.aload_n 0, 1) := bX7_tell_0.2.2.2.2.2.1
theorem dX7_tell_12 : decode cX7_tell 12 = .ok (.invokevirtual 63, 3) := bX7_tell_0.2.2.2.2.2.2.1
theorem dX7_tell_15 : decode cX7_tell 15 = .ok (.ireturn, 1) := bX7_tell_0.2.2.2.2.2.2.2.1
theorem dX7_tell_16 : decode cX7_tell 16 = .ok (.aload_n 0, 1) := bX7_tell_0.2.2.2.2.2.2.2.2.1
theorem dX7_tell_17 : decode cX7_tell 17 = .ok (.getfield 12, 3) := bX7_tell_0.2.2.2.2.2.2.2.2.2.1
theorem dX7_tell_20 : decode cX7_tell 20 = .ok (.iload_n 1, 1) := bX7_tell_0.2.2.2.2.2.2.2.2.2.2.1
theorem dX7_tell_21 : decode cX7_tell 21 = .ok (.invokevirtual 206, 3) := bX7_tell_0.2.2.2.2.2.2.2.2.2.2.2.1
theorem dX7_tell_24 : decode cX7_tell 24 = .ok (.istore_n 2, 1) := bX7_tell_0.2.2.2.2.2.2.2.2.2.2.2.2.1
theorem dX7_tell_25 : decode cX7_tell 25 = .ok (.iload_n 2, 1) := bX7_tell_0.2.2.2.2.2.2.2.2.2.2.2.2.2.1
theorem dX7_tell_26 : decode cX7_tell 26 = .ok (.ifCond .ne 5, 3) := bX7_tell_0.2.2.2.2.2.2.2.2.2.2.2.2.2.2.1
theorem dX7_tell_29 : decode cX7_tell 29 = .ok (.iconst (-1), 1) := bX7_tell_0.2.2.2.2.2.2.2.2.2.2.2.2.2.2.2
theorem bX7_tell_30 : (decode cX7_tell 30 = .ok (.ireturn, 1)) ∧ (decode cX7_tell 31 = .ok (.iconst (-1), 1)) ∧ (decode cX7_tell 32 = .ok (.istore_n 3, 1)) ∧ (decode cX7_tell 33 = .ok (.bipush 10, 2)) ∧ (decode cX7_tell 35 = .ok (.istore 4, 2)) ∧ (decode cX7_tell 37 = .ok (.iconst 0, 1)) ∧ (decode cX7_tell 38 = .ok (.istore 5, 2)) ∧ (decode cX7_tell 40 = .ok (.iload 5, 2)) ∧ (decode cX7_tell 42 = .ok (.bipush 9, 2)) ∧ (decode cX7_tell 44 = .ok (.if_icmp .gt 78, 3)) ∧ (decode cX7_tell 47 = .ok (.aload_n 0, 1)) ∧ (decode cX7_tell 48 = .ok (.getfield 37, 3)) ∧ (decode cX7_tell 51 = .ok (.aload_n 0, 1)) ∧ (decode cX7_tell 52 = .ok (.getfield 12, 3)) ∧ (decode cX7_tell 55 = .ok (.getfield 220, 3)) ∧ (decode cX7_tell 58 = .ok (.iload_n 1, 1)) := by decide +kernel
theorem dX7_tell_30 : decode cX7_tell 30 = .ok (.ireturn, 1) := bX7_tell_30.1
theorem dX7_tell_31 : decode cX7_tell 31 = .ok (.iconst (-1), 1) := bX7_tell_30.2.1
theorem dX7_tell_32 : decode cX7_tell 32 = .ok (.istore_n 3, 1) := bX7_tell_30.2.2.1
theorem dX7_tell_33 : decode cX7_tell 33 = .ok (.bipush 10, 2) := bX7_tell_30.2.2.2.1
theorem dX7_tell_35 : decode cX7_tell 35 = .ok (.istore 4, 2) := bX7_tell_30.2.2.2.2.1
theorem dX7_tell_37 : decode cX7_tell 37 = .ok (.iconst 0, 1) := bX7_tell_30.2.2.2.2.2.1
theorem dX7_tell_38 : decode cX7_tell 38 = .ok (.istore 5, 2) := bX7_tell_30.2.2.2.2.2.2.1
theorem dX7_tell_40 : decode cX7_tell 40 = .ok (.iload 5, 2) := bX7_tell_30.2.2.2.2.2.2.2.1
theorem dX7_tell_42 : decode cX7_tell 42 = .ok (.bipush 9, 2) := bX7_tell_30.2.2.2.2.2.2.2.2.1
theorem dX7_tell_44 : decode cX7_tell 44 = .ok (.if_icmp .gt 78, 3) := bX7_tell_30.2.2.2.2.2.2.2.2.2.1
theorem dX7_tell_47 : decode cX7_tell 47 = .ok (.aload_n 0, 1) := bX7_tell_30.2.2.2.2.2.2.2.2.2.2.1
theorem dX7_tell_48 : decode cX7_tell 48 = .ok (.getfield 37, 3) := bX7_tell_30.2.2.2.2.2.2.2.2.2.2.2.1
theorem dX7_tell_51 : decode cX7_tell 51 = .ok (.aload_n 0, 1) := bX7_tell_30.2.2.2.2.2.2.2.2.2.2.2.2.1
theorem dX7_tell_52 : decode cX7_tell 52 = .ok (.getfield 12, 3) := bX7_tell_30.2.2.2.2.2.2.2.2.2.2.2.2.2.1
theorem dX7_tell_55 : decode cX7_tell 55 = .ok (.getfield 220, 3) := bX7_tell_30.2.2.2.2.2.2.2.2.2.2.2.2.2.2.1
theorem dX7_tell_58 : decode cX7_tell 58 = .ok (.iload_n 1, 1) := bX7_tell_30.2.2.2.2.2.2.2.2.2.2.2.2.2.2.2
theorem bX7_tell_59 : (decode cX7_tell 59 = .ok (.iaload, 1)) ∧ (decode cX7_tell 60 = .ok (.iload_n 2, 1)) ∧ (decode cX7_tell 61 = .ok (.bipush 10, 2)) ∧ (decode cX7_tell 63 = .ok (.iload 5, 2)) ∧ (decode cX7_tell 65 = .ok (.imul, 1)) ∧ (decode cX7_tell 66 = .ok (.invokevirtual 223, 3)) ∧ (decode cX7_tell 69 = .ok (.iconst 0, 1)) ∧ (decode cX7_tell 70 = .ok (.istore 6, 2)) ∧ (decode cX7_tell 72 = .ok (.iload 6, 2)) ∧ (decode cX7_tell 74 = .ok (.bipush 60, 2)) ∧ (decode cX7_tell 76 = .ok (.if_icmp .gt 40, 3)) ∧ (decode cX7_tell 79 = .ok (.aload_n 0, 1)) ∧ (decode cX7_tell 80 = .ok (.getfield 37, 3)) ∧ (decode cX7_tell 83 = .ok (.iload 6, 2)) ∧ (decode cX7_tell 85 = .ok (.invokevirtual 227, 3)) ∧ (decode cX7_tell 88 = .ok (.istore 7, 2)) := by decide +kernel
theorem dX7_tell_59 : decode cX7_tell 59 = .ok (.iaload, 1) := bX7_tell_59.1
theorem dX7_tell_60 : decode cX7_tell 60 = .ok (.iload_n 2, 1) := bX7_tell_59.2.1
theorem dX7_tell_61 : decode cX7_tell 61 = .ok (.bipush 10, 2) := bX7_tell_59.2.2.1
theorem dX7_tell_63 : decode cX7_tell 63 = .ok (.iload 5, 2) := bX7_tell_59.2.2.2.1
theorem dX7_tell_65 : decode cX7_tell 65 = .ok (.imul, 1) := bX7_tell_59.2.2.2.2.1
theorem dX7_tell_66 : decode cX7_tell 66 = .ok (.invokevirtual 223, 3) := bX7_tell_59.2.2.2.2.2.1
theorem dX7_tell_69 : decode cX7_tell 69 = .ok (.iconst 0, 1) := bX7_tell_59.2.2.2.2.2.2.1
theorem dX7_tell_70 : decode cX7_tell 70 = .ok (.istore 6, 2) := bX7_tell_59.2.2.2.2.2.2.2.1
theorem dX7_tell_72 : decode cX7_tell 72 = .ok (.iload 6, 2) := bX7_tell_59.2.2.2.2.2.2.2.2.1
theorem dX7_tell_74 : decode cX7_tell 74 = .ok (.bipush 60, 2) := bX7_tell_59.2.2.2.2.2.2.2.2.2.1
theorem dX7_tell_76 : decode cX7_tell 76 = .ok (.if_icmp .gt 40, 3) := bX7_tell_59.2.2.2.2.2.2.2.2.2.2.1
theorem dX7_tell_79 : decode cX7_tell 79 = .ok (.aload_n 0, 1) := bX7_tell_59.2.2.2.2.2.2.2.2.2.2.2.1
theorem dX7_tell_80 : decode cX7_tell 80 = .ok (.getfield 37, 3) := bX7_tell_59.2.2.2.2.2.2.2.2.2.2.2.2.1
theorem dX7_tell_83 : decode cX7_tell 83 = .ok (.iload 6, 2) := bX7_tell_59.2.2.2.2.2.2.2.2.2.2.2.2.2.1
theorem dX7_tell_85 : decode cX7_tell 85 = .ok (.invokevirtual 227, 3) := bX7_tell_59.2.2.2.2.2.2.2.2.2.2.2.2.2.2.1
theorem dX7_tell_88 : decode cX7_tell 88 = .ok (.istore 7, 2) := bX7_tell_59.2.2.2.2.2.2.2.2.2.2.2.2.2.2.2
theorem bX7_tell_90 : (decode cX7_tell 90 = .ok (.iload 7, 2)) ∧ (decode cX7_tell 92 = .ok (.iload 4, 2)) ∧ (decode cX7_tell 94 = .ok (.if_icmp .ge 16, 3)) ∧ (decode cX7_tell 97 = .ok (.iload 7, 2)) ∧ (decode cX7_tell 99 = .ok (.istore 4, 2)) ∧ (decode cX7_tell 101 = .ok (.bipush 100, 2)) ∧ (decode cX7_tell 103 = .ok (.iload 5, 2)) ∧ (decode cX7_tell 105 = .ok (.imul, 1)) ∧ (decode cX7_tell 106 = .ok (.iload 6, 2)) ∧ (decode cX7_tell 108 = .ok (.iadd, 1)) ∧ (decode cX7_tell 109 = .ok (.istore_n 3, 1)) ∧ (decode cX7_tell 110 = .ok (.iinc 6 1, 3)) ∧ (decode cX7_tell 113 = .ok (.goto (-41), 3)) ∧ (decode cX7_tell 116 = .ok (.iinc 5 1, 3)) ∧ (decode cX7_tell 119 = .ok (.goto (-79), 3)) ∧ (decode cX7_tell 122 = .ok (.iload_n 3, 1)) := by decide +kernel
theorem dX7_tell_90 : decode cX7_tell 90 = .ok (.iload 7, 2) := bX7_tell_90.1
theorem dX7_tell_92 : decode cX7_tell 92 = .ok (.iload 4, 2) := bX7_tell_90.2.1
theorem dX7_tell_94 : decode cX7_tell 94 = .ok (.if_icmp .ge 16, 3) := bX7_tell_90.2.2.1
theorem dX7_tell_97 : decode cX7_tell 97 = .ok (.iload 7, 2) := bX7_tell_90.2.2.2.1
theorem dX7_tell_99 : decode cX7_tell 99 = .ok (.istore 4, 2) := bX7_tell_90.2.2.2.2.1
theorem dX7_tell_101 : decode cX7_tell 101 = .ok (.bipush 100, 2) := bX7_tell_90.2.2.2.2.2.1
theorem dX7_tell_103 : decode cX7_tell 103 = .ok (.iload 5, 2) := bX7_tell_90.2.2.2.2.2.2.1
theorem dX7_tell_105 : decode cX7_tell 105 = .ok (.imul, 1) := bX7_tell_90.2.2.2.2.2.2.2.1
theorem dX7_tell_106 : decode cX7_tell 106 = .ok (.iload 6, 2) := bX7_tell_90.2.2.2.2.2.2.2.2.1
theorem dX7_tell_108 : decode cX7_tell 108 = .ok (.iadd, 1) := bX7_tell_90.2.2.2.2.2.2.2.2.2.1
theorem dX7_tell_109 : decode cX7_tell 109 = .ok (.istore_n 3, 1) := bX7_tell_90.2.2.2.2.2.2.2.2.2.2.1
theorem dX7_tell_110 : decode cX7_tell 110 = .ok (.iinc 6 1, 3) := bX7_tell_90.2.2.2.2.2.2.2.2.2.2.2.1
theorem dX7_tell_113 : decode cX7_tell 113 = .ok (.goto (-41), 3) := bX7_tell_90.2.2.2.2.2.2.2.2.2.2.2.2.1
theorem dX7_tell_116 : decode cX7_tell 116 = .ok (.iinc 5 1, 3) := bX7_tell_90.2.2.2.2.2.2.2.2.2.2.2.2.2.1
theorem dX7_tell_119 : decode cX7_tell 119 = .ok (.goto (-79), 3) := bX7_tell_90.2.2.2.2.2.2.2.2.2.2.2.2.2.2.1
theorem dX7_tell_122 : decode cX7_tell 122 = .ok (.iload_n 3, 1) := bX7_tell_90.2.2.2.2.2.2.2.2.2.2.2.2.2.2.2
theorem dX7_tell_123 : decode cX7_tell 123 = .ok (.ireturn, 1) := by decide +kernel
theorem bX7_note_0 : (decode cX7_note 0 = .ok (.aload_n 0, 1)) ∧ (decode cX7_note 1 = .ok (.getfield 12, 3)) ∧ (decode cX7_note 4 = .ok (.iload_n 1, 1)) ∧ (decode cX7_note 5 = .ok (.invokevirtual 102, 3)) ∧ (decode cX7_note 8 = .ok (.ifCond .eq 34, 3)) ∧ (decode cX7_note 11 = .ok (.iload_n 2, 1)) ∧ (decode cX7_note 12 = .ok (.iconst 1, 1)) ∧ (decode cX7_note 13 = .ok (.bipush 30, 2)) ∧ (decode cX7_note 15 = .ok (.invokestatic 59, 3)) ∧ (decode cX7_note 18 = .ok (.ifCond .eq 24, 3)) ∧ (decode cX7_note 21 = .ok (.iload_n 3, 1)) ∧ (decode cX7_note 22 = .ok (.iconst 0, 1)) ∧ (decode cX7_note 23 = .ok (.bipush 99, 2)) ∧ (decode cX7_note 25 = .ok (.invokestatic 59, 3)) ∧ (decode cX7_note 28 = .ok (.ifCond .eq 14, 3)) ∧ (decode cX7_note 31 = .ok (.iload 4, 2)) := by decide +kernel
theorem dX7_note_0 : decode cX7_note 0 = .ok (.aload_n 0, 1) := bX7_note_0.1
theorem dX7_note_1 : decode cX7_note 1 = .ok (.getfield 12, 3) := bX7_note_0.2.1
theorem dX7_note_4 : decode cX7_note 4 = .ok (.iload_n 1, 1) := bX7_note_0.2.2.1
theorem dX7_note_5 : decode cX7_note 5 = .ok (.invokevirtual 102, 3) := bX7_note_0.2.2.2.1
theorem dX7_note_8 : decode cX7_note 8 = .ok (.ifCond .eq 34, 3) := bX7_note_0.2.2.2.2.1
theorem dX7_note_11 : decode cX7_note 11 = .ok (.iload_n 2, 1) := bX7_note_0.2.2.2.2.2.1
theorem dX7_note_12 : decode cX7_note 12 = .ok (.iconst 1, 1) := bX7_note_0.2.2.2.2.2.2.1
theorem dX7_note_13 : decode cX7_note 13 = .ok (.bipush 30, 2) := bX7_note_0.2.2.2.2.2.2.2.1
theorem dX7_note_15 : decode cX7_note 15 = .ok (.invokestatic 59, 3) := bX7_note_0.2.2.2.2.2.2.2.2.1
theorem dX7_note_18 : decode cX7_note 18 = .ok (.ifCond .eq 24, 3) := bX7_note_0.2.2.2.2.2.2.2.2.2.1
theorem dX7_note_21 : decode cX7_note 21 = .ok (.iload_n 3, 1) := bX7_note_0.2.2.2.2.2.2.2.2.2.2.1
theorem dX7_note_22 : decode cX7_note 22 = .ok (.iconst 0, 1) := bX7_note_0.2.2.2.2.2.2.2.2.2.2.2.1
theorem dX7_note_23 : decode cX7_note 23 = .ok (.bipush 99, 2) := bX7_note_0.2.2.2.2.2.2.2.2.2.2.2.2.1
theorem dX7_note_25 : decode cX7_note 25 = .ok (.invokestatic 59, 3) := bX7_note_0.2.2.2.2.2.2.2.2.2.2.2.2.2.1
theorem dX7_note_28 : decode cX7_note 28 = .ok (.ifCond .eq 14, 3) := bX7_note_0.2.2.2.2.2.2.2.2.2.2.2.2.2.2.1
theorem dX7_note_31 : decode cX7_note 31 = .ok (.iload 4, 2) := bX7_note_0.2.2.2.2.2.2.2.2.2.2.2.2.2.2.2
theorem bX7_note_33 : (decode cX7_note 33 = .ok (.iconst 0, 1)) ∧ (decode cX7_note 34 = .ok (.bipush 99, 2)) ∧ (decode cX7_note 36 = .ok (.invokestatic 59, 3)) ∧ (decode cX7_note 39 = .ok (.ifCond .ne 8, 3)) ∧ (decode cX7_note 42 = .ok (.aload_n 0, 1)) ∧ (decode cX7_note 43 = .ok (.invokevirtual 63, 3)) ∧ (decode cX7_note 46 = .ok (.ireturn, 1)) ∧ (decode cX7_note 47 = .ok (.aload_n 0, 1)) ∧ (decode cX7_note 48 = .ok (.getfield 12, 3)) ∧ (decode cX7_note 51 = .ok (.getfield 230, 3)) ∧ (decode cX7_note 54 = .ok (.invokevirtual 196, 3)) ∧ (decode cX7_note 57 = .ok (.ifCond .eq 8, 3)) ∧ (decode cX7_note 60 = .ok (.aload_n 0, 1)) ∧ (decode cX7_note 61 = .ok (.invokevirtual 70, 3)) ∧ (decode cX7_note 64 = .ok (.ireturn, 1)) ∧ (decode cX7_note 65 = .ok (.aload_n 0, 1)) := by decide +kernel
theorem dX7_note_33 : decode cX7_note 33 = .ok (.iconst 0, 1) := bX7_note_33.1
theorem dX7_note_34 : decode cX7_note 34 = .ok (.bipush 99, 2) := bX7_note_33.2.1
theorem dX7_note_36 : decode cX7_note 36 = .ok (.invokestatic 59, 3) := bX7_note_33.2.2.1
theorem dX7_note_39 : decode cX7_note 39 = .ok (.ifCond .ne 8, 3) := bX7_note_33.2.2.2.1
theorem dX7_note_42 : decode cX7_note 42 = .ok (.aload_n 0, 1) := bX7_note_33.2.2.2.2.1
theorem dX7_note_43 : decode cX7_note 43 = .ok (.invokevirtual 63, 3) := bX7_note_33.2.2.2.2.2.1
theorem dX7_note_46 : decode cX7_note 46 = .ok (.ireturn, 1) := bX7_note_33.2.2.2.2.2.2.1
theorem dX7_note_47 : decode cX7_note 47 = .ok (.aload_n 0, 1) := bX7_note_33.2.2.2.2.2.2.2.1
theorem dX7_note_48 : decode cX7_note 48 = .ok (.getfield 12, 3) := bX7_note_33.2.2.2.2.2.2.2.2.1
theorem dX7_note_51 : decode cX7_note 51 = .ok (.getfield 230, 3) := bX7_note_33.2.2.2.2.2.2.2.2.2.1
theorem dX7_note_54 : decode cX7_note 54 = .ok (.invokevirtual 196, 3) := bX7_note_33.2.2.2.2.2.2.2.2.2.2.1
theorem dX7_note_57 : decode cX7_note 57 = .ok (.ifCond .eq 8, 3) := bX7_note_33.2.2.2.2.2.2.2.2.2.2.2.1
theorem dX7_note_60 : decode cX7_note 60 = .ok (.aload_n 0, 1) := bX7_note_33.2.2.2.2.2.2.2.2.2.2.2.2.1
theorem dX7_note_61 : decode cX7_note 61 = .ok (.invokevirtual 70, 3) := bX7_note_33.2.2.2.2.2.2.2.2.2.2.2.2.2.1
theorem dX7_note_64 : decode cX7_note 64 = .ok (.ireturn, 1) := bX7_note_33.2.2.2.2.2.2.2.2.2.2.2.2.2.2.1
theorem dX7_note_65 : decode cX7_note 65 = .ok (.aload_n 0, 1) := bX7_note_33.2.2.2.2.2.2.2.2.2.2.2.2.2.2.2
theorem bX7_note_66 : (decode cX7_note 66 = .ok (.getfield 12, 3)) ∧ (decode cX7_note 69 = .ok (.getfield 230, 3)) ∧ (decode cX7_note 72 = .ok (.iload_n 1, 1)) ∧ (decode cX7_note 73 = .ok (.iload_n 2, 1)) ∧ (decode cX7_note 74 = .ok (.iload_n 3, 1)) ∧ (decode cX7_note 75 = .ok (.iload 4, 2)) ∧ (decode cX7_note 77 = .ok (.invokevirtual 202, 3)) ∧ (decode cX7_note 80 = .ok (.ireturn, 1)) := by decide +kernel
theorem dX7_note_66 : decode cX7_note 66 = .ok (.getfield 12, 3) := bX7_note_66.1
theorem dX7_note_69 : decode cX7_note 69 = .ok (.getfield 230, 3) := bX7_note_66.2.1
theorem dX7_note_72 : decode cX7_note 72 = .ok (.iload_n 1, 1) := bX7_note_66.2.2.1
theorem dX7_note_73 : decode cX7_note 73 = .ok (.iload_n 2, 1) := bX7_note_66.2.2.2.1
theorem dX7_note_74 : decode cX7_note 74 = .ok (.iload_n 3, 1) := bX7_note_66.2.2.2.2.1
theorem dX7_note_75 : decode cX7_note 75 = .ok (.iload 4, 2) := bX7_note_66.2.2.2.2.2.1
theorem dX7_note_77 : decode cX7_note 77 = .ok (.invokevirtual 202, 3) := bX7_note_66.2.2.2.2.2.2.1
theorem dX7_note_80 : decode cX7_note 80 = .ok (.ireturn, 1) := bX7_note_66.2.2.2.2.2.2.2
theorem bX7_mark_0 : (decode cX7_mark 0 = .ok (.aload_n 0, 1)) ∧ (decode cX7_mark 1 = .ok (.getfield 12, 3)) ∧ (decode cX7_mark 4 = .ok (.iload_n 1, 1)) ∧ (decode cX7_mark 5 = .ok (.invokevirtual 98, 3)) ∧ (decode cX7_mark 8 = .ok (.ifCond .eq 34, 3)) ∧ (decode cX7_mark 11 = .ok (.iload_n 2, 1)) ∧ (decode cX7_mark 12 = .ok (.iconst 1, 1)) ∧ (decode cX7_mark 13 = .ok (.bipush 9, 2)) ∧ (decode cX7_mark 15 = .ok (.invokestatic 59, 3)) ∧ (decode cX7_mark 18 = .ok (.ifCond .eq 24, 3)) ∧ (decode cX7_mark 21 = .ok (.iload_n 3, 1)) ∧ (decode cX7_mark 22 = .ok (.iconst 0, 1)) ∧ (decode cX7_mark 23 = .ok (.bipush 99, 2)) ∧ (decode cX7_mark 25 = .ok (.invokestatic 59, 3)) ∧ (decode cX7_mark 28 = .ok (.ifCond .eq 14, 3)) ∧ (decode cX7_mark 31 = .ok (.iload 4, 2)) := by decide +kernel
theorem dX7_mark_0 : decode cX7_mark 0 = .ok (.aload_n 0, 1) := bX7_mark_0.1
theorem dX7_mark_1 : decode cX7_mark 1 = .ok (.getfield 12, 3) := bX7_mark_0.2.1
theorem dX7_mark_4 : decode cX7_mark 4 = .ok (.iload_n 1, 1) := bX7_mark_0.2.2.1
theorem dX7_mark_5 : decode cX7_mark 5 = .ok (.invokevirtual 98, 3) := bX7_mark_0.2.2.2.1
theorem dX7_mark_8 : decode cX7_mark 8 = .ok (.ifCond .eq 34, 3) := bX7_mark_0.2.2.2.2.1
theorem dX7_mark_11 : decode cX7_mark 11 = .ok (.iload_n 2, 1) := bX7_mark_0.2.2.2.2.2.1
theorem dX7_mark_12 : decode cX7_mark 12 = .ok (.iconst 1, 1) := bX7_mark_0.2.2.2.2.2.2.1
theorem dX7_mark_13 : decode cX7_mark 13 = .ok (.bipush 9, 2) := bX7_mark_0.2.2.2.2.2.2.2.1
theorem dX7_mark_15 : decode cX7_mark 15 = .ok (.invokestatic 59, 3) := bX7_mark_0.2.2.2.2.2.2.2.2.1
theorem dX7_mark_18 : decode cX7_mark 18 = .ok (.ifCond .eq 24, 3) := bX7_mark_0.2.2.2.2.2.2.2.2.2.1
theorem dX7_mark_21 : decode cX7_mark 21 = .ok (.iload_n 3, 1) := bX7_mark_0.2.2.2.2.2.2.2.2.2.2.1
theorem dX7_mark_22 : decode cX7_mark 22 = .ok (.iconst 0, 1) := bX7_mark_0.2.2.2.2.2.2.2.2.2.2.2.1
theorem dX7_mark_23 : decode cX7_mark 23 = .ok (.bipush 99, 2) := bX7_mark_0.2.2.2.2.2.2.2.2.2.2.2.2.1
theorem dX7_mark_25 : decode cX7_mark 25 = .ok (.invokestatic 59, 3) := bX7_mark_0.2.2.2.2.2.2.2.2.2.2.2.2.2.1
theorem dX7_mark_28 : decode cX7_mark 28 = .ok (.ifCond .eq 14, 3) := bX7_mark_0.2.2.2.2.2.2.2.2.2.2.2.2.2.2.1
theorem dX7_mark_31 : decode cX7_mark 31 = .ok (.iload 4, 2) := bX7_mark_0.2.2.2.2.2.2.2.2.2.2.2.2.2.2.2
theorem bX7_mark_33 : (decode cX7_mark 33 = .ok (.iconst 0, 1)) ∧ (decode cX7_mark 34 = .ok (.bipush 99, 2)) ∧ (decode cX7_mark 36 = .ok (.invokestatic 59, 3)) ∧ (decode cX7_mark 39 = .ok (.ifCond .ne 8, 3)) ∧ (decode cX7_mark 42 = .ok (.aload_n 0, 1)) ∧ (decode cX7_mark 43 = .ok (.invokevirtual 63, 3)) ∧ (decode cX7_mark 46 = .ok (.ireturn, 1)) ∧ (decode cX7_mark 47 = .ok (.aload_n 0, 1)) ∧ (decode cX7_mark 48 = .ok (.getfield 12, 3)) ∧ (decode cX7_mark 51 = .ok (.getfield 233, 3)) ∧ (decode cX7_mark 54 = .ok (.invokevirtual 196, 3)) ∧ (decode cX7_mark 57 = .ok (.ifCond .eq 8, 3)) ∧ (decode cX7_mark 60 = .ok (.aload_n 0, 1)) ∧ (decode cX7_mark 61 = .ok (.invokevirtual 70, 3)) ∧ (decode cX7_mark 64 = .ok (.ireturn, 1)) ∧ (decode cX7_mark 65 = .ok (.aload_n 0, 1)) := by decide +kernel
theorem dX7_mark_33 : decode cX7_mark 33 = .ok (.iconst 0, 1) := bX7_mark_33.1
theorem dX7_mark_34 : decode cX7_mark 34 = .ok (.bipush 99, 2) := bX7_mark_33.2.1
theorem dX7_mark_36 : decode cX7_mark 36 = .ok (.invokestatic 59, 3) := bX7_mark_33.2.2.1
theorem dX7_mark_39 : decode cX7_mark 39 = .ok (.ifCond .ne 8, 3) := bX7_mark_33.2.2.2.1
theorem dX7_mark_42 : decode cX7_mark 42 = .ok (.aload_n 0, 1) := bX7_mark_33.2.2.2.2.1
theorem dX7_mark_43 : decode cX7_mark 43 = .ok (.invokevirtual 63, 3) := bX7_mark_33.2.2.2.2.2.1
theorem dX7_mark_46 : decode cX7_mark 46 = .ok (.ireturn, 1) := bX7_mark_33.2.2.2.2.2.2.1
theorem dX7_mark_47 : decode cX7_mark 47 = .ok (.aload_n 0, 1) := bX7_mark_33.2.2.2.2.2.2.2.1
theorem dX7_mark_48 : decode cX7_mark 48 = .ok (.getfield 12, 3) := bX7_mark_33.2.2.2.2.2.2.2.2.1
theorem dX7_mark_51 : decode cX7_mark 51 = .ok (.getfield 233, 3) := bX7_mark_33.2.2.2.2.2.2.2.2.2.1
theorem dX7_mark_54 : decode cX7_mark 54 = .ok (.invokevirtual 196, 3) := bX7_mark_33.2.2.2.2.2.2.2.2.2.2.1
theorem dX7_mark_57 : decode cX7_mark 57 = .ok (.ifCond .eq 8, 3) := bX7_mark_33.2.2.2.2.2.2.2.2.2.2.2.1
theorem dX7_mark_60 : decode cX7_mark 60 = .ok (.aload_n 0, 1) := bX7_mark_33.2.2.2.2.2.2.2.2.2.2.2.2.1
theorem dX7_mark_61 : decode cX7_mark 61 = .ok (.invokevirtual 70, 3) := bX7_mark_33.2.2.2.2.2.2.2.2.2.2.2.2.2.1
theorem dX7_mark_64 : decode cX7_mark 64 = .ok (.ireturn, 1) := bX7_mark_33.2.2.2.2.2.2.2.2.2.2.2.2.2.2.1
theorem dX7_mark_65 : decode cX7_mark 65 = .ok (.aload_n 0, 1) := bX7_mark_33.2.2.2.2.2.2.2.2.2.2.2.2.2.2.2
theorem bX7_mark_66 : (decode cX7_mark 66 = .ok (.getfield 12, 3)) ∧ (decode cX7_mark 69 = .ok (.getfield 233, 3)) ∧ (decode cX7_mark 72 = .ok (.iload_n 1, 1)) ∧ (decode cX7_mark 73 = .ok (.iload_n 2, 1)) ∧ (decode cX7_mark 74 = .ok (.iload_n 3, 1)) ∧ (decode cX7_mark 75 = .ok (.iload 4, 2)) ∧ (decode cX7_mark 77 = .ok (.invokevirtual 202, 3)) ∧ (decode cX7_mark 80 = .ok (.ireturn, 1)) := by decide +kernel
theorem dX7_mark_66 : decode cX7_mark 66 = .ok (.getfield 12, 3) := bX7_mark_66.1
theorem dX7_mark_69 : decode cX7_mark 69 = .ok (.getfield 233, 3) := bX7_mark_66.2.1
theorem dX7_mark_72 : decode cX7_mark 72 = .ok (.iload_n 1, 1) := bX7_mark_66.2.2.1
theorem dX7_mark_73 : decode cX7_mark 73 = .ok (.iload_n 2, 1) := bX7_mark_66.2.2.2.1
theorem dX7_mark_74 : decode cX7_mark 74 = .ok (.iload_n 3, 1) := bX7_mark_66.2.2.2.2.1
theorem dX7_mark_75 : decode cX7_mark 75 = .ok (.iload 4, 2) := bX7_mark_66.2.2.2.2.2.1
theorem dX7_mark_77 : decode cX7_mark 77 = .ok (.invokevirtual 202, 3) := bX7_mark_66.2.2.2.2.2.2.1
theorem dX7_mark_80 : decode cX7_mark 80 = .ok (.ireturn, 1) := bX7_mark_66.2.2.2.2.2.2.2
theorem bX7_forget_0 : (decode cX7_forget 0 = .ok (.iload_n 1, 1)) ∧ (decode cX7_forget 1 = .ok (.iconst 0, 1)) ∧ (decode cX7_forget 2 = .ok (.iconst 2, 1)) ∧ (decode cX7_forget 3 = .ok (.invokestatic 59, 3)) ∧ (decode cX7_forget 6 = .ok (.ifCond .ne 8, 3)) ∧ (decode cX7_forget 9 = .ok (.aload_n 0, 1)) ∧ (decode cX7_forget 10 = .ok (.invokevirtual 63, 3)) ∧ (decode cX7_forget 13 = .ok (.ireturn, 1)) ∧ (decode cX7_forget 14 = .ok (.iload_n 1, 1)) ∧ (decode cX7_forget 15 = .ok (.ifCond .ne 14, 3)) ∧ (decode cX7_forget 18 = .ok (.aload_n 0, 1)) ∧ (decode cX7_forget 19 = .ok (.getfield 12, 3)) ∧ (decode cX7_forget 22 = .ok (.getfield 192, 3)) ∧ (decode cX7_forget 25 = .ok (.invokevirtual 236, 3)) ∧ (decode cX7_forget 28 = .ok (.ireturn, 1)) ∧ (decode cX7_forget 29 = .ok (.iload_n 1, 1)) := by decide +kernel
theorem dX7_forget_0 : decode cX7_forget 0 = .ok (.iload_n 1, 1) := bX7_forget_0.1
theorem dX7_forget_1 : decode cX7_forget 1 = .ok (.iconst 0, 1) := bX7_forget_0.2.1
theorem dX7_forget_2 : decode cX7_forget 2 = .ok (.iconst 2, 1) := bX7_forget_0.2.2.1
theorem dX7_forget_3 : decode cX7_forget 3 = .ok (.invokestatic 59, 3) := bX7_forget_0.2.2.2.1
theorem dX7_forget_6 : decode cX7_forget 6 = .ok (.ifCond .ne 8, 3) := bX7_forget_0.2.2.2.2.1
theorem dX7_forget_9 : decode cX7_forget 9 = .ok (.aload_n 0, 1) := bX7_forget_0.2.2.2.2.2.1
theorem dX7_forget_10 : decode cX7_forget 10 = .ok (.invokevirtual 63, 3) := bX7_forget_0.2.2.2.2.2.2.1
theorem dX7_forget_13 : decode cX7_forget 13 = .ok (.ireturn, 1) := bX7_forget_0.2.2.2.2.2.2.2.1
theorem dX7_forget_14 : decode cX7_forget 14 = .ok (.iload_n 1, 1) := bX7_forget_0.2.2.2.2.2.2.2.2.1
theorem dX7_forget_15 : decode cX7_forget 15 = .ok (.ifCond .ne 14, 3) := bX7_forget_0.2.2.2.2.2.2.2.2.2.1
theorem dX7_forget_18 : decode cX7_forget 18 = .ok (.aload_n 0, 1) := bX7_forget_0.2.2.2.2.2.2.2.2.2.2.1
theorem dX7_forget_19 : decode cX7_forget 19 = .ok (.getfield 12, 3) := bX7_forget_0.2.2.2.2.2.2.2.2.2.2.2.1
theorem dX7_forget_22 : decode cX7_forget 22 = .ok (.getfield 192, 3) := bX7_forget_0.2.2.2.2.2.2.2.2.2.2.2.2.1
theorem dX7_forget_25 : decode cX7_forget 25 = .ok (.invokevirtual 236, 3) := bX7_forget_0.2.2.2.2.2.2.2.2.2.2.2.2.2.1
theorem dX7_forget_28 : decode cX7_forget 28 = .ok (.ireturn, 1) := bX7_forget_0.2.2.2.2.2.2.2.2.2.2.2.2.2.2.1
theorem dX7_forget_29 : decode cX7_forget 29 = .ok (.iload_n 1, 1) := bX7_forget_0.2.2.2.2.2.2.2.2.2.2.2.2.2.2.2
theorem bX7_forget_30 : (decode cX7_forget 30 = .ok (.iconst 1, 1)) ∧ (decode cX7_forget 31 = .ok (.if_icmp .ne 16, 3)) ∧ (decode cX7_forget 34 = .ok (.aload_n 0, 1)) ∧ (decode cX7_forget 35 = .ok (.getfield 12, 3)) ∧ (decode cX7_forget 38 = .ok (.getfield 230, 3)) ∧ (decode cX7_forget 41 = .ok (.invokevirtual 236, 3)) ∧ (decode cX7_forget 44 = .ok (.goto 13, 3)) ∧ (decode cX7_forget 47 = .ok (.aload_n 0, 1)) ∧ (decode cX7_forget 48 = .ok (.getfield 12, 3)) ∧ (decode cX7_forget 51 = .ok (.getfield 233, 3)) ∧ (decode cX7_forget 54 = .ok (.invokevirtual 236, 3)) ∧ (decode cX7_forget 57 = .ok (.ireturn, 1)) := by decide +kernel
theorem dX7_forget_30 : decode cX7_forget 30 = .ok (.iconst 1, 1) := bX7_forget_30.1
theorem dX7_forget_31 : decode cX7_forget 31 = .ok (.if_icmp .ne 16, 3) := bX7_forget_30.2.1
theorem dX7_forget_34 : decode cX7_forget 34 = .ok (.aload_n 0, 1) := bX7_forget_30.2.2.1
theorem dX7_forget_35 : decode cX7_forget 35 = .ok (.getfield 12, 3) := bX7_forget_30.2.2.2.1
theorem dX7_forget_38 : decode cX7_forget 38 = .ok (.getfield 230, 3) := bX7_forget_30.2.2.2.2.1
theorem dX7_forget_41 : decode cX7_forget 41 = .ok (.invokevirtual 236, 3) := bX7_forget_30.2.2.2.2.2.1
theorem dX7_forget_44 : decode cX7_forget 44 = .ok (.goto 13, 3) := bX7_forget_30.2.2.2.2.2.2.1
theorem dX7_forget_47 : decode cX7_forget 47 = .ok (.aload_n 0, 1) := bX7_forget_30.2.2.2.2.2.2.2.1
theorem dX7_forget_48 : decode cX7_forget 48 = .ok (.getfield 12, 3) := bX7_forget_30.2.2.2.2.2.2.2.2.1
theorem dX7_forget_51 : decode cX7_forget 51 = .ok (.getfield 233, 3) := bX7_forget_30.2.2.2.2.2.2.2.2.2.1
theorem dX7_forget_54 : decode cX7_forget 54 = .ok (.invokevirtual 236, 3) := bX7_forget_30.2.2.2.2.2.2.2.2.2.2.1
theorem dX7_forget_57 : decode cX7_forget 57 = .ok (.ireturn, 1) := bX7_forget_30.2.2.2.2.2.2.2.2.2.2.2
theorem bX7_is_0 : (decode cX7_is 0 = .ok (.aload_n 0, 1)) ∧ (decode cX7_is 1 = .ok (.getfield 12, 3)) ∧ (decode cX7_is 4 = .ok (.iload_n 1, 1)) ∧ (decode cX7_is 5 = .ok (.invokevirtual 102, 3)) ∧ (decode cX7_is 8 = .ok (.ifCond .eq 14, 3)) ∧ (decode cX7_is 11 = .ok (.aload_n 0, 1)) ∧ (decode cX7_is 12 = .ok (.getfield 12, 3)) ∧ (decode cX7_is 15 = .ok (.iload_n 1, 1)) ∧ (decode cX7_is 16 = .ok (.invokevirtual 239, 3)) ∧ (decode cX7_is 19 = .ok (.goto 7, 3)) ∧ (decode cX7_is 22 = .ok (.aload_n 0, 1)) ∧ (decode cX7_is 23 = .ok (.invokevirtual 63, 3)) ∧ (decode cX7_is 26 = .ok (.ireturn, 1)) := by decide +kernel
theorem dX7_is_0 : decode cX7_is 0 = .ok (.aload_n 0, 1) := bX7_is_0.1
theorem dX7_is_1 : decode cX7_is 1 = .ok (.getfield 12, 3) := bX7_is_0.2.1
theorem dX7_is_4 : decode cX7_is 4 = .ok (.iload_n 1, 1) := bX7_is_0.2.2.1
theorem dX7_is_5 : decode cX7_is 5 = .ok (.invokevirtual 102, 3) := bX7_is_0.2.2.2.1
theorem dX7_is_8 : decode cX7_is 8 = .ok (.ifCond .eq 14, 3) := bX7_is_0.2.2.2.2.1
theorem dX7_is_11 : decode cX7_is 11 = .ok (.aload_n 0, 1) := bX7_is_0.2.2.2.2.2.1
theorem dX7_is_12 : decode cX7_is 12 = .ok (.getfield 12, 3) := bX7_is_0.2.2.2.2.2.2.1
theorem dX7_is_15 : decode cX7_is 15 = .ok (.iload_n 1, 1) := bX7_is_0.2.2.2.2.2.2.2.1
theorem dX7_is_16 : decode cX7_is 16 = .ok (.invokevirtual 239, 3) := bX7_is_0.2.2.2.2.2.2.2.2.1
theorem dX7_is_19 : decode cX7_is 19 = .ok (.goto 7, 3) := bX7_is_0.2.2.2.2.2.2.2.2.2.1
theorem dX7_is_22 : decode cX7_is 22 = .ok (.aload_n 0, 1) := bX7_is_0.2.2.2.2.2.2.2.2.2.2.1
theorem dX7_is_23 : decode cX7_is 23 = .ok (.invokevirtual 63, 3) := bX7_is_0.2.2.2.2.2.2.2.2.2.2.2.1
theorem dX7_is_26 : decode cX7_is 26 = .ok (.ireturn, 1) := bX7_is_0.2.2.2.2.2.2.2.2.2.2.2.2
theorem bX7_look_0 : (decode cX7_look 0 = .ok (.aload_n 0, 1)) ∧ (decode cX7_look 1 = .ok (.getfield 12, 3)) ∧ (decode cX7_look 4 = .ok (.iload_n 1, 1)) ∧ (decode cX7_look 5 = .ok (.invokevirtual 102, 3)) ∧ (decode cX7_look 8 = .ok (.ifCond .ne 8, 3)) ∧ (decode cX7_look 11 = .ok (.aload_n 0, 1)) ∧ (decode cX7_look 12 = .ok (.invokevirtual 63, 3)) ∧ (decode cX7_look 15 = .ok (.ireturn, 1)) ∧ (decode cX7_look 16 = .ok (.aload_n 0, 1)) ∧ (decode cX7_look 17 = .ok (.getfield 12, 3)) ∧ (decode cX7_look 20 = .ok (.iload_n 1, 1)) ∧ (decode cX7_look 21 = .ok (.invokevirtual 239, 3)) ∧ (decode cX7_look 24 = .ok (.istore_n 2, 1)) ∧ (decode cX7_look 25 = .ok (.iload_n 2, 1)) ∧ (decode cX7_look 26 = .ok (.ifCond .ne 5, 3)) ∧ (decode cX7_look 29 = .ok (.iconst (-1), 1)) := by decide +kernel
theorem dX7_look_0 : decode cX7_look 0 = .ok (.aload_n 0, 1) := bX7_look_0.1
theorem dX7_look_1 : decode cX7_look 1 = .ok (.getfield 12, 3) := bX7_look_0.2.1
theorem dX7_look_4 : decode cX7_look 4 = .ok (.iload_n 1, 1) := bX7_look_0.2.2.1
theorem dX7_look_5 : decode cX7_look 5 = .ok (.invokevirtual 102, 3) := bX7_look_0.2.2.2.1
theorem dX7_look_8 : decode cX7_look 8 = .ok (.ifCond .ne 8, 3) := bX7_look_0.2.2.2.2.1
theorem dX7_look_11 : decode cX7_look 11 = .ok (.aload_n 0, 1) := bX7_look_0.2.2.2.2.2.1
theorem dX7_look_12 : decode cX7_look 12 = .ok (.invokevirtual 63, 3) := bX7_look_0.2.2.2.2.2.2.1
theorem dX7_look_15 : decode cX7_look 15 = .ok (.ireturn, 1) := bX7_look_0.2.2.2.2.2.2.2.1
theorem dX7_look_16 : decode cX7_look 16 = .ok (.aload_n 0, 1) := bX7_look_0.2.2.2.2.2.2.2.2.1
theorem dX7_look_17 : decode cX7_look 17 = .ok (.getfield 12, 3) := bX7_look_0.2.2.2.2.2.2.2.2.2.1
theorem dX7_look_20 : decode cX7_look 20 = .ok (.iload_n 1, 1) := bX7_look_0.2.2.2.2.2.2.2.2.2.2.1
theorem dX7_look_21 : decode cX7_look 21 = .ok (.invokevirtual 239, 3) := bX7_look_0.2.2.2.2.2.2.2.2.2.2.2.1
theorem dX7_look_24 : decode cX7_look 24 = .ok (.istore_n 2, 1) := bX7_look_0.2.2.2.2.2.2.2.2.2.2.2.2.1
theorem dX7_look_25 : decode cX7_look 25 = .ok (.iload_n 2, 1) := bX7_look_0.2.2.2.2.2.2.2.2.2.2.2.2.2.1
theorem dX7_look_26 : decode cX7_look 26 = .ok (.ifCond .ne 5, 3) := bX7_look_0.2.2.2.2.2.2.2.2.2.2.2.2.2.2.1
theorem dX7_look_29 : decode cX7_look 29 = .ok (.iconst (-1), 1) := bX7_look_0.2.2.2.2.2.2.2.2.2.2.2.2.2.2.2
theorem bX7_look_30 : (decode cX7_look 30 = .ok (.ireturn, 1)) ∧ (decode cX7_look 31 = .ok (.iconst (-1), 1)) ∧ (decode cX7_look 32 = .ok (.istore_n 3, 1)) ∧ (decode cX7_look 33 = .ok (.bipush 7, 2)) ∧ (decode cX7_look 35 = .ok (.istore 4, 2)) ∧ (decode cX7_look 37 = .ok (.iconst 0, 1)) ∧ (decode cX7_look 38 = .ok (.istore 5, 2)) ∧ (decode cX7_look 40 = .ok (.iload 5, 2)) ∧ (decode cX7_look 42 = .ok (.bipush 60, 2)) ∧ (decode cX7_look 44 = .ok (.if_icmp .gt 51, 3)) ∧ (decode cX7_look 47 = .ok (.aload_n 0, 1)) ∧ (decode cX7_look 48 = .ok (.getfield 37, 3)) ∧ (decode cX7_look 51 = .ok (.iload_n 2, 1)) ∧ (decode cX7_look 52 = .ok (.aload_n 0, 1)) ∧ (decode cX7_look 53 = .ok (.getfield 12, 3)) ∧ (decode cX7_look 56 = .ok (.getfield 149, 3)) := by decide +kernel
theorem dX7_look_30 : decode cX7_look 30 = .ok (.ireturn, 1) := bX7_look_30.1
theorem dX7_look_31 : decode cX7_look 31 = .ok (.iconst (-1), 1) := bX7_look_30.2.1
theorem dX7_look_32 : decode cX7_look 32 = .ok (.istore_n 3, 1) := bX7_look_30.2.2.1
theorem dX7_look_33 : decode cX7_look 33 = .ok (.bipush 7, 2) := bX7_look_30.2.2.2.1
theorem dX7_look_35 : decode cX7_look 35 = .ok (.istore 4, 2) := bX7_look_30.2.2.2.2.1
theorem dX7_look_37 : decode cX7_look 37 = .ok (.iconst 0, 1) := bX7_look_30.2.2.2.2.2.1
theorem dX7_look_38 : decode cX7_look 38 = .ok (.istore 5, 2) := bX7_look_30.2.2.2.2.2.2.1
theorem dX7_look_40 : decode cX7_look 40 = .ok (.iload 5, 2) := bX7_look_30.2.2.2.2.2.2.2.1
theorem dX7_look_42 : decode cX7_look 42 = .ok (.bipush 60, 2) := bX7_look_30.2.2.2.2.2.2.2.2.1
theorem dX7_look_44 : decode cX7_look 44 = .ok (.if_icmp .gt 51, 3) := bX7_look_30.2.2.2.2.2.2.2.2.2.1
theorem dX7_look_47 : decode cX7_look 47 = .ok (.aload_n 0, 1) := bX7_look_30.2.2.2.2.2.2.2.2.2.2.1
theorem dX7_look_48 : decode cX7_look 48 = .ok (.getfield 37, 3) := bX7_look_30.2.2.2.2.2.2.2.2.2.2.2.1
theorem dX7_look_51 : decode cX7_look 51 = .ok (.iload_n 2, 1) := bX7_look_30.2.2.2.2.2.2.2.2.2.2.2.2.1
theorem dX7_look_52 : decode cX7_look 52 = .ok (.aload_n 0, 1) := bX7_look_30.2.2.2.2.2.2.2.2.2.2.2.2.2.1
theorem dX7_look_53 : decode cX7_look 53 = .ok (.getfield 12, 3) := bX7_look_30.2.2.2.2.2.2.2.2.2.2.2.2.2.2.1
theorem dX7_look_56 : decode cX7_look 56 = .ok (.getfield 149, 3) := bX7_look_30.2.2.2.2.2.2.2.2.2.2.2.2.2.2.2
theorem bX7_look_59 : (decode cX7_look 59 = .ok (.iload_n 1, 1)) ∧ (decode cX7_look 60 = .ok (.iaload, 1)) ∧ (decode cX7_look 61 = .ok (.iload 5, 2)) ∧ (decode cX7_look 63 = .ok (.invokevirtual 242, 3)) ∧ (decode cX7_look 66 = .ok (.aload_n 0, 1)) ∧ (decode cX7_look 67 = .ok (.getfield 37, 3)) ∧ (decode cX7_look 70 = .ok (.invokevirtual 245, 3)) ∧ (decode cX7_look 73 = .ok (.istore 6, 2)) ∧ (decode cX7_look 75 = .ok (.iload 6, 2)) ∧ (decode cX7_look 77 = .ok (.iload 4, 2)) ∧ (decode cX7_look 79 = .ok (.if_icmp .ge 10, 3)) ∧ (decode cX7_look 82 = .ok (.iload 6, 2)) ∧ (decode cX7_look 84 = .ok (.istore 4, 2)) ∧ (decode cX7_look 86 = .ok (.iload 5, 2)) ∧ (decode cX7_look 88 = .ok (.istore_n 3, 1)) ∧ (decode cX7_look 89 = .ok (.iinc 5 1, 3)) := by decide +kernel
theorem dX7_look_59 : decode cX7_look 59 = .ok (.iload_n 1, 1) := bX7_look_59.1
theorem dX7_look_60 : decode cX7_look 60 = .ok (.iaload, 1) := bX7_look_59.2.1
theorem dX7_look_61 : decode cX7_look 61 = .ok (.iload 5, 2) := bX7_look_59.2.2.1
theorem dX7_look_63 : decode cX7_look 63 = .ok (.invokevirtual 242, 3) := bX7_look_59.2.2.2.1
theorem dX7_look_66 : decode cX7_look 66 = .ok (.aload_n 0, 1) := bX7_look_59.2.2.2.2.1
theorem dX7_look_67 : decode cX7_look 67 = .ok (.getfield 37, 3) := bX7_look_59.2.2.2.2.2.1
theorem dX7_look_70 : decode cX7_look 70 = .ok (.invokevirtual 245, 3) := bX7_look_59.2.2.2.2.2.2.1
theorem dX7_look_73 : decode cX7_look 73 = .ok (.istore 6, 2) := bX7_look_59.2.2.2.2.2.2.2.1
theorem dX7_look_75 : decode cX7_look 75 = .ok (.iload 6, 2) := bX7_look_59.2.2.2.2.2.2.2.2.1
theorem dX7_look_77 : decode cX7_look 77 = .ok (.iload 4, 2) := bX7_look_59.2.2.2.2.2.2.2.2.2.1
theorem dX7_look_79 : decode cX7_look 79 = .ok (.if_icmp .ge 10, 3) := bX7_look_59.2.2.2.2.2.2.2.2.2.2.1
theorem dX7_look_82 : decode cX7_look 82 = .ok (.iload 6, 2) := bX7_look_59.2.2.2.2.2.2.2.2.2.2.2.1
theorem dX7_look_84 : decode cX7_look 84 = .ok (.istore 4, 2) := bX7_look_59.2.2.2.2.2.2.2.2.2.2.2.2.1
theorem dX7_look_86 : decode cX7_look 86 = .ok (.iload 5, 2) := bX7_look_59.2.2.2.2.2.2.2.2.2.2.2.2.2.1
theorem dX7_look_88 : decode cX7_look 88 = .ok (.istore_n 3, 1) := bX7_look_59.2.2.2.2.2.2.2.2.2.2.2.2.2.2.1
theorem dX7_look_89 : decode cX7_look 89 = .ok (.iinc 5 1, 3) := bX7_look_59.2.2.2.2.2.2.2.2.2.2.2.2.2.2.2
theorem bX7_look_92 : (decode cX7_look 92 = .ok (.goto (-52), 3)) ∧ (decode cX7_look 95 = .ok (.iload_n 3, 1)) ∧ (decode cX7_look 96 = .ok (.ireturn, 1)) := by decide +kernel
theorem dX7_look_92 : decode cX7_look 92 = .ok (.goto (-52), 3) := bX7_look_92.1
theorem dX7_look_95 : decode cX7_look 95 = .ok (.iload_n 3, 1) := bX7_look_92.2.1
theorem dX7_look_96 : decode cX7_look 96 = .ok (.ireturn, 1) := bX7_look_92.2.2
theorem bX7_kinds_0 : (decode cX7_kinds 0 = .ok (.aload_n 0, 1)) ∧ (decode cX7_kinds 1 = .ok (.getfield 12, 3)) ∧ (decode cX7_kinds 4 = .ok (.iload_n 1, 1)) ∧ (decode cX7_kinds 5 = .ok (.invokevirtual 98, 3)) ∧ (decode cX7_kinds 8 = .ok (.ifCond .eq 14, 3)) ∧ (decode cX7_kinds 11 = .ok (.aload_n 0, 1)) ∧ (decode cX7_kinds 12 = .ok (.getfield 12, 3)) ∧ (decode cX7_kinds 15 = .ok (.iload_n 1, 1)) ∧ (decode cX7_kinds 16 = .ok (.invokevirtual 248, 3)) ∧ (decode cX7_kinds 19 = .ok (.goto 7, 3)) ∧ (decode cX7_kinds 22 = .ok (.aload_n 0, 1)) ∧ (decode cX7_kinds 23 = .ok (.invokevirtual 63, 3)) ∧ (decode cX7_kinds 26 = .ok (.ireturn, 1)) := by decide +kernel
theorem dX7_kinds_0 : decode cX7_kinds 0 = .ok (.aload_n 0, 1) := bX7_kinds_0.1
theorem dX7_kinds_1 : decode cX7_kinds 1 = .ok (.getfield 12, 3) := bX7_kinds_0.2.1
theorem dX7_kinds_4 : decode cX7_kinds 4 = .ok (.iload_n 1, 1) := bX7_kinds_0.2.2.1
theorem dX7_kinds_5 : decode cX7_kinds 5 = .ok (.invokevirtual 98, 3) := bX7_kinds_0.2.2.2.1
theorem dX7_kinds_8 : decode cX7_kinds 8 = .ok (.ifCond .eq 14, 3) := bX7_kinds_0.2.2.2.2.1
theorem dX7_kinds_11 : decode cX7_kinds 11 = .ok (.aload_n 0, 1) := bX7_kinds_0.2.2.2.2.2.1
theorem dX7_kinds_12 : decode cX7_kinds 12 = .ok (.getfield 12, 3) := bX7_kinds_0.2.2.2.2.2.2.1
theorem dX7_kinds_15 : decode cX7_kinds 15 = .ok (.iload_n 1, 1) := bX7_kinds_0.2.2.2.2.2.2.2.1
theorem dX7_kinds_16 : decode cX7_kinds 16 = .ok (.invokevirtual 248, 3) := bX7_kinds_0.2.2.2.2.2.2.2.2.1
theorem dX7_kinds_19 : decode cX7_kinds 19 = .ok (.goto 7, 3) := bX7_kinds_0.2.2.2.2.2.2.2.2.2.1
theorem dX7_kinds_22 : decode cX7_kinds 22 = .ok (.aload_n 0, 1) := bX7_kinds_0.2.2.2.2.2.2.2.2.2.2.1
theorem dX7_kinds_23 : decode cX7_kinds 23 = .ok (.invokevirtual 63, 3) := bX7_kinds_0.2.2.2.2.2.2.2.2.2.2.2.1
theorem dX7_kinds_26 : decode cX7_kinds 26 = .ok (.ireturn, 1) := bX7_kinds_0.2.2.2.2.2.2.2.2.2.2.2.2
theorem bX7_ask_0 : (decode cX7_ask 0 = .ok (.aload_n 0, 1)) ∧ (decode cX7_ask 1 = .ok (.getfield 12, 3)) ∧ (decode cX7_ask 4 = .ok (.iload_n 1, 1)) ∧ (decode cX7_ask 5 = .ok (.invokevirtual 98, 3)) ∧ (decode cX7_ask 8 = .ok (.ifCond .ne 8, 3)) ∧ (decode cX7_ask 11 = .ok (.aload_n 0, 1)) ∧ (decode cX7_ask 12 = .ok (.invokevirtual 63, 3)) ∧ (decode cX7_ask 15 = .ok (.ireturn, 1)) ∧ (decode cX7_ask 16 = .ok (.aload_n 0, 1)) ∧ (decode cX7_ask 17 = .ok (.getfield 12, 3)) ∧ (decode cX7_ask 20 = .ok (.iload_n 1, 1)) ∧ (decode cX7_ask 21 = .ok (.invokevirtual 248, 3)) ∧ (decode cX7_ask 24 = .ok (.istore_n 2, 1)) ∧ (decode cX7_ask 25 = .ok (.iload_n 2, 1)) ∧ (decode cX7_ask 26 = .ok (.ifCond .ne 5, 3)) ∧ (decode cX7_ask 29 = .ok (.iconst (-1), 1)) := by decide +kernel
theorem dX7_ask_0 : decode cX7_ask 0 = .ok (.aload_n 0, 1) := bX7_ask_0.1
theorem dX7_ask_1 : decode cX7_ask 1 = .ok (.getfield 12, 3) := bX7_ask_0.2.1
theorem dX7_ask_4 : decode cX7_ask 4 = .ok (.iload_n 1, 1) := bX7_ask_0.2.2.1
theorem dX7_ask_5 : decode cX7_ask 5 = .ok (.invokevirtual 98, 3) := bX7_ask_0.2.2.2.1
theorem dX7_ask_8 : decode cX7_ask 8 = .ok (.ifCond .ne 8, 3) := bX7_ask_0.2.2.2.2.1
theorem dX7_ask_11 : decode cX7_ask 11 = .ok (.aload_n 0, 1) := bX7_ask_0.2.2.2.2.2.1
theorem dX7_ask_12 : decode cX7_ask 12 = .ok (.invokevirtual 63, 3) := bX7_ask_0.2.2.2.2.2.2.1
theorem dX7_ask_15 : decode cX7_ask 15 = .ok (.ireturn, 1) := bX7_ask_0.2.2.2.2.2.2.2.1
theorem dX7_ask_16 : decode cX7_ask 16 = .ok (.aload_n 0, 1) := bX7_ask_0.2.2.2.2.2.2.2.2.1
theorem dX7_ask_17 : decode cX7_ask 17 = .ok (.getfield 12, 3) := bX7_ask_0.2.2.2.2.2.2.2.2.2.1
theorem dX7_ask_20 : decode cX7_ask 20 = .ok (.iload_n 1, 1) := bX7_ask_0.2.2.2.2.2.2.2.2.2.2.1
theorem dX7_ask_21 : decode cX7_ask 21 = .ok (.invokevirtual 248, 3) := bX7_ask_0.2.2.2.2.2.2.2.2.2.2.2.1
theorem dX7_ask_24 : decode cX7_ask 24 = .ok (.istore_n 2, 1) := bX7_ask_0.2.2.2.2.2.2.2.2.2.2.2.2.1
theorem dX7_ask_25 : decode cX7_ask 25 = .ok (.iload_n 2, 1) := bX7_ask_0.2.2.2.2.2.2.2.2.2.2.2.2.2.1
theorem dX7_ask_26 : decode cX7_ask 26 = .ok (.ifCond .ne 5, 3) := bX7_ask_0.2.2.2.2.2.2.2.2.2.2.2.2.2.2.1
theorem dX7_ask_29 : decode cX7_ask 29 = .ok (.iconst (-1), 1) := bX7_ask_0.2.2.2.2.2.2.2.2.2.2.2.2.2.2.2
theorem bX7_ask_30 : (decode cX7_ask 30 = .ok (.ireturn, 1)) ∧ (decode cX7_ask 31 = .ok (.iconst (-1), 1)) ∧ (decode cX7_ask 32 = .ok (.istore_n 3, 1)) ∧ (decode cX7_ask 33 = .ok (.bipush 7, 2)) ∧ (decode cX7_ask 35 = .ok (.istore 4, 2)) ∧ (decode cX7_ask 37 = .ok (.iconst 0, 1)) ∧ (decode cX7_ask 38 = .ok (.istore 5, 2)) ∧ (decode cX7_ask 40 = .ok (.iload 5, 2)) ∧ (decode cX7_ask 42 = .ok (.bipush 99, 2)) ∧ (decode cX7_ask 44 = .ok (.if_icmp .gt 51, 3)) ∧ (decode cX7_ask 47 = .ok (.aload_n 0, 1)) ∧ (decode cX7_ask 48 = .ok (.getfield 37, 3)) ∧ (decode cX7_ask 51 = .ok (.iload_n 2, 1)) ∧ (decode cX7_ask 52 = .ok (.aload_n 0, 1)) ∧ (decode cX7_ask 53 = .ok (.getfield 12, 3)) ∧ (decode cX7_ask 56 = .ok (.getfield 251, 3)) := by decide +kernel
theorem dX7_ask_30 : decode cX7_ask 30 = .ok (.ireturn, 1) := bX7_ask_30.1
theorem dX7_ask_31 : decode cX7_ask 31 = .ok (.iconst (-1), 1) := bX7_ask_30.2.1
theorem dX7_ask_32 : decode cX7_ask 32 = .ok (.istore_n 3, 1) := bX7_ask_30.2.2.1
theorem dX7_ask_33 : decode cX7_ask 33 = .ok (.bipush 7, 2) := bX7_ask_30.2.2.2.1
theorem dX7_ask_35 : decode cX7_ask 35 = .ok (.istore 4, 2) := bX7_ask_30.2.2.2.2.1
theorem dX7_ask_37 : decode cX7_ask 37 = .ok (.iconst 0, 1) := bX7_ask_30.2.2.2.2.2.1
theorem dX7_ask_38 : decode cX7_ask 38 = .ok (.istore 5, 2) := bX7_ask_30.2.2.2.2.2.2.1
theorem dX7_ask_40 : decode cX7_ask 40 = .ok (.iload 5, 2) := bX7_ask_30.2.2.2.2.2.2.2.1
theorem dX7_ask_42 : decode cX7_ask 42 = .ok (.bipush 99, 2) := bX7_ask_30.2.2.2.2.2.2.2.2.1
theorem dX7_ask_44 : decode cX7_ask 44 = .ok (.if_icmp .gt 51, 3) := bX7_ask_30.2.2.2.2.2.2.2.2.2.1
theorem dX7_ask_47 : decode cX7_ask 47 = .ok (.aload_n 0, 1) := bX7_ask_30.2.2.2.2.2.2.2.2.2.2.1
theorem dX7_ask_48 : decode cX7_ask 48 = .ok (.getfield 37, 3) := bX7_ask_30.2.2.2.2.2.2.2.2.2.2.2.1
theorem dX7_ask_51 : decode cX7_ask 51 = .ok (.iload_n 2, 1) := bX7_ask_30.2.2.2.2.2.2.2.2.2.2.2.2.1
theorem dX7_ask_52 : decode cX7_ask 52 = .ok (.aload_n 0, 1) := bX7_ask_30.2.2.2.2.2.2.2.2.2.2.2.2.2.1
theorem dX7_ask_53 : decode cX7_ask 53 = .ok (.getfield 12, 3) := bX7_ask_30.2.2.2.2.2.2.2.2.2.2.2.2.2.2.1
theorem dX7_ask_56 : decode cX7_ask 56 = .ok (.getfield 251, 3) := bX7_ask_30.2.2.2.2.2.2.2.2.2.2.2.2.2.2.2
theorem bX7_ask_59 : (decode cX7_ask 59 = .ok (.iload_n 1, 1)) ∧ (decode cX7_ask 60 = .ok (.iaload, 1)) ∧ (decode cX7_ask 61 = .ok (.iload 5, 2)) ∧ (decode cX7_ask 63 = .ok (.invokevirtual 254, 3)) ∧ (decode cX7_ask 66 = .ok (.aload_n 0, 1)) ∧ (decode cX7_ask 67 = .ok (.getfield 37, 3)) ∧ (decode cX7_ask 70 = .ok (.invokevirtual 245, 3)) ∧ (decode cX7_ask 73 = .ok (.istore 6, 2)) ∧ (decode cX7_ask 75 = .ok (.iload 6, 2)) ∧ (decode cX7_ask 77 = .ok (.iload 4, 2)) ∧ (decode cX7_ask 79 = .ok (.if_icmp .ge 10, 3)) ∧ (decode cX7_ask 82 = .ok (.iload 6, 2)) ∧ (decode cX7_ask 84 = .ok (.istore 4, 2)) ∧ (decode cX7_ask 86 = .ok (.iload 5, 2)) ∧ (decode cX7_ask 88 = .ok (.istore_n 3, 1)) ∧ (decode cX7_ask 89 = .ok (.iinc 5 1, 3)) := by decide +kernel
theorem dX7_ask_59 : decode cX7_ask 59 = .ok (.iload_n 1, 1) := bX7_ask_59.1
theorem dX7_ask_60 : decode cX7_ask 60 = .ok (.iaload, 1) := bX7_ask_59.2.1
theorem dX7_ask_61 : decode cX7_ask 61 = .ok (.iload 5, 2) := bX7_ask_59.2.2.1
theorem dX7_ask_63 : decode cX7_ask 63 = .ok (.invokevirtual 254, 3) := bX7_ask_59.2.2.2.1
theorem dX7_ask_66 : decode cX7_ask 66 = .ok (.aload_n 0, 1) := bX7_ask_59.2.2.2.2.1
theorem dX7_ask_67 : decode cX7_ask 67 = .ok (.getfield 37, 3) := bX7_ask_59.2.2.2.2.2.1
theorem dX7_ask_70 : decode cX7_ask 70 = .ok (.invokevirtual 245, 3) := bX7_ask_59.2.2.2.2.2.2.1
theorem dX7_ask_73 : decode cX7_ask 73 = .ok (.istore 6, 2) := bX7_ask_59.2.2.2.2.2.2.2.1
theorem dX7_ask_75 : decode cX7_ask 75 = .ok (.iload 6, 2) := bX7_ask_59.2.2.2.2.2.2.2.2.1
theorem dX7_ask_77 : decode cX7_ask 77 = .ok (.iload 4, 2) := bX7_ask_59.2.2.2.2.2.2.2.2.2.1
theorem dX7_ask_79 : decode cX7_ask 79 = .ok (.if_icmp .ge 10, 3) := bX7_ask_59.2.2.2.2.2.2.2.2.2.2.1
theorem dX7_ask_82 : decode cX7_ask 82 = .ok (.iload 6, 2) := bX7_ask_59.2.2.2.2.2.2.2.2.2.2.2.1
theorem dX7_ask_84 : decode cX7_ask 84 = .ok (.istore 4, 2) := bX7_ask_59.2.2.2.2.2.2.2.2.2.2.2.2.1
theorem dX7_ask_86 : decode cX7_ask 86 = .ok (.iload 5, 2) := bX7_ask_59.2.2.2.2.2.2.2.2.2.2.2.2.2.1
theorem dX7_ask_88 : decode cX7_ask 88 = .ok (.istore_n 3, 1) := bX7_ask_59.2.2.2.2.2.2.2.2.2.2.2.2.2.2.1
theorem dX7_ask_89 : decode cX7_ask 89 = .ok (.iinc 5 1, 3) := bX7_ask_59.2.2.2.2.2.2.2.2.2.2.2.2.2.2.2
theorem bX7_ask_92 : (decode cX7_ask 92 = .ok (.goto (-52), 3)) ∧ (decode cX7_ask 95 = .ok (.iload_n 3, 1)) ∧ (decode cX7_ask 96 = .ok (.ireturn, 1)) := by decide +kernel
theorem dX7_ask_92 : decode cX7_ask 92 = .ok (.goto (-52), 3) := bX7_ask_92.1
theorem dX7_ask_95 : decode cX7_ask 95 = .ok (.iload_n 3, 1) := bX7_ask_92.2.1
theorem dX7_ask_96 : decode cX7_ask 96 = .ok (.ireturn, 1) := bX7_ask_92.2.2
theorem bX7_tries_0 : (decode cX7_tries 0 = .ok (.aload_n 0, 1)) ∧ (decode cX7_tries 1 = .ok (.getfield 12, 3)) ∧ (decode cX7_tries 4 = .ok (.iload_n 1, 1)) ∧ (decode cX7_tries 5 = .ok (.invokevirtual 98, 3)) ∧ (decode cX7_tries 8 = .ok (.ifCond .eq 30, 3)) ∧ (decode cX7_tries 11 = .ok (.aload_n 0, 1)) ∧ (decode cX7_tries 12 = .ok (.getfield 12, 3)) ∧ (decode cX7_tries 15 = .ok (.iload_n 2, 1)) ∧ (decode cX7_tries 16 = .ok (.invokevirtual 98, 3)) ∧ (decode cX7_tries 19 = .ok (.ifCond .eq 19, 3)) ∧ (decode cX7_tries 22 = .ok (.iload_n 1, 1)) ∧ (decode cX7_tries 23 = .ok (.iload_n 2, 1)) ∧ (decode cX7_tries 24 = .ok (.if_icmp .eq 14, 3)) ∧ (decode cX7_tries 27 = .ok (.aload_n 0, 1)) ∧ (decode cX7_tries 28 = .ok (.getfield 12, 3)) ∧ (decode cX7_tries 31 = .ok (.iload_n 3, 1)) := by decide +kernel
theorem dX7_tries_0 : decode cX7_tries 0 = .ok (.aload_n 0, 1) := bX7_tries_0.1
theorem dX7_tries_1 : decode cX7_tries 1 = .ok (.getfield 12, 3) := bX7_tries_0.2.1
theorem dX7_tries_4 : decode cX7_tries 4 = .ok (.iload_n 1, 1) := bX7_tries_0.2.2.1
theorem dX7_tries_5 : decode cX7_tries 5 = .ok (.invokevirtual 98, 3) := bX7_tries_0.2.2.2.1
theorem dX7_tries_8 : decode cX7_tries 8 = .ok (.ifCond .eq 30, 3) := bX7_tries_0.2.2.2.2.1
theorem dX7_tries_11 : decode cX7_tries 11 = .ok (.aload_n 0, 1) := bX7_tries_0.2.2.2.2.2.1
theorem dX7_tries_12 : decode cX7_tries 12 = .ok (.getfield 12, 3) := bX7_tries_0.2.2.2.2.2.2.1
theorem dX7_tries_15 : decode cX7_tries 15 = .ok (.iload_n 2, 1) := bX7_tries_0.2.2.2.2.2.2.2.1
theorem dX7_tries_16 : decode cX7_tries 16 = .ok (.invokevirtual 98, 3) := bX7_tries_0.2.2.2.2.2.2.2.2.1
theorem dX7_tries_19 : decode cX7_tries 19 = .ok (.ifCond .eq 19, 3) := bX7_tries_0.2.2.2.2.2.2.2.2.2.1
theorem dX7_tries_22 : decode cX7_tries 22 = .ok (.iload_n 1, 1) := bX7_tries_0.2.2.2.2.2.2.2.2.2.2.1
theorem dX7_tries_23 : decode cX7_tries 23 = .ok (.iload_n 2, 1) := bX7_tries_0.2.2.2.2.2.2.2.2.2.2.2.1
theorem dX7_tries_24 : decode cX7_tries 24 = .ok (.if_icmp .eq 14, 3) := bX7_tries_0.2.2.2.2.2.2.2.2.2.2.2.2.1
theorem dX7_tries_27 : decode cX7_tries 27 = .ok (.aload_n 0, 1) := bX7_tries_0.2.2.2.2.2.2.2.2.2.2.2.2.2.1
theorem dX7_tries_28 : decode cX7_tries 28 = .ok (.getfield 12, 3) := bX7_tries_0.2.2.2.2.2.2.2.2.2.2.2.2.2.2.1
theorem dX7_tries_31 : decode cX7_tries 31 = .ok (.iload_n 3, 1) := bX7_tries_0.2.2.2.2.2.2.2.2.2.2.2.2.2.2.2
theorem bX7_tries_32 : (decode cX7_tries 32 = .ok (.invokevirtual 102, 3)) ∧ (decode cX7_tries 35 = .ok (.ifCond .ne 8, 3)) ∧ (decode cX7_tries 38 = .ok (.aload_n 0, 1)) ∧ (decode cX7_tries 39 = .ok (.invokevirtual 63, 3)) ∧ (decode cX7_tries 42 = .ok (.ireturn, 1)) ∧ (decode cX7_tries 43 = .ok (.aload_n 0, 1)) ∧ (decode cX7_tries 44 = .ok (.getfield 12, 3)) ∧ (decode cX7_tries 47 = .ok (.iload_n 1, 1)) ∧ (decode cX7_tries 48 = .ok (.iconst 0, 1)) ∧ (decode cX7_tries 49 = .ok (.invokevirtual 152, 3)) ∧ (decode cX7_tries 52 = .ok (.istore 4, 2)) ∧ (decode cX7_tries 54 = .ok (.aload_n 0, 1)) ∧ (decode cX7_tries 55 = .ok (.getfield 12, 3)) ∧ (decode cX7_tries 58 = .ok (.iload_n 2, 1)) ∧ (decode cX7_tries 59 = .ok (.iconst 0, 1)) ∧ (decode cX7_tries 60 = .ok (.invokevirtual 152, 3)) := by decide +kernel
theorem dX7_tries_32 : decode cX7_tries 32 = .ok (.invokevirtual 102, 3) := bX7_tries_32.1
theorem dX7_tries_35 : decode cX7_tries 35 = .ok (.ifCond .ne 8, 3) := bX7_tries_32.2.1
theorem dX7_tries_38 : decode cX7_tries 38 = .ok (.aload_n 0, 1) := bX7_tries_32.2.2.1
theorem dX7_tries_39 : decode cX7_tries 39 = .ok (.invokevirtual 63, 3) := bX7_tries_32.2.2.2.1
theorem dX7_tries_42 : decode cX7_tries 42 = .ok (.ireturn, 1) := bX7_tries_32.2.2.2.2.1
theorem dX7_tries_43 : decode cX7_tries 43 = .ok (.aload_n 0, 1) := bX7_tries_32.2.2.2.2.2.1
theorem dX7_tries_44 : decode cX7_tries 44 = .ok (.getfield 12, 3) := bX7_tries_32.2.2.2.2.2.2.1
theorem dX7_tries_47 : decode cX7_tries 47 = .ok (.iload_n 1, 1) := bX7_tries_32.2.2.2.2.2.2.2.1
theorem dX7_tries_48 : decode cX7_tries 48 = .ok (.iconst 0, 1) := bX7_tries_32.2.2.2.2.2.2.2.2.1
theorem dX7_tries_49 : decode cX7_tries 49 = .ok (.invokevirtual 152, 3) := bX7_tries_32.2.2.2.2.2.2.2.2.2.1
theorem dX7_tries_52 : decode cX7_tries 52 = .ok (.istore 4, 2) := bX7_tries_32.2.2.2.2.2.2.2.2.2.2.1
theorem dX7_tries_54 : decode cX7_tries 54 = .ok (.aload_n 0, 1) := bX7_tries_32.2.2.2.2.2.2.2.2.2.2.2.1
theorem dX7_tries_55 : decode cX7_tries 55 = .ok (.getfield 12, 3) := bX7_tries_32.2.2.2.2.2.2.2.2.2.2.2.2.1
theorem dX7_tries_58 : decode cX7_tries 58 = .ok (.iload_n 2, 1) := bX7_tries_32.2.2.2.2.2.2.2.2.2.2.2.2.2.1
theorem dX7_tries_59 : decode cX7_tries 59 = .ok (.iconst 0, 1) := bX7_tries_32.2.2.2.2.2.2.2.2.2.2.2.2.2.2.1
theorem dX7_tries_60 : decode cX7_tries 60 = .ok (.invokevirtual 152, 3) := bX7_tries_32.2.2.2.2.2.2.2.2.2.2.2.2.2.2.2
theorem bX7_tries_63 : (decode cX7_tries 63 = .ok (.istore 5, 2)) ∧ (decode cX7_tries 65 = .ok (.aload_n 0, 1)) ∧ (decode cX7_tries 66 = .ok (.getfield 12, 3)) ∧ (decode cX7_tries 69 = .ok (.iload_n 3, 1)) ∧ (decode cX7_tries 70 = .ok (.iconst 0, 1)) ∧ (decode cX7_tries 71 = .ok (.invokevirtual 155, 3)) ∧ (decode cX7_tries 74 = .ok (.istore 6, 2)) ∧ (decode cX7_tries 76 = .ok (.iconst 0, 1)) ∧ (decode cX7_tries 77 = .ok (.istore 7, 2)) ∧ (decode cX7_tries 79 = .ok (.iconst 0, 1)) ∧ (decode cX7_tries 80 = .ok (.istore 8, 2)) ∧ (decode cX7_tries 82 = .ok (.iload 8, 2)) ∧ (decode cX7_tries 84 = .ok (.iconst 4, 1)) ∧ (decode cX7_tries 85 = .ok (.if_icmp .ge 78, 3)) ∧ (decode cX7_tries 88 = .ok (.iload 8, 2)) ∧ (decode cX7_tries 90 = .ok (.iconst 1, 1)) := by decide +kernel
theorem dX7_tries_63 : decode cX7_tries 63 = .ok (.istore 5, 2) := bX7_tries_63.1
theorem dX7_tries_65 : decode cX7_tries 65 = .ok (.aload_n 0, 1) := bX7_tries_63.2.1
theorem dX7_tries_66 : decode cX7_tries 66 = .ok (.getfield 12, 3) := bX7_tries_63.2.2.1
theorem dX7_tries_69 : decode cX7_tries 69 = .ok (.iload_n 3, 1) := bX7_tries_63.2.2.2.1
theorem dX7_tries_70 : decode cX7_tries 70 = .ok (.iconst 0, 1) := bX7_tries_63.2.2.2.2.1
theorem dX7_tries_71 : decode cX7_tries 71 = .ok (.invokevirtual 155, 3) := bX7_tries_63.2.2.2.2.2.1
theorem dX7_tries_74 : decode cX7_tries 74 = .ok (.istore 6, 2) := bX7_tries_63.2.2.2.2.2.2.1
theorem dX7_tries_76 : decode cX7_tries 76 = .ok (.iconst 0, 1) := bX7_tries_63.2.2.2.2.2.2.2.1
theorem dX7_tries_77 : decode cX7_tries 77 = .ok (.istore 7, 2) := bX7_tries_63.2.2.2.2.2.2.2.2.1
theorem dX7_tries_79 : decode cX7_tries 79 = .ok (.iconst 0, 1) := bX7_tries_63.2.2.2.2.2.2.2.2.2.1
theorem dX7_tries_80 : decode cX7_tries 80 = .ok (.istore 8, 2) := bX7_tries_63.2.2.2.2.2.2.2.2.2.2.1
theorem dX7_tries_82 : decode cX7_tries 82 = .ok (.iload 8, 2) := bX7_tries_63.2.2.2.2.2.2.2.2.2.2.2.1
theorem dX7_tries_84 : decode cX7_tries 84 = .ok (.iconst 4, 1) := bX7_tries_63.2.2.2.2.2.2.2.2.2.2.2.2.1
theorem dX7_tries_85 : decode cX7_tries 85 = .ok (.if_icmp .ge 78, 3) := bX7_tries_63.2.2.2.2.2.2.2.2.2.2.2.2.2.1
theorem dX7_tries_88 : decode cX7_tries 88 = .ok (.iload 8, 2) := bX7_tries_63.2.2.2.2.2.2.2.2.2.2.2.2.2.2.1
theorem dX7_tries_90 : decode cX7_tries 90 = .ok (.iconst 1, 1) := bX7_tries_63.2.2.2.2.2.2.2.2.2.2.2.2.2.2.2
theorem bX7_tries_91 : (decode cX7_tries 91 = .ok (.iand, 1)) ∧ (decode cX7_tries 92 = .ok (.ifCond .eq 7, 3)) ∧ (decode cX7_tries 95 = .ok (.iconst 1, 1)) ∧ (decode cX7_tries 96 = .ok (.goto 4, 3)) ∧ (decode cX7_tries 99 = .ok (.iconst 0, 1)) ∧ (decode cX7_tries 100 = .ok (.istore 9, 2)) ∧ (decode cX7_tries 102 = .ok (.iload 8, 2)) ∧ (decode cX7_tries 104 = .ok (.iconst 2, 1)) ∧ (decode cX7_tries 105 = .ok (.iand, 1)) ∧ (decode cX7_tries 106 = .ok (.ifCond .eq 7, 3)) ∧ (decode cX7_tries 109 = .ok (.iconst 1, 1)) ∧ (decode cX7_tries 110 = .ok (.goto 4, 3)) ∧ (decode cX7_tries 113 = .ok (.iconst 0, 1)) ∧ (decode cX7_tries 114 = .ok (.istore 10, 2)) ∧ (decode cX7_tries 116 = .ok (.iload 9, 2)) ∧ (decode cX7_tries 118 = .ok (.iload 10, 2)) := by decide +kernel
theorem dX7_tries_91 : decode cX7_tries 91 = .ok (.iand, 1) := bX7_tries_91.1
theorem dX7_tries_92 : decode cX7_tries 92 = .ok (.ifCond .eq 7, 3) := bX7_tries_91.2.1
theorem dX7_tries_95 : decode cX7_tries 95 = .ok (.iconst 1, 1) := bX7_tries_91.2.2.1
theorem dX7_tries_96 : decode cX7_tries 96 = .ok (.goto 4, 3) := bX7_tries_91.2.2.2.1
theorem dX7_tries_99 : decode cX7_tries 99 = .ok (.iconst 0, 1) := bX7_tries_91.2.2.2.2.1
theorem dX7_tries_100 : decode cX7_tries 100 = .ok (.istore 9, 2) := bX7_tries_91.2.2.2.2.2.1
theorem dX7_tries_102 : decode cX7_tries 102 = .ok (.iload 8, 2) := bX7_tries_91.2.2.2.2.2.2.1
theorem dX7_tries_104 : decode cX7_tries 104 = .ok (.iconst 2, 1) := bX7_tries_91.2.2.2.2.2.2.2.1
theorem dX7_tries_105 : decode cX7_tries 105 = .ok (.iand, 1) := bX7_tries_91.2.2.2.2.2.2.2.2.1
theorem dX7_tries_106 : decode cX7_tries 106 = .ok (.ifCond .eq 7, 3) := bX7_tries_91.2.2.2.2.2.2.2.2.2.1
theorem dX7_tries_109 : decode cX7_tries 109 = .ok (.iconst 1, 1) := bX7_tries_91.2.2.2.2.2.2.2.2.2.2.1
theorem dX7_tries_110 : decode cX7_tries 110 = .ok (.goto 4, 3) := bX7_tries_91.2.2.2.2.2.2.2.2.2.2.2.1
theorem dX7_tries_113 : decode cX7_tries 113 = .ok (.iconst 0, 1) := bX7_tries_91.2.2.2.2.2.2.2.2.2.2.2.2.1
theorem dX7_tries_114 : decode cX7_tries 114 = .ok (.istore 10, 2) := bX7_tries_91.2.2.2.2.2.2.2.2.2.2.2.2.2.1
theorem dX7_tries_116 : decode cX7_tries 116 = .ok (.iload 9, 2) := bX7_tries_91.2.2.2.2.2.2.2.2.2.2.2.2.2.2.1
theorem dX7_tries_118 : decode cX7_tries 118 = .ok (.iload 10, 2) := bX7_tries_91.2.2.2.2.2.2.2.2.2.2.2.2.2.2.2
theorem bX7_tries_120 : (decode cX7_tries 120 = .ok (.iload 4, 2)) ∧ (decode cX7_tries 122 = .ok (.iload 5, 2)) ∧ (decode cX7_tries 124 = .ok (.iload 6, 2)) ∧ (decode cX7_tries 126 = .ok (.invokestatic 257, 3)) ∧ (decode cX7_tries 129 = .ok (.ifCond .eq 28, 3)) ∧ (decode cX7_tries 132 = .ok (.iload 10, 2)) ∧ (decode cX7_tries 134 = .ok (.iload 9, 2)) ∧ (decode cX7_tries 136 = .ok (.iload 5, 2)) ∧ (decode cX7_tries 138 = .ok (.iload 4, 2)) ∧ (decode cX7_tries 140 = .ok (.iload 6, 2)) ∧ (decode cX7_tries 142 = .ok (.invokestatic 257, 3)) ∧ (decode cX7_tries 145 = .ok (.ifCond .eq 12, 3)) ∧ (decode cX7_tries 148 = .ok (.iload 7, 2)) ∧ (decode cX7_tries 150 = .ok (.iconst 1, 1)) ∧ (decode cX7_tries 151 = .ok (.iload 8, 2)) ∧ (decode cX7_tries 153 = .ok (.ishl, 1)) := by decide +kernel
theorem dX7_tries_120 : decode cX7_tries 120 = .ok (.iload 4, 2) := bX7_tries_120.1
theorem dX7_tries_122 : decode cX7_tries 122 = .ok (.iload 5, 2) := bX7_tries_120.2.1
theorem dX7_tries_124 : decode cX7_tries 124 = .ok (.iload 6, 2) := bX7_tries_120.2.2.1
theorem dX7_tries_126 : decode cX7_tries 126 = .ok (.invokestatic 257, 3) := bX7_tries_120.2.2.2.1
theorem dX7_tries_129 : decode cX7_tries 129 = .ok (.ifCond .eq 28, 3) := bX7_tries_120.2.2.2.2.1
theorem dX7_tries_132 : decode cX7_tries 132 = .ok (.iload 10, 2) := bX7_tries_120.2.2.2.2.2.1
theorem dX7_tries_134 : decode cX7_tries 134 = .ok (.iload 9, 2) := bX7_tries_120.2.2.2.2.2.2.1
theorem dX7_tries_136 : decode cX7_tries 136 = .ok (.iload 5, 2) := bX7_tries_120.2.2.2.2.2.2.2.1
theorem dX7_tries_138 : decode cX7_tries 138 = .ok (.iload 4, 2) := bX7_tries_120.2.2.2.2.2.2.2.2.1
theorem dX7_tries_140 : decode cX7_tries 140 = .ok (.iload 6, 2) := bX7_tries_120.2.2.2.2.2.2.2.2.2.1
theorem dX7_tries_142 : decode cX7_tries 142 = .ok (.invokestatic 257, 3) := bX7_tries_120.2.2.2.2.2.2.2.2.2.2.1
theorem dX7_tries_145 : decode cX7_tries 145 = .ok (.ifCond .eq 12, 3) := bX7_tries_120.2.2.2.2.2.2.2.2.2.2.2.1
theorem dX7_tries_148 : decode cX7_tries 148 = .ok (.iload 7, 2) := bX7_tries_120.2.2.2.2.2.2.2.2.2.2.2.2.1
theorem dX7_tries_150 : decode cX7_tries 150 = .ok (.iconst 1, 1) := bX7_tries_120.2.2.2.2.2.2.2.2.2.2.2.2.2.1
theorem dX7_tries_151 : decode cX7_tries 151 = .ok (.iload 8, 2) := bX7_tries_120.2.2.2.2.2.2.2.2.2.2.2.2.2.2.1
theorem dX7_tries_153 : decode cX7_tries 153 = .ok (.ishl, 1) := bX7_tries_120.2.2.2.2.2.2.2.2.2.2.2.2.2.2.2
theorem bX7_tries_154 : (decode cX7_tries 154 = .ok (.ior, 1)) ∧ (decode cX7_tries 155 = .ok (.istore 7, 2)) ∧ (decode cX7_tries 157 = .ok (.iinc 8 1, 3)) ∧ (decode cX7_tries 160 = .ok (.goto (-78), 3)) ∧ (decode cX7_tries 163 = .ok (.iload 7, 2)) ∧ (decode cX7_tries 165 = .ok (.ireturn, 1)) := by decide +kernel
theorem dX7_tries_154 : decode cX7_tries 154 = .ok (.ior, 1) := bX7_tries_154.1
theorem dX7_tries_155 : decode cX7_tries 155 = .ok (.istore 7, 2) := bX7_tries_154.2.1
theorem dX7_tries_157 : decode cX7_tries 157 = .ok (.iinc 8 1, 3) := bX7_tries_154.2.2.1
theorem dX7_tries_160 : decode cX7_tries 160 = .ok (.goto (-78), 3) := bX7_tries_154.2.2.2.1
theorem dX7_tries_163 : decode cX7_tries 163 = .ok (.iload 7, 2) := bX7_tries_154.2.2.2.2.1
theorem dX7_tries_165 : decode cX7_tries 165 = .ok (.ireturn, 1) := bX7_tries_154.2.2.2.2.2
theorem bX7_shout_0 : (decode cX7_shout 0 = .ok (.aload_n 0, 1)) ∧ (decode cX7_shout 1 = .ok (.getfield 12, 3)) ∧ (decode cX7_shout 4 = .ok (.iload_n 1, 1)) ∧ (decode cX7_shout 5 = .ok (.invokevirtual 98, 3)) ∧ (decode cX7_shout 8 = .ok (.ifCond .eq 23, 3)) ∧ (decode cX7_shout 11 = .ok (.iload_n 2, 1)) ∧ (decode cX7_shout 12 = .ok (.iconst 0, 1)) ∧ (decode cX7_shout 13 = .ok (.bipush 6, 2)) ∧ (decode cX7_shout 15 = .ok (.invokestatic 59, 3)) ∧ (decode cX7_shout 18 = .ok (.ifCond .eq 13, 3)) ∧ (decode cX7_shout 21 = .ok (.iload_n 3, 1)) ∧ (decode cX7_shout 22 = .ok (.iconst 0, 1)) ∧ (decode cX7_shout 23 = .ok (.bipush 10, 2)) ∧ (decode cX7_shout 25 = .ok (.invokestatic 59, 3)) ∧ (decode cX7_shout 28 = .ok (.ifCond .ne 8, 3)) ∧ (decode cX7_shout 31 = .ok (.aload_n 0, 1)) := by decide +kernel
theorem dX7_shout_0 : decode cX7_shout 0 = .ok (.aload_n 0, 1) := bX7_shout_0.1
theorem dX7_shout_1 : decode cX7_shout 1 = .ok (.getfield 12, 3) := bX7_shout_0.2.1
theorem dX7_shout_4 : decode cX7_shout 4 = .ok (.iload_n 1, 1) := bX7_shout_0.2.2.1
theorem dX7_shout_5 : decode cX7_shout 5 = .ok (.invokevirtual 98, 3) := bX7_shout_0.2.2.2.1
theorem dX7_shout_8 : decode cX7_shout 8 = .ok (.ifCond .eq 23, 3) := bX7_shout_0.2.2.2.2.1
theorem dX7_shout_11 : decode cX7_shout 11 = .ok (.iload_n 2, 1) := bX7_shout_0.2.2.2.2.2.1
theorem dX7_shout_12 : decode cX7_shout 12 = .ok (.iconst 0, 1) := bX7_shout_0.2.2.2.2.2.2.1
theorem dX7_shout_13 : decode cX7_shout 13 = .ok (.bipush 6, 2) := bX7_shout_0.2.2.2.2.2.2.2.1
theorem dX7_shout_15 : decode cX7_shout 15 = .ok (.invokestatic 59, 3) := bX7_shout_0.2.2.2.2.2.2.2.2.1
theorem dX7_shout_18 : decode cX7_shout 18 = .ok (.ifCond .eq 13, 3) := bX7_shout_0.2.2.2.2.2.2.2.2.2.1
theorem dX7_shout_21 : decode cX7_shout 21 = .ok (.iload_n 3, 1) := bX7_shout_0.2.2.2.2.2.2.2.2.2.2.1
theorem dX7_shout_22 : decode cX7_shout 22 = .ok (.iconst 0, 1) := bX7_shout_0.2.2.2.2.2.2.2.2.2.2.2.1
theorem dX7_shout_23 : decode cX7_shout 23 = .ok (.bipush 10, 2) := bX7_shout_0.2.2.2.2.2.2.2.2.2.2.2.2.1
theorem dX7_shout_25 : decode cX7_shout 25 = .ok (.invokestatic 59, 3) := bX7_shout_0.2.2.2.2.2.2.2.2.2.2.2.2.2.1
theorem dX7_shout_28 : decode cX7_shout 28 = .ok (.ifCond .ne 8, 3) := bX7_shout_0.2.2.2.2.2.2.2.2.2.2.2.2.2.2.1
theorem dX7_shout_31 : decode cX7_shout 31 = .ok (.aload_n 0, 1) := bX7_shout_0.2.2.2.2.2.2.2.2.2.2.2.2.2.2.2
theorem bX7_shout_32 : (decode cX7_shout 32 = .ok (.invokevirtual 63, 3)) ∧ (decode cX7_shout 35 = .ok (.ireturn, 1)) ∧ (decode cX7_shout 36 = .ok (.aload_n 0, 1)) ∧ (decode cX7_shout 37 = .ok (.getfield 12, 3)) ∧ (decode cX7_shout 40 = .ok (.getfield 117, 3)) ∧ (decode cX7_shout 43 = .ok (.iload_n 1, 1)) ∧ (decode cX7_shout 44 = .ok (.invokevirtual 158, 3)) ∧ (decode cX7_shout 47 = .ok (.ifCond .ne 8, 3)) ∧ (decode cX7_shout 50 = .ok (.aload_n 0, 1)) ∧ (decode cX7_shout 51 = .ok (.invokevirtual 111, 3)) ∧ (decode cX7_shout 54 = .ok (.ireturn, 1)) ∧ (decode cX7_shout 55 = .ok (.lconst 1, 1)) ∧ (decode cX7_shout 56 = .ok (.lstore 4, 2)) ∧ (decode cX7_shout 58 = .ok (.lconst 1, 1)) ∧ (decode cX7_shout 59 = .ok (.lstore 6, 2)) ∧ (decode cX7_shout 61 = .ok (.iconst 0, 1)) := by decide +kernel
theorem dX7_shout_32 : decode cX7_shout 32 = .ok (.invokevirtual 63, 3) := bX7_shout_32.1
theorem dX7_shout_35 : decode cX7_shout 35 = .ok (.ireturn, 1) := bX7_shout_32.2.1
theorem dX7_shout_36 : decode cX7_shout 36 = .ok (.aload_n 0, 1) := bX7_shout_32.2.2.1
theorem dX7_shout_37 : decode cX7_shout 37 = .ok (.getfield 12, 3) := bX7_shout_32.2.2.2.1
theorem dX7_shout_40 : decode cX7_shout 40 = .ok (.getfield 117, 3) := bX7_shout_32.2.2.2.2.1
theorem dX7_shout_43 : decode cX7_shout 43 = .ok (.iload_n 1, 1) := bX7_shout_32.2.2.2.2.2.1
theorem dX7_shout_44 : decode cX7_shout 44 = .ok (.invokevirtual 158, 3) := bX7_shout_32.2.2.2.2.2.2.1
theorem dX7_shout_47 : decode cX7_shout 47 = .ok (.ifCond .ne 8, 3) := bX7_shout_32.2.2.2.2.2.2.2.1
theorem dX7_shout_50 : decode cX7_shout 50 = .ok (.aload_n 0, 1) := bX7_shout_32.2.2.2.2.2.2.2.2.1
theorem dX7_shout_51 : decode cX7_shout 51 = .ok (.invokevirtual 111, 3) := bX7_shout_32.2.2.2.2.2.2.2.2.2.1
theorem dX7_shout_54 : decode cX7_shout 54 = .ok (.ireturn, 1) := bX7_shout_32.2.2.2.2.2.2.2.2.2.2.1
theorem dX7_shout_55 : decode cX7_shout 55 = .ok (.lconst 1, 1) := bX7_shout_32.2.2.2.2.2.2.2.2.2.2.2.1
theorem dX7_shout_56 : decode cX7_shout 56 = .ok (.lstore 4, 2) := bX7_shout_32.2.2.2.2.2.2.2.2.2.2.2.2.1
theorem dX7_shout_58 : decode cX7_shout 58 = .ok (.lconst 1, 1) := bX7_shout_32.2.2.2.2.2.2.2.2.2.2.2.2.2.1
theorem dX7_shout_59 : decode cX7_shout 59 = .ok (.lstore 6, 2) := bX7_shout_32.2.2.2.2.2.2.2.2.2.2.2.2.2.2.1
theorem dX7_shout_61 : decode cX7_shout 61 = .ok (.iconst 0, 1) := bX7_shout_32.2.2.2.2.2.2.2.2.2.2.2.2.2.2.2
theorem bX7_shout_62 : (decode cX7_shout 62 = .ok (.istore 8, 2)) ∧ (decode cX7_shout 64 = .ok (.iload 8, 2)) ∧ (decode cX7_shout 66 = .ok (.iload_n 2, 1)) ∧ (decode cX7_shout 67 = .ok (.if_icmp .ge 34, 3)) ∧ (decode cX7_shout 70 = .ok (.lload 4, 2)) ∧ (decode cX7_shout 72 = .ok (.aload_n 0, 1)) ∧ (decode cX7_shout 73 = .ok (.getfield 12, 3)) ∧ (decode cX7_shout 76 = .ok (.iload_n 1, 1)) ∧ (decode cX7_shout 77 = .ok (.iload 8, 2)) ∧ (decode cX7_shout 79 = .ok (.iload_n 3, 1)) ∧ (decode cX7_shout 80 = .ok (.invokevirtual 261, 3)) ∧ (decode cX7_shout 83 = .ok (.i2l, 1)) ∧ (decode cX7_shout 84 = .ok (.lmul, 1)) ∧ (decode cX7_shout 85 = .ok (.lstore 4, 2)) ∧ (decode cX7_shout 87 = .ok (.lload 6, 2)) ∧ (decode cX7_shout 89 = .ok (.ldc2_w 264, 3)) := by decide +kernel
theorem dX7_shout_62 : decode cX7_shout 62 = .ok (.istore 8, 2) := bX7_shout_62.1
theorem dX7_shout_64 : decode cX7_shout 64 = .ok (.iload 8, 2) := bX7_shout_62.2.1
theorem dX7_shout_66 : decode cX7_shout 66 = .ok (.iload_n 2, 1) := bX7_shout_62.2.2.1
theorem dX7_shout_67 : decode cX7_shout 67 = .ok (.if_icmp .ge 34, 3) := bX7_shout_62.2.2.2.1
theorem dX7_shout_70 : decode cX7_shout 70 = .ok (.lload 4, 2) := bX7_shout_62.2.2.2.2.1
theorem dX7_shout_72 : decode cX7_shout 72 = .ok (.aload_n 0, 1) := bX7_shout_62.2.2.2.2.2.1
theorem dX7_shout_73 : decode cX7_shout 73 = .ok (.getfield 12, 3) := bX7_shout_62.2.2.2.2.2.2.1
theorem dX7_shout_76 : decode cX7_shout 76 = .ok (.iload_n 1, 1) := bX7_shout_62.2.2.2.2.2.2.2.1
theorem dX7_shout_77 : decode cX7_shout 77 = .ok (.iload 8, 2) := bX7_shout_62.2.2.2.2.2.2.2.2.1
theorem dX7_shout_79 : decode cX7_shout 79 = .ok (.iload_n 3, 1) := bX7_shout_62.2.2.2.2.2.2.2.2.2.1
theorem dX7_shout_80 : decode cX7_shout 80 = .ok (.invokevirtual 261, 3) := bX7_shout_62.2.2.2.2.2.2.2.2.2.2.1
theorem dX7_shout_83 : decode cX7_shout 83 = .ok (.i2l, 1) := bX7_shout_62.2.2.2.2.2.2.2.2.2.2.2.1
theorem dX7_shout_84 : decode cX7_shout 84 = .ok (.lmul, 1) := bX7_shout_62.2.2.2.2.2.2.2.2.2.2.2.2.1
theorem dX7_shout_85 : decode cX7_shout 85 = .ok (.lstore 4, 2) := bX7_shout_62.2.2.2.2.2.2.2.2.2.2.2.2.2.1
theorem dX7_shout_87 : decode cX7_shout 87 = .ok (.lload 6, 2) := bX7_shout_62.2.2.2.2.2.2.2.2.2.2.2.2.2.2.1
theorem dX7_shout_89 : decode cX7_shout 89 = .ok (.ldc2_w 264, 3) := bX7_shout_62.2.2.2.2.2.2.2.2.2.2.2.2.2.2.2
theorem bX7_shout_92 : (decode cX7_shout 92 = .ok (.lmul, 1)) ∧ (decode cX7_shout 93 = .ok (.lstore 6, 2)) ∧ (decode cX7_shout 95 = .ok (.iinc 8 1, 3)) ∧ (decode cX7_shout 98 = .ok (.goto (-34), 3)) ∧ (decode cX7_shout 101 = .ok (.aload_n 0, 1)) ∧ (decode cX7_shout 102 = .ok (.lload 4, 2)) ∧ (decode cX7_shout 104 = .ok (.lload 6, 2)) ∧ (decode cX7_shout 106 = .ok (.invokevirtual 266, 3)) ∧ (decode cX7_shout 109 = .ok (.iconst 1, 1)) ∧ (decode cX7_shout 110 = .ok (.ireturn, 1)) := by decide +kernel
theorem dX7_shout_92 : decode cX7_shout 92 = .ok (.lmul, 1) := bX7_shout_92.1
theorem dX7_shout_93 : decode cX7_shout 93 = .ok (.lstore 6, 2) := bX7_shout_92.2.1
theorem dX7_shout_95 : decode cX7_shout 95 = .ok (.iinc 8 1, 3) := bX7_shout_92.2.2.1
theorem dX7_shout_98 : decode cX7_shout 98 = .ok (.goto (-34), 3) := bX7_shout_92.2.2.2.1
theorem dX7_shout_101 : decode cX7_shout 101 = .ok (.aload_n 0, 1) := bX7_shout_92.2.2.2.2.1
theorem dX7_shout_102 : decode cX7_shout 102 = .ok (.lload 4, 2) := bX7_shout_92.2.2.2.2.2.1
theorem dX7_shout_104 : decode cX7_shout 104 = .ok (.lload 6, 2) := bX7_shout_92.2.2.2.2.2.2.1
theorem dX7_shout_106 : decode cX7_shout 106 = .ok (.invokevirtual 266, 3) := bX7_shout_92.2.2.2.2.2.2.2.1
theorem dX7_shout_109 : decode cX7_shout 109 = .ok (.iconst 1, 1) := bX7_shout_92.2.2.2.2.2.2.2.2.1
theorem dX7_shout_110 : decode cX7_shout 110 = .ok (.ireturn, 1) := bX7_shout_92.2.2.2.2.2.2.2.2.2
theorem bX7_centuries_0 : (decode cX7_centuries 0 = .ok (.iload_n 1, 1)) ∧ (decode cX7_centuries 1 = .ok (.iconst 0, 1)) ∧ (decode cX7_centuries 2 = .ok (.ldc_w 270, 3)) ∧ (decode cX7_centuries 5 = .ok (.invokestatic 59, 3)) ∧ (decode cX7_centuries 8 = .ok (.ifCond .eq 13, 3)) ∧ (decode cX7_centuries 11 = .ok (.iload_n 2, 1)) ∧ (decode cX7_centuries 12 = .ok (.iconst 0, 1)) ∧ (decode cX7_centuries 13 = .ok (.bipush 60, 2)) ∧ (decode cX7_centuries 15 = .ok (.invokestatic 59, 3)) ∧ (decode cX7_centuries 18 = .ok (.ifCond .ne 8, 3)) ∧ (decode cX7_centuries 21 = .ok (.aload_n 0, 1)) ∧ (decode cX7_centuries 22 = .ok (.invokevirtual 63, 3)) ∧ (decode cX7_centuries 25 = .ok (.ireturn, 1)) ∧ (decode cX7_centuries 26 = .ok (.aload_n 0, 1)) ∧ (decode cX7_centuries 27 = .ok (.getfield 44, 3)) ∧ (decode cX7_centuries 30 = .ok (.aload_n 0, 1)) := by decide +kernel
theorem dX7_centuries_0 : decode cX7_centuries 0 = .ok (.iload_n 1, 1) := bX7_centuries_0.1
theorem dX7_centuries_1 : decode cX7_centuries 1 = .ok (.iconst 0, 1) := bX7_centuries_0.2.1
theorem dX7_centuries_2 : decode cX7_centuries 2 = .ok (.ldc_w 270, 3) := bX7_centuries_0.2.2.1
theorem dX7_centuries_5 : decode cX7_centuries 5 = .ok (.invokestatic 59, 3) := bX7_centuries_0.2.2.2.1
theorem dX7_centuries_8 : decode cX7_centuries 8 = .ok (.ifCond .eq 13, 3) := bX7_centuries_0.2.2.2.2.1
theorem dX7_centuries_11 : decode cX7_centuries 11 = .ok (.iload_n 2, 1) := bX7_centuries_0.2.2.2.2.2.1
theorem dX7_centuries_12 : decode cX7_centuries 12 = .ok (.iconst 0, 1) := bX7_centuries_0.2.2.2.2.2.2.1
theorem dX7_centuries_13 : decode cX7_centuries 13 = .ok (.bipush 60, 2) := bX7_centuries_0.2.2.2.2.2.2.2.1
theorem dX7_centuries_15 : decode cX7_centuries 15 = .ok (.invokestatic 59, 3) := bX7_centuries_0.2.2.2.2.2.2.2.2.1
theorem dX7_centuries_18 : decode cX7_centuries 18 = .ok (.ifCond .ne 8, 3) := bX7_centuries_0.2.2.2.2.2.2.2.2.2.1
theorem dX7_centuries_21 : decode cX7_centuries 21 = .ok (.aload_n 0, 1) := bX7_centuries_0.2.2.2.2.2.2.2.2.2.2.1
theorem dX7_centuries_22 : decode cX7_centuries 22 = .ok (.invokevirtual 63, 3) := bX7_centuries_0.2.2.2.2.2.2.2.2.2.2.2.1
theorem dX7_centuries_25 : decode cX7_centuries 25 = .ok (.ireturn, 1) := bX7_centuries_0.2.2.2.2.2.2.2.2.2.2.2.2.1
theorem dX7_centuries_26 : decode cX7_centuries 26 = .ok (.aload_n 0, 1) := bX7_centuries_0.2.2.2.2.2.2.2.2.2.2.2.2.2.1
theorem dX7_centuries_27 : decode cX7_centuries 27 = .ok (.getfield 44, 3) := bX7_centuries_0.2.2.2.2.2.2.2.2.2.2.2.2.2.2.1
theorem dX7_centuries_30 : decode cX7_centuries 30 = .ok (.aload_n 0, 1) := bX7_centuries_0.2.2.2.2.2.2.2.2.2.2.2.2.2.2.2
theorem bX7_centuries_31 : (decode cX7_centuries 31 = .ok (.getfield 12, 3)) ∧ (decode cX7_centuries 34 = .ok (.getfield 117, 3)) ∧ (decode cX7_centuries 37 = .ok (.invokevirtual 165, 3)) ∧ (decode cX7_centuries 40 = .ok (.iload_n 1, 1)) ∧ (decode cX7_centuries 41 = .ok (.i2l, 1)) ∧ (decode cX7_centuries 42 = .ok (.lstore_n 3, 1)) ∧ (decode cX7_centuries 43 = .ok (.iconst 0, 1)) ∧ (decode cX7_centuries 44 = .ok (.istore 5, 2)) ∧ (decode cX7_centuries 46 = .ok (.iload 5, 2)) ∧ (decode cX7_centuries 48 = .ok (.iload_n 2, 1)) ∧ (decode cX7_centuries 49 = .ok (.if_icmp .ge 77, 3)) ∧ (decode cX7_centuries 52 = .ok (.lload_n 3, 1)) ∧ (decode cX7_centuries 53 = .ok (.ldc2_w 271, 3)) ∧ (decode cX7_centuries 56 = .ok (.lmul, 1)) ∧ (decode cX7_centuries 57 = .ok (.ldc2_w 273, 3)) ∧ (decode cX7_centuries 60 = .ok (.ladd, 1)) := by decide +kernel
theorem dX7_centuries_31 : decode cX7_centuries 31 = .ok (.getfield 12, 3) := bX7_centuries_31.1
theorem dX7_centuries_34 : decode cX7_centuries 34 = .ok (.getfield 117, 3) := bX7_centuries_31.2.1
theorem dX7_centuries_37 : decode cX7_centuries 37 = .ok (.invokevirtual 165, 3) := bX7_centuries_31.2.2.1
theorem dX7_centuries_40 : decode cX7_centuries 40 = .ok (.iload_n 1, 1) := bX7_centuries_31.2.2.2.1
theorem dX7_centuries_41 : decode cX7_centuries 41 = .ok (.i2l, 1) := bX7_centuries_31.2.2.2.2.1
theorem dX7_centuries_42 : decode cX7_centuries 42 = .ok (.lstore_n 3, 1) := bX7_centuries_31.2.2.2.2.2.1
theorem dX7_centuries_43 : decode cX7_centuries 43 = .ok (.iconst 0, 1) := bX7_centuries_31.2.2.2.2.2.2.1
theorem dX7_centuries_44 : decode cX7_centuries 44 = .ok (.istore 5, 2) := bX7_centuries_31.2.2.2.2.2.2.2.1
theorem dX7_centuries_46 : decode cX7_centuries 46 = .ok (.iload 5, 2) := bX7_centuries_31.2.2.2.2.2.2.2.2.1
theorem dX7_centuries_48 : decode cX7_centuries 48 = .ok (.iload_n 2, 1) := bX7_centuries_31.2.2.2.2.2.2.2.2.2.1
theorem dX7_centuries_49 : decode cX7_centuries 49 = .ok (.if_icmp .ge 77, 3) := bX7_centuries_31.2.2.2.2.2.2.2.2.2.2.1
theorem dX7_centuries_52 : decode cX7_centuries 52 = .ok (.lload_n 3, 1) := bX7_centuries_31.2.2.2.2.2.2.2.2.2.2.2.1
theorem dX7_centuries_53 : decode cX7_centuries 53 = .ok (.ldc2_w 271, 3) := bX7_centuries_31.2.2.2.2.2.2.2.2.2.2.2.2.1
theorem dX7_centuries_56 : decode cX7_centuries 56 = .ok (.lmul, 1) := bX7_centuries_31.2.2.2.2.2.2.2.2.2.2.2.2.2.1
theorem dX7_centuries_57 : decode cX7_centuries 57 = .ok (.ldc2_w 273, 3) := bX7_centuries_31.2.2.2.2.2.2.2.2.2.2.2.2.2.2.1
theorem dX7_centuries_60 : decode cX7_centuries 60 = .ok (.ladd, 1) := bX7_centuries_31.2.2.2.2.2.2.2.2.2.2.2.2.2.2.2
theorem bX7_centuries_61 : (decode cX7_centuries 61 = .ok (.ldc2_w 275, 3)) ∧ (decode cX7_centuries 64 = .ok (.lrem, 1)) ∧ (decode cX7_centuries 65 = .ok (.lstore_n 3, 1)) ∧ (decode cX7_centuries 66 = .ok (.lload_n 3, 1)) ∧ (decode cX7_centuries 67 = .ok (.ldc2_w 277, 3)) ∧ (decode cX7_centuries 70 = .ok (.ldiv, 1)) ∧ (decode cX7_centuries 71 = .ok (.ldc2_w 279, 3)) ∧ (decode cX7_centuries 74 = .ok (.lrem, 1)) ∧ (decode cX7_centuries 75 = .ok (.l2i, 1)) ∧ (decode cX7_centuries 76 = .ok (.istore 6, 2)) ∧ (decode cX7_centuries 78 = .ok (.lload_n 3, 1)) ∧ (decode cX7_centuries 79 = .ok (.ldc2_w 281, 3)) ∧ (decode cX7_centuries 82 = .ok (.ldiv, 1)) ∧ (decode cX7_centuries 83 = .ok (.ldc2_w 279, 3)) ∧ (decode cX7_centuries 86 = .ok (.lrem, 1)) ∧ (decode cX7_centuries 87 = .ok (.l2i, 1)) := by decide +kernel
theorem dX7_centuries_61 : decode cX7_centuries 61 = .ok (.ldc2_w 275, 3) := bX7_centuries_61.1
theorem dX7_centuries_64 : decode cX7_centuries 64 = .ok (.lrem, 1) := bX7_centuries_61.2.1
theorem dX7_centuries_65 : decode cX7_centuries 65 = .ok (.lstore_n 3, 1) := bX7_centuries_61.2.2.1
theorem dX7_centuries_66 : decode cX7_centuries 66 = .ok (.lload_n 3, 1) := bX7_centuries_61.2.2.2.1
theorem dX7_centuries_67 : decode cX7_centuries 67 = .ok (.ldc2_w 277, 3) := bX7_centuries_61.2.2.2.2.1
theorem dX7_centuries_70 : decode cX7_centuries 70 = .ok (.ldiv, 1) := bX7_centuries_61.2.2.2.2.2.1
theorem dX7_centuries_71 : decode cX7_centuries 71 = .ok (.ldc2_w 279, 3) := bX7_centuries_61.2.2.2.2.2.2.1
theorem dX7_centuries_74 : decode cX7_centuries 74 = .ok (.lrem, 1) := bX7_centuries_61.2.2.2.2.2.2.2.1
theorem dX7_centuries_75 : decode cX7_centuries 75 = .ok (.l2i, 1) := bX7_centuries_61.2.2.2.2.2.2.2.2.1
theorem dX7_centuries_76 : decode cX7_centuries 76 = .ok (.istore 6, 2) := bX7_centuries_61.2.2.2.2.2.2.2.2.2.1
theorem dX7_centuries_78 : decode cX7_centuries 78 = .ok (.lload_n 3, 1) := bX7_centuries_61.2.2.2.2.2.2.2.2.2.2.1
theorem dX7_centuries_79 : decode cX7_centuries 79 = .ok (.ldc2_w 281, 3) := bX7_centuries_61.2.2.2.2.2.2.2.2.2.2.2.1
theorem dX7_centuries_82 : decode cX7_centuries 82 = .ok (.ldiv, 1) := bX7_centuries_61.2.2.2.2.2.2.2.2.2.2.2.2.1
theorem dX7_centuries_83 : decode cX7_centuries 83 = .ok (.ldc2_w 279, 3) := bX7_centuries_61.2.2.2.2.2.2.2.2.2.2.2.2.2.1
theorem dX7_centuries_86 : decode cX7_centuries 86 = .ok (.lrem, 1) := bX7_centuries_61.2.2.2.2.2.2.2.2.2.2.2.2.2.2.1
theorem dX7_centuries_87 : decode cX7_centuries 87 = .ok (.l2i, 1) := bX7_centuries_61.2.2.2.2.2.2.2.2.2.2.2.2.2.2.2
theorem bX7_centuries_88 : (decode cX7_centuries 88 = .ok (.istore 7, 2)) ∧ (decode cX7_centuries 90 = .ok (.aload_n 0, 1)) ∧ (decode cX7_centuries 91 = .ok (.getfield 12, 3)) ∧ (decode cX7_centuries 94 = .ok (.aload_n 0, 1)) ∧ (decode cX7_centuries 95 = .ok (.getfield 44, 3)) ∧ (decode cX7_centuries 98 = .ok (.iload 6, 2)) ∧ (decode cX7_centuries 100 = .ok (.iload 7, 2)) ∧ (decode cX7_centuries 102 = .ok (.invokevirtual 283, 3)) ∧ (decode cX7_centuries 105 = .ok (.aload_n 0, 1)) ∧ (decode cX7_centuries 106 = .ok (.getfield 12, 3)) ∧ (decode cX7_centuries 109 = .ok (.aload_n 0, 1)) ∧ (decode cX7_centuries 110 = .ok (.getfield 44, 3)) ∧ (decode cX7_centuries 113 = .ok (.iconst 1, 1)) ∧ (decode cX7_centuries 114 = .ok (.sipush 1059, 3)) ∧ (decode cX7_centuries 117 = .ok (.invokevirtual 130, 3)) ∧ (decode cX7_centuries 120 = .ok (.iinc 5 1, 3)) := by decide +kernel
theorem dX7_centuries_88 : decode cX7_centuries 88 = .ok (.istore 7, 2) := bX7_centuries_88.1
theorem dX7_centuries_90 : decode cX7_centuries 90 = .ok (.aload_n 0, 1) := bX7_centuries_88.2.1
theorem dX7_centuries_91 : decode cX7_centuries 91 = .ok (.getfield 12, 3) := bX7_centuries_88.2.2.1
theorem dX7_centuries_94 : decode cX7_centuries 94 = .ok (.aload_n 0, 1) := bX7_centuries_88.2.2.2.1
theorem dX7_centuries_95 : decode cX7_centuries 95 = .ok (.getfield 44, 3) := bX7_centuries_88.2.2.2.2.1
theorem dX7_centuries_98 : decode cX7_centuries 98 = .ok (.iload 6, 2) := bX7_centuries_88.2.2.2.2.2.1
theorem dX7_centuries_100 : decode cX7_centuries 100 = .ok (.iload 7, 2) := bX7_centuries_88.2.2.2.2.2.2.1
theorem dX7_centuries_102 : decode cX7_centuries 102 = .ok (.invokevirtual 283, 3) := bX7_centuries_88.2.2.2.2.2.2.2.1
theorem dX7_centuries_105 : decode cX7_centuries 105 = .ok (.aload_n 0, 1) := bX7_centuries_88.2.2.2.2.2.2.2.2.1
theorem dX7_centuries_106 : decode cX7_centuries 106 = .ok (.getfield 12, 3) := bX7_centuries_88.2.2.2.2.2.2.2.2.2.1
theorem dX7_centuries_109 : decode cX7_centuries 109 = .ok (.aload_n 0, 1) := bX7_centuries_88.2.2.2.2.2.2.2.2.2.2.1
theorem dX7_centuries_110 : decode cX7_centuries 110 = .ok (.getfield 44, 3) := bX7_centuries_88.2.2.2.2.2.2.2.2.2.2.2.1
theorem dX7_centuries_113 : decode cX7_centuries 113 = .ok (.iconst 1, 1) := bX7_centuries_88.2.2.2.2.2.2.2.2.2.2.2.2.1
theorem dX7_centuries_114 : decode cX7_centuries 114 = .ok (.sipush 1059, 3) := bX7_centuries_88.2.2.2.2.2.2.2.2.2.2.2.2.2.1
theorem dX7_centuries_117 : decode cX7_centuries 117 = .ok (.invokevirtual 130, 3) := bX7_centuries_88.2.2.2.2.2.2.2.2.2.2.2.2.2.2.1
theorem dX7_centuries_120 : decode cX7_centuries 120 = .ok (.iinc 5 1, 3) := bX7_centuries_88.2.2.2.2.2.2.2.2.2.2.2.2.2.2.2
theorem bX7_centuries_123 : (decode cX7_centuries 123 = .ok (.goto (-77), 3)) ∧ (decode cX7_centuries 126 = .ok (.aload_n 0, 1)) ∧ (decode cX7_centuries 127 = .ok (.getfield 44, 3)) ∧ (decode cX7_centuries 130 = .ok (.invokevirtual 134, 3)) ∧ (decode cX7_centuries 133 = .ok (.ireturn, 1)) := by decide +kernel
theorem dX7_centuries_123 : decode cX7_centuries 123 = .ok (.goto (-77), 3) := bX7_centuries_123.1
theorem dX7_centuries_126 : decode cX7_centuries 126 = .ok (.aload_n 0, 1) := bX7_centuries_123.2.1
theorem dX7_centuries_127 : decode cX7_centuries 127 = .ok (.getfield 44, 3) := bX7_centuries_123.2.2.1
theorem dX7_centuries_130 : decode cX7_centuries 130 = .ok (.invokevirtual 134, 3) := bX7_centuries_123.2.2.2.1
theorem dX7_centuries_133 : decode cX7_centuries 133 = .ok (.ireturn, 1) := bX7_centuries_123.2.2.2.2
theorem bX7_part_0 : (decode cX7_part 0 = .ok (.iload_n 1, 1)) ∧ (decode cX7_part 1 = .ok (.iconst 0, 1)) ∧ (decode cX7_part 2 = .ok (.iconst 1, 1)) ∧ (decode cX7_part 3 = .ok (.invokestatic 59, 3)) ∧ (decode cX7_part 6 = .ok (.ifCond .ne 9, 3)) ∧ (decode cX7_part 9 = .ok (.aload_n 0, 1)) ∧ (decode cX7_part 10 = .ok (.invokevirtual 63, 3)) ∧ (decode cX7_part 13 = .ok (.i2l, 1)) ∧ (decode cX7_part 14 = .ok (.lreturn, 1)) ∧ (decode cX7_part 15 = .ok (.iload_n 1, 1)) ∧ (decode cX7_part 16 = .ok (.ifCond .ne 10, 3)) ∧ (decode cX7_part 19 = .ok (.aload_n 0, 1)) ∧ (decode cX7_part 20 = .ok (.getfield 286, 3)) ∧ (decode cX7_part 23 = .ok (.goto 7, 3)) ∧ (decode cX7_part 26 = .ok (.aload_n 0, 1)) ∧ (decode cX7_part 27 = .ok (.getfield 48, 3)) := by decide +kernel
theorem dX7_part_0 : decode cX7_part 0 = .ok (.iload_n 1, 1) := bX7_part_0.1
theorem dX7_part_1 : decode cX7_part 1 = .ok (.iconst 0, 1) := bX7_part_0.2.1
theorem dX7_part_2 : decode cX7_part 2 = .ok (.iconst 1, 1) := bX7_part_0.2.2.1
theorem dX7_part_3 : decode cX7_part 3 = .ok (.invokestatic 59, 3) := bX7_part_0.2.2.2.1
theorem dX7_part_6 : decode cX7_part 6 = .ok (.ifCond .ne 9, 3) := bX7_part_0.2.2.2.2.1
theorem dX7_part_9 : decode cX7_part 9 = .ok (.aload_n 0, 1) := bX7_part_0.2.2.2.2.2.1
theorem dX7_part_10 : decode cX7_part 10 = .ok (.invokevirtual 63, 3) := bX7_part_0.2.2.2.2.2.2.1
theorem dX7_part_13 : decode cX7_part 13 = .ok (.i2l, 1) := bX7_part_0.2.2.2.2.2.2.2.1
theorem dX7_part_14 : decode cX7_part 14 = .ok (.lreturn, 1) := bX7_part_0.2.2.2.2.2.2.2.2.1
theorem dX7_part_15 : decode cX7_part 15 = .ok (.iload_n 1, 1) := bX7_part_0.2.2.2.2.2.2.2.2.2.1
theorem dX7_part_16 : decode cX7_part 16 = .ok (.ifCond .ne 10, 3) := bX7_part_0.2.2.2.2.2.2.2.2.2.2.1
theorem dX7_part_19 : decode cX7_part 19 = .ok (.aload_n 0, 1) := bX7_part_0.2.2.2.2.2.2.2.2.2.2.2.1
theorem dX7_part_20 : decode cX7_part 20 = .ok (.getfield 286, 3) := bX7_part_0.2.2.2.2.2.2.2.2.2.2.2.2.1
theorem dX7_part_23 : decode cX7_part 23 = .ok (.goto 7, 3) := bX7_part_0.2.2.2.2.2.2.2.2.2.2.2.2.2.1
theorem dX7_part_26 : decode cX7_part 26 = .ok (.aload_n 0, 1) := bX7_part_0.2.2.2.2.2.2.2.2.2.2.2.2.2.2.1
theorem dX7_part_27 : decode cX7_part 27 = .ok (.getfield 48, 3) := bX7_part_0.2.2.2.2.2.2.2.2.2.2.2.2.2.2.2
theorem dX7_part_30 : decode cX7_part 30 = .ok (.lreturn, 1) := by decide +kernel
theorem bX7_image_0 : (decode cX7_image 0 = .ok (.iload_n 1, 1)) ∧ (decode cX7_image 1 = .ok (.iconst 0, 1)) ∧ (decode cX7_image 2 = .ok (.iconst 1, 1)) ∧ (decode cX7_image 3 = .ok (.invokestatic 59, 3)) ∧ (decode cX7_image 6 = .ok (.ifCond .ne 8, 3)) ∧ (decode cX7_image 9 = .ok (.aload_n 0, 1)) ∧ (decode cX7_image 10 = .ok (.invokevirtual 63, 3)) ∧ (decode cX7_image 13 = .ok (.ireturn, 1)) ∧ (decode cX7_image 14 = .ok (.aload_n 0, 1)) ∧ (decode cX7_image 15 = .ok (.getfield 23, 3)) ∧ (decode cX7_image 18 = .ok (.iload_n 1, 1)) ∧ (decode cX7_image 19 = .ok (.aaload, 1)) ∧ (decode cX7_image 20 = .ok (.aload_n 0, 1)) ∧ (decode cX7_image 21 = .ok (.getfield 12, 3)) ∧ (decode cX7_image 24 = .ok (.invokevirtual 94, 3)) ∧ (decode cX7_image 27 = .ok (.aload_n 0, 1)) := by decide +kernel
theorem dX7_image_0 : decode cX7_image 0 = .ok (.iload_n 1, 1) := bX7_image_0.1
theorem dX7_image_1 : decode cX7_image 1 = .ok (.iconst 0, 1) := bX7_image_0.2.1
theorem dX7_image_2 : decode cX7_image 2 = .ok (.iconst 1, 1) := bX7_image_0.2.2.1
theorem dX7_image_3 : decode cX7_image 3 = .ok (.invokestatic 59, 3) := bX7_image_0.2.2.2.1
theorem dX7_image_6 : decode cX7_image 6 = .ok (.ifCond .ne 8, 3) := bX7_image_0.2.2.2.2.1
theorem dX7_image_9 : decode cX7_image 9 = .ok (.aload_n 0, 1) := bX7_image_0.2.2.2.2.2.1
theorem dX7_image_10 : decode cX7_image 10 = .ok (.invokevirtual 63, 3) := bX7_image_0.2.2.2.2.2.2.1
theorem dX7_image_13 : decode cX7_image 13 = .ok (.ireturn, 1) := bX7_image_0.2.2.2.2.2.2.2.1
theorem dX7_image_14 : decode cX7_image 14 = .ok (.aload_n 0, 1) := bX7_image_0.2.2.2.2.2.2.2.2.1
theorem dX7_image_15 : decode cX7_image 15 = .ok (.getfield 23, 3) := bX7_image_0.2.2.2.2.2.2.2.2.2.1
theorem dX7_image_18 : decode cX7_image 18 = .ok (.iload_n 1, 1) := bX7_image_0.2.2.2.2.2.2.2.2.2.2.1
theorem dX7_image_19 : decode cX7_image 19 = .ok (.aaload, 1) := bX7_image_0.2.2.2.2.2.2.2.2.2.2.2.1
theorem dX7_image_20 : decode cX7_image 20 = .ok (.aload_n 0, 1) := bX7_image_0.2.2.2.2.2.2.2.2.2.2.2.2.1
theorem dX7_image_21 : decode cX7_image 21 = .ok (.getfield 12, 3) := bX7_image_0.2.2.2.2.2.2.2.2.2.2.2.2.2.1
theorem dX7_image_24 : decode cX7_image 24 = .ok (.invokevirtual 94, 3) := bX7_image_0.2.2.2.2.2.2.2.2.2.2.2.2.2.2.1
theorem dX7_image_27 : decode cX7_image 27 = .ok (.aload_n 0, 1) := bX7_image_0.2.2.2.2.2.2.2.2.2.2.2.2.2.2.2
theorem bX7_image_28 : (decode cX7_image 28 = .ok (.dup, 1)) ∧ (decode cX7_image 29 = .ok (.getfield 289, 3)) ∧ (decode cX7_image 32 = .ok (.iconst 1, 1)) ∧ (decode cX7_image 33 = .ok (.iload_n 1, 1)) ∧ (decode cX7_image 34 = .ok (.ishl, 1)) ∧ (decode cX7_image 35 = .ok (.ior, 1)) ∧ (decode cX7_image 36 = .ok (.putfield 289, 3)) ∧ (decode cX7_image 39 = .ok (.iconst 1, 1)) ∧ (decode cX7_image 40 = .ok (.ireturn, 1)) := by decide +kernel
theorem dX7_image_28 : decode cX7_image 28 = .ok (.dup, 1) := bX7_image_28.1
theorem dX7_image_29 : decode cX7_image 29 = .ok (.getfield 289, 3) := bX7_image_28.2.1
theorem dX7_image_32 : decode cX7_image 32 = .ok (.iconst 1, 1) := bX7_image_28.2.2.1
theorem dX7_image_33 : decode cX7_image 33 = .ok (.iload_n 1, 1) := bX7_image_28.2.2.2.1
theorem dX7_image_34 : decode cX7_image 34 = .ok (.ishl, 1) := bX7_image_28.2.2.2.2.1
theorem dX7_image_35 : decode cX7_image 35 = .ok (.ior, 1) := bX7_image_28.2.2.2.2.2.1
theorem dX7_image_36 : decode cX7_image 36 = .ok (.putfield 289, 3) := bX7_image_28.2.2.2.2.2.2.1
theorem dX7_image_39 : decode cX7_image 39 = .ok (.iconst 1, 1) := bX7_image_28.2.2.2.2.2.2.2.1
theorem dX7_image_40 : decode cX7_image 40 = .ok (.ireturn, 1) := bX7_image_28.2.2.2.2.2.2.2.2
theorem bX7_from_0 : (decode cX7_from 0 = .ok (.iload_n 1, 1)) ∧ (decode cX7_from 1 = .ok (.iconst 0, 1)) ∧ (decode cX7_from 2 = .ok (.iconst 1, 1)) ∧ (decode cX7_from 3 = .ok (.invokestatic 59, 3)) ∧ (decode cX7_from 6 = .ok (.ifCond .ne 8, 3)) ∧ (decode cX7_from 9 = .ok (.aload_n 0, 1)) ∧ (decode cX7_from 10 = .ok (.invokevirtual 63, 3)) ∧ (decode cX7_from 13 = .ok (.ireturn, 1)) ∧ (decode cX7_from 14 = .ok (.aload_n 0, 1)) ∧ (decode cX7_from 15 = .ok (.getfield 289, 3)) ∧ (decode cX7_from 18 = .ok (.iload_n 1, 1)) ∧ (decode cX7_from 19 = .ok (.ishr, 1)) ∧ (decode cX7_from 20 = .ok (.iconst 1, 1)) ∧ (decode cX7_from 21 = .ok (.iand, 1)) ∧ (decode cX7_from 22 = .ok (.ifCond .ne 8, 3)) ∧ (decode cX7_from 25 = .ok (.aload_n 0, 1)) := by decide +kernel
theorem dX7_from_0 : decode cX7_from 0 = .ok (.iload_n 1, 1) := bX7_from_0.1
theorem dX7_from_1 : decode cX7_from 1 = .ok (.iconst 0, 1) := bX7_from_0.2.1
theorem dX7_from_2 : decode cX7_from 2 = .ok (.iconst 1, 1) := bX7_from_0.2.2.1
theorem dX7_from_3 : decode cX7_from 3 = .ok (.invokestatic 59, 3) := bX7_from_0.2.2.2.1
theorem dX7_from_6 : decode cX7_from 6 = .ok (.ifCond .ne 8, 3) := bX7_from_0.2.2.2.2.1
theorem dX7_from_9 : decode cX7_from 9 = .ok (.aload_n 0, 1) := bX7_from_0.2.2.2.2.2.1
theorem dX7_from_10 : decode cX7_from 10 = .ok (.invokevirtual 63, 3) := bX7_from_0.2.2.2.2.2.2.1
theorem dX7_from_13 : decode cX7_from 13 = .ok (.ireturn, 1) := bX7_from_0.2.2.2.2.2.2.2.1
theorem dX7_from_14 : decode cX7_from 14 = .ok (.aload_n 0, 1) := bX7_from_0.2.2.2.2.2.2.2.2.1
theorem dX7_from_15 : decode cX7_from 15 = .ok (.getfield 289, 3) := bX7_from_0.2.2.2.2.2.2.2.2.2.1
theorem dX7_from_18 : decode cX7_from 18 = .ok (.iload_n 1, 1) := bX7_from_0.2.2.2.2.2.2.2.2.2.2.1
theorem dX7_from_19 : decode cX7_from 19 = .ok (.ishr, 1) := bX7_from_0.2.2.2.2.2.2.2.2.2.2.2.1
theorem dX7_from_20 : decode cX7_from 20 = .ok (.iconst 1, 1) := bX7_from_0.2.2.2.2.2.2.2.2.2.2.2.2.1
theorem dX7_from_21 : decode cX7_from 21 = .ok (.iand, 1) := bX7_from_0.2.2.2.2.2.2.2.2.2.2.2.2.2.1
theorem dX7_from_22 : decode cX7_from 22 = .ok (.ifCond .ne 8, 3) := bX7_from_0.2.2.2.2.2.2.2.2.2.2.2.2.2.2.1
theorem dX7_from_25 : decode cX7_from 25 = .ok (.aload_n 0, 1) := bX7_from_0.2.2.2.2.2.2.2.2.2.2.2.2.2.2.2
theorem bX7_from_26 : (decode cX7_from 26 = .ok (.invokevirtual 111, 3)) ∧ (decode cX7_from 29 = .ok (.ireturn, 1)) ∧ (decode cX7_from 30 = .ok (.aload_n 0, 1)) ∧ (decode cX7_from 31 = .ok (.getfield 12, 3)) ∧ (decode cX7_from 34 = .ok (.aload_n 0, 1)) ∧ (decode cX7_from 35 = .ok (.getfield 23, 3)) ∧ (decode cX7_from 38 = .ok (.iload_n 1, 1)) ∧ (decode cX7_from 39 = .ok (.aaload, 1)) ∧ (decode cX7_from 40 = .ok (.invokevirtual 94, 3)) ∧ (decode cX7_from 43 = .ok (.iconst 1, 1)) ∧ (decode cX7_from 44 = .ok (.ireturn, 1)) := by decide +kernel
theorem dX7_from_26 : decode cX7_from 26 = .ok (.invokevirtual 111, 3) := bX7_from_26.1
theorem dX7_from_29 : decode cX7_from 29 = .ok (.ireturn, 1) := bX7_from_26.2.1
theorem dX7_from_30 : decode cX7_from 30 = .ok (.aload_n 0, 1) := bX7_from_26.2.2.1
theorem dX7_from_31 : decode cX7_from 31 = .ok (.getfield 12, 3) := bX7_from_26.2.2.2.1
theorem dX7_from_34 : decode cX7_from 34 = .ok (.aload_n 0, 1) := bX7_from_26.2.2.2.2.1
theorem dX7_from_35 : decode cX7_from 35 = .ok (.getfield 23, 3) := bX7_from_26.2.2.2.2.2.1
theorem dX7_from_38 : decode cX7_from 38 = .ok (.iload_n 1, 1) := bX7_from_26.2.2.2.2.2.2.1
theorem dX7_from_39 : decode cX7_from 39 = .ok (.aaload, 1) := bX7_from_26.2.2.2.2.2.2.2.1
theorem dX7_from_40 : decode cX7_from 40 = .ok (.invokevirtual 94, 3) := bX7_from_26.2.2.2.2.2.2.2.2.1
theorem dX7_from_43 : decode cX7_from 43 = .ok (.iconst 1, 1) := bX7_from_26.2.2.2.2.2.2.2.2.2.1
theorem dX7_from_44 : decode cX7_from 44 = .ok (.ireturn, 1) := bX7_from_26.2.2.2.2.2.2.2.2.2.2
theorem bX7_status_0 : (decode cX7_status 0 = .ok (.iload_n 1, 1)) ∧ (decode cX7_status 1 = .ok (.tableswitch 42 0 2 #[27, 32, 37], 27)) ∧ (decode cX7_status 28 = .ok (.aload_n 0, 1)) ∧ (decode cX7_status 29 = .ok (.getfield 292, 3)) ∧ (decode cX7_status 32 = .ok (.ireturn, 1)) ∧ (decode cX7_status 33 = .ok (.aload_n 0, 1)) ∧ (decode cX7_status 34 = .ok (.getfield 295, 3)) ∧ (decode cX7_status 37 = .ok (.ireturn, 1)) ∧ (decode cX7_status 38 = .ok (.aload_n 0, 1)) ∧ (decode cX7_status 39 = .ok (.getfield 298, 3)) ∧ (decode cX7_status 42 = .ok (.ireturn, 1)) ∧ (decode cX7_status 43 = .ok (.aload_n 0, 1)) ∧ (decode cX7_status 44 = .ok (.invokevirtual 63, 3)) ∧ (decode cX7_status 47 = .ok (.pop, 1)) ∧ (decode cX7_status 48 = .ok (.iconst (-1), 1)) ∧ (decode cX7_status 49 = .ok (.ireturn, 1)) := by decide +kernel
theorem dX7_status_0 : decode cX7_status 0 = .ok (.iload_n 1, 1) := bX7_status_0.1
theorem dX7_status_1 : decode cX7_status 1 = .ok (.tableswitch 42 0 2 #[27, 32, 37], 27) := bX7_status_0.2.1
theorem dX7_status_28 : decode cX7_status 28 = .ok (.aload_n 0, 1) := bX7_status_0.2.2.1
theorem dX7_status_29 : decode cX7_status 29 = .ok (.getfield 292, 3) := bX7_status_0.2.2.2.1
theorem dX7_status_32 : decode cX7_status 32 = .ok (.ireturn, 1) := bX7_status_0.2.2.2.2.1
theorem dX7_status_33 : decode cX7_status 33 = .ok (.aload_n 0, 1) := bX7_status_0.2.2.2.2.2.1
theorem dX7_status_34 : decode cX7_status 34 = .ok (.getfield 295, 3) := bX7_status_0.2.2.2.2.2.2.1
theorem dX7_status_37 : decode cX7_status 37 = .ok (.ireturn, 1) := bX7_status_0.2.2.2.2.2.2.2.1
theorem dX7_status_38 : decode cX7_status 38 = .ok (.aload_n 0, 1) := bX7_status_0.2.2.2.2.2.2.2.2.1
theorem dX7_status_39 : decode cX7_status 39 = .ok (.getfield 298, 3) := bX7_status_0.2.2.2.2.2.2.2.2.2.1
theorem dX7_status_42 : decode cX7_status 42 = .ok (.ireturn, 1) := bX7_status_0.2.2.2.2.2.2.2.2.2.2.1
theorem dX7_status_43 : decode cX7_status 43 = .ok (.aload_n 0, 1) := bX7_status_0.2.2.2.2.2.2.2.2.2.2.2.1
theorem dX7_status_44 : decode cX7_status 44 = .ok (.invokevirtual 63, 3) := bX7_status_0.2.2.2.2.2.2.2.2.2.2.2.2.1
theorem dX7_status_47 : decode cX7_status 47 = .ok (.pop, 1) := bX7_status_0.2.2.2.2.2.2.2.2.2.2.2.2.2.1
theorem dX7_status_48 : decode cX7_status 48 = .ok (.iconst (-1), 1) := bX7_status_0.2.2.2.2.2.2.2.2.2.2.2.2.2.2.1
theorem dX7_status_49 : decode cX7_status 49 = .ok (.ireturn, 1) := bX7_status_0.2.2.2.2.2.2.2.2.2.2.2.2.2.2.2
theorem bX7_count_0 : (decode cX7_count 0 = .ok (.iload_n 1, 1)) ∧ (decode cX7_count 1 = .ok (.iconst 0, 1)) ∧ (decode cX7_count 2 = .ok (.bipush 9, 2)) ∧ (decode cX7_count 4 = .ok (.invokestatic 59, 3)) ∧ (decode cX7_count 7 = .ok (.ifCond .eq 11, 3)) ∧ (decode cX7_count 10 = .ok (.aload_n 0, 1)) ∧ (decode cX7_count 11 = .ok (.iload_n 1, 1)) ∧ (decode cX7_count 12 = .ok (.invokevirtual 301, 3)) ∧ (decode cX7_count 15 = .ok (.goto 7, 3)) ∧ (decode cX7_count 18 = .ok (.aload_n 0, 1)) ∧ (decode cX7_count 19 = .ok (.invokevirtual 63, 3)) ∧ (decode cX7_count 22 = .ok (.ireturn, 1)) := by decide +kernel
theorem dX7_count_0 : decode cX7_count 0 = .ok (.iload_n 1, 1) := bX7_count_0.1
theorem dX7_count_1 : decode cX7_count 1 = .ok (.iconst 0, 1) := bX7_count_0.2.1
theorem dX7_count_2 : decode cX7_count 2 = .ok (.bipush 9, 2) := bX7_count_0.2.2.1
theorem dX7_count_4 : decode cX7_count 4 = .ok (.invokestatic 59, 3) := bX7_count_0.2.2.2.1
theorem dX7_count_7 : decode cX7_count 7 = .ok (.ifCond .eq 11, 3) := bX7_count_0.2.2.2.2.1
theorem dX7_count_10 : decode cX7_count 10 = .ok (.aload_n 0, 1) := bX7_count_0.2.2.2.2.2.1
theorem dX7_count_11 : decode cX7_count 11 = .ok (.iload_n 1, 1) := bX7_count_0.2.2.2.2.2.2.1
theorem dX7_count_12 : decode cX7_count 12 = .ok (.invokevirtual 301, 3) := bX7_count_0.2.2.2.2.2.2.2.1
theorem dX7_count_15 : decode cX7_count 15 = .ok (.goto 7, 3) := bX7_count_0.2.2.2.2.2.2.2.2.1
theorem dX7_count_18 : decode cX7_count 18 = .ok (.aload_n 0, 1) := bX7_count_0.2.2.2.2.2.2.2.2.2.1
theorem dX7_count_19 : decode cX7_count 19 = .ok (.invokevirtual 63, 3) := bX7_count_0.2.2.2.2.2.2.2.2.2.2.1
theorem dX7_count_22 : decode cX7_count 22 = .ok (.ireturn, 1) := bX7_count_0.2.2.2.2.2.2.2.2.2.2.2
theorem bX7_digest_0 : (decode cX7_digest 0 = .ok (.ldc2_w 304, 3)) ∧ (decode cX7_digest 3 = .ok (.lstore_n 1, 1)) ∧ (decode cX7_digest 4 = .ok (.iconst 0, 1)) ∧ (decode cX7_digest 5 = .ok (.istore_n 3, 1)) ∧ (decode cX7_digest 6 = .ok (.iload_n 3, 1)) ∧ (decode cX7_digest 7 = .ok (.bipush 10, 2)) ∧ (decode cX7_digest 9 = .ok (.if_icmp .ge 22, 3)) ∧ (decode cX7_digest 12 = .ok (.ldc2_w 306, 3)) ∧ (decode cX7_digest 15 = .ok (.lload_n 1, 1)) ∧ (decode cX7_digest 16 = .ok (.lmul, 1)) ∧ (decode cX7_digest 17 = .ok (.aload_n 0, 1)) ∧ (decode cX7_digest 18 = .ok (.iload_n 3, 1)) ∧ (decode cX7_digest 19 = .ok (.invokevirtual 301, 3)) ∧ (decode cX7_digest 22 = .ok (.i2l, 1)) ∧ (decode cX7_digest 23 = .ok (.ladd, 1)) ∧ (decode cX7_digest 24 = .ok (.lstore_n 1, 1)) := by decide +kernel
theorem dX7_digest_0 : decode cX7_digest 0 = .ok (.ldc2_w 304, 3) := bX7_digest_0.1
theorem dX7_digest_3 : decode cX7_digest 3 = .ok (.lstore_n 1, 1) := bX7_digest_0.2.1
theorem dX7_digest_4 : decode cX7_digest 4 = .ok (.iconst 0, 1) := bX7_digest_0.2.2.1
theorem dX7_digest_5 : decode cX7_digest 5 = .ok (.istore_n 3, 1) := bX7_digest_0.2.2.2.1
theorem dX7_digest_6 : decode cX7_digest 6 = .ok (.iload_n 3, 1) := bX7_digest_0.2.2.2.2.1
theorem dX7_digest_7 : decode cX7_digest 7 = .ok (.bipush 10, 2) := bX7_digest_0.2.2.2.2.2.1
theorem dX7_digest_9 : decode cX7_digest 9 = .ok (.if_icmp .ge 22, 3) := bX7_digest_0.2.2.2.2.2.2.1
theorem dX7_digest_12 : decode cX7_digest 12 = .ok (.ldc2_w 306, 3) := bX7_digest_0.2.2.2.2.2.2.2.1
theorem dX7_digest_15 : decode cX7_digest 15 = .ok (.lload_n 1, 1) := bX7_digest_0.2.2.2.2.2.2.2.2.1
theorem dX7_digest_16 : decode cX7_digest 16 = .ok (.lmul, 1) := bX7_digest_0.2.2.2.2.2.2.2.2.2.1
theorem dX7_digest_17 : decode cX7_digest 17 = .ok (.aload_n 0, 1) := bX7_digest_0.2.2.2.2.2.2.2.2.2.2.1
theorem dX7_digest_18 : decode cX7_digest 18 = .ok (.iload_n 3, 1) := bX7_digest_0.2.2.2.2.2.2.2.2.2.2.2.1
theorem dX7_digest_19 : decode cX7_digest 19 = .ok (.invokevirtual 301, 3) := bX7_digest_0.2.2.2.2.2.2.2.2.2.2.2.2.1
theorem dX7_digest_22 : decode cX7_digest 22 = .ok (.i2l, 1) := bX7_digest_0.2.2.2.2.2.2.2.2.2.2.2.2.2.1
theorem dX7_digest_23 : decode cX7_digest 23 = .ok (.ladd, 1) := bX7_digest_0.2.2.2.2.2.2.2.2.2.2.2.2.2.2.1
theorem dX7_digest_24 : decode cX7_digest 24 = .ok (.lstore_n 1, 1) := bX7_digest_0.2.2.2.2.2.2.2.2.2.2.2.2.2.2.2
theorem bX7_digest_25 : (decode cX7_digest 25 = .ok (.iinc 3 1, 3)) ∧ (decode cX7_digest 28 = .ok (.goto (-22), 3)) ∧ (decode cX7_digest 31 = .ok (.aload_n 0, 1)) ∧ (decode cX7_digest 32 = .ok (.getfield 12, 3)) ∧ (decode cX7_digest 35 = .ok (.lload_n 1, 1)) ∧ (decode cX7_digest 36 = .ok (.invokevirtual 308, 3)) ∧ (decode cX7_digest 39 = .ok (.lstore_n 1, 1)) ∧ (decode cX7_digest 40 = .ok (.ldc2_w 306, 3)) ∧ (decode cX7_digest 43 = .ok (.lload_n 1, 1)) ∧ (decode cX7_digest 44 = .ok (.lmul, 1)) ∧ (decode cX7_digest 45 = .ok (.aload_n 0, 1)) ∧ (decode cX7_digest 46 = .ok (.getfield 286, 3)) ∧ (decode cX7_digest 49 = .ok (.ladd, 1)) ∧ (decode cX7_digest 50 = .ok (.lstore_n 1, 1)) ∧ (decode cX7_digest 51 = .ok (.ldc2_w 306, 3)) ∧ (decode cX7_digest 54 = .ok (.lload_n 1, 1)) := by decide +kernel
theorem dX7_digest_25 : decode cX7_digest 25 = .ok (.iinc 3 1, 3) := bX7_digest_25.1
theorem dX7_digest_28 : decode cX7_digest 28 = .ok (.goto (-22), 3) := bX7_digest_25.2.1
theorem dX7_digest_31 : decode cX7_digest 31 = .ok (.aload_n 0, 1) := bX7_digest_25.2.2.1
theorem dX7_digest_32 : decode cX7_digest 32 = .ok (.getfield 12, 3) := bX7_digest_25.2.2.2.1
theorem dX7_digest_35 : decode cX7_digest 35 = .ok (.lload_n 1, 1) := bX7_digest_25.2.2.2.2.1
theorem dX7_digest_36 : decode cX7_digest 36 = .ok (.invokevirtual 308, 3) := bX7_digest_25.2.2.2.2.2.1
theorem dX7_digest_39 : decode cX7_digest 39 = .ok (.lstore_n 1, 1) := bX7_digest_25.2.2.2.2.2.2.1
theorem dX7_digest_40 : decode cX7_digest 40 = .ok (.ldc2_w 306, 3) := bX7_digest_25.2.2.2.2.2.2.2.1
theorem dX7_digest_43 : decode cX7_digest 43 = .ok (.lload_n 1, 1) := bX7_digest_25.2.2.2.2.2.2.2.2.1
theorem dX7_digest_44 : decode cX7_digest 44 = .ok (.lmul, 1) := bX7_digest_25.2.2.2.2.2.2.2.2.2.1
theorem dX7_digest_45 : decode cX7_digest 45 = .ok (.aload_n 0, 1) := bX7_digest_25.2.2.2.2.2.2.2.2.2.2.1
theorem dX7_digest_46 : decode cX7_digest 46 = .ok (.getfield 286, 3) := bX7_digest_25.2.2.2.2.2.2.2.2.2.2.2.1
theorem dX7_digest_49 : decode cX7_digest 49 = .ok (.ladd, 1) := bX7_digest_25.2.2.2.2.2.2.2.2.2.2.2.2.1
theorem dX7_digest_50 : decode cX7_digest 50 = .ok (.lstore_n 1, 1) := bX7_digest_25.2.2.2.2.2.2.2.2.2.2.2.2.2.1
theorem dX7_digest_51 : decode cX7_digest 51 = .ok (.ldc2_w 306, 3) := bX7_digest_25.2.2.2.2.2.2.2.2.2.2.2.2.2.2.1
theorem dX7_digest_54 : decode cX7_digest 54 = .ok (.lload_n 1, 1) := bX7_digest_25.2.2.2.2.2.2.2.2.2.2.2.2.2.2.2
theorem bX7_digest_55 : (decode cX7_digest 55 = .ok (.lmul, 1)) ∧ (decode cX7_digest 56 = .ok (.aload_n 0, 1)) ∧ (decode cX7_digest 57 = .ok (.getfield 48, 3)) ∧ (decode cX7_digest 60 = .ok (.ladd, 1)) ∧ (decode cX7_digest 61 = .ok (.lreturn, 1)) := by decide +kernel
theorem dX7_digest_55 : decode cX7_digest 55 = .ok (.lmul, 1) := bX7_digest_55.1
theorem dX7_digest_56 : decode cX7_digest 56 = .ok (.aload_n 0, 1) := bX7_digest_55.2.1
theorem dX7_digest_57 : decode cX7_digest 57 = .ok (.getfield 48, 3) := bX7_digest_55.2.2.1
theorem dX7_digest_60 : decode cX7_digest 60 = .ok (.ladd, 1) := bX7_digest_55.2.2.2.1
theorem dX7_digest_61 : decode cX7_digest 61 = .ok (.lreturn, 1) := bX7_digest_55.2.2.2.2
theorem bX7_howMany_0 : (decode cX7_howMany 0 = .ok (.iload_n 1, 1)) ∧ (decode cX7_howMany 1 = .ok (.tableswitch 138 0 8 #[51, 59, 70, 78, 86, 97, 108, 119, 130], 51)) ∧ (decode cX7_howMany 52 = .ok (.aload_n 0, 1)) ∧ (decode cX7_howMany 53 = .ok (.getfield 12, 3)) ∧ (decode cX7_howMany 56 = .ok (.getfield 52, 3)) ∧ (decode cX7_howMany 59 = .ok (.ireturn, 1)) ∧ (decode cX7_howMany 60 = .ok (.aload_n 0, 1)) ∧ (decode cX7_howMany 61 = .ok (.getfield 12, 3)) ∧ (decode cX7_howMany 64 = .ok (.getfield 117, 3)) ∧ (decode cX7_howMany 67 = .ok (.invokevirtual 134, 3)) ∧ (decode cX7_howMany 70 = .ok (.ireturn, 1)) ∧ (decode cX7_howMany 71 = .ok (.aload_n 0, 1)) ∧ (decode cX7_howMany 72 = .ok (.getfield 12, 3)) ∧ (decode cX7_howMany 75 = .ok (.getfield 67, 3)) ∧ (decode cX7_howMany 78 = .ok (.ireturn, 1)) ∧ (decode cX7_howMany 79 = .ok (.aload_n 0, 1)) := by decide +kernel
theorem dX7_howMany_0 : decode cX7_howMany 0 = .ok (.iload_n 1, 1) := bX7_howMany_0.1
theorem dX7_howMany_1 : decode cX7_howMany 1 = .ok (.tableswitch 138 0 8 #[51, 59, 70, 78, 86, 97, 108, 119, 130], 51) := bX7_howMany_0.2.1
theorem dX7_howMany_52 : decode cX7_howMany 52 = .ok (.aload_n 0, 1) := bX7_howMany_0.2.2.1
theorem dX7_howMany_53 : decode cX7_howMany 53 = .ok (.getfield 12, 3) := bX7_howMany_0.2.2.2.1
theorem dX7_howMany_56 : decode cX7_howMany 56 = .ok (.getfield 52, 3) := bX7_howMany_0.2.2.2.2.1
theorem dX7_howMany_59 : decode cX7_howMany 59 = .ok (.ireturn, 1) := bX7_howMany_0.2.2.2.2.2.1
theorem dX7_howMany_60 : decode cX7_howMany 60 = .ok (.aload_n 0, 1) := bX7_howMany_0.2.2.2.2.2.2.1
theorem dX7_howMany_61 : decode cX7_howMany 61 = .ok (.getfield 12, 3) := bX7_howMany_0.2.2.2.2.2.2.2.1
theorem dX7_howMany_64 : decode cX7_howMany 64 = .ok (.getfield 117, 3) := bX7_howMany_0.2.2.2.2.2.2.2.2.1
theorem dX7_howMany_67 : decode cX7_howMany 67 = .ok (.invokevirtual 134, 3) := bX7_howMany_0.2.2.2.2.2.2.2.2.2.1
theorem dX7_howMany_70 : decode cX7_howMany 70 = .ok (.ireturn, 1) := bX7_howMany_0.2.2.2.2.2.2.2.2.2.2.1
theorem dX7_howMany_71 : decode cX7_howMany 71 = .ok (.aload_n 0, 1) := bX7_howMany_0.2.2.2.2.2.2.2.2.2.2.2.1
theorem dX7_howMany_72 : decode cX7_howMany 72 = .ok (.getfield 12, 3) := bX7_howMany_0.2.2.2.2.2.2.2.2.2.2.2.2.1
theorem dX7_howMany_75 : decode cX7_howMany 75 = .ok (.getfield 67, 3) := bX7_howMany_0.2.2.2.2.2.2.2.2.2.2.2.2.2.1
theorem dX7_howMany_78 : decode cX7_howMany 78 = .ok (.ireturn, 1) := bX7_howMany_0.2.2.2.2.2.2.2.2.2.2.2.2.2.2.1
theorem dX7_howMany_79 : decode cX7_howMany 79 = .ok (.aload_n 0, 1) := bX7_howMany_0.2.2.2.2.2.2.2.2.2.2.2.2.2.2.2
theorem bX7_howMany_80 : (decode cX7_howMany 80 = .ok (.getfield 12, 3)) ∧ (decode cX7_howMany 83 = .ok (.invokevirtual 312, 3)) ∧ (decode cX7_howMany 86 = .ok (.ireturn, 1)) ∧ (decode cX7_howMany 87 = .ok (.aload_n 0, 1)) ∧ (decode cX7_howMany 88 = .ok (.getfield 12, 3)) ∧ (decode cX7_howMany 91 = .ok (.getfield 117, 3)) ∧ (decode cX7_howMany 94 = .ok (.getfield 127, 3)) ∧ (decode cX7_howMany 97 = .ok (.ireturn, 1)) ∧ (decode cX7_howMany 98 = .ok (.aload_n 0, 1)) ∧ (decode cX7_howMany 99 = .ok (.getfield 12, 3)) ∧ (decode cX7_howMany 102 = .ok (.getfield 192, 3)) ∧ (decode cX7_howMany 105 = .ok (.getfield 315, 3)) ∧ (decode cX7_howMany 108 = .ok (.ireturn, 1)) ∧ (decode cX7_howMany 109 = .ok (.aload_n 0, 1)) ∧ (decode cX7_howMany 110 = .ok (.getfield 12, 3)) ∧ (decode cX7_howMany 113 = .ok (.getfield 230, 3)) := by decide +kernel
theorem dX7_howMany_80 : decode cX7_howMany 80 = .ok (.getfield 12, 3) := bX7_howMany_80.1
theorem dX7_howMany_83 : decode cX7_howMany 83 = .ok (.invokevirtual 312, 3) := bX7_howMany_80.2.1
theorem dX7_howMany_86 : decode cX7_howMany 86 = .ok (.ireturn, 1) := bX7_howMany_80.2.2.1
theorem dX7_howMany_87 : decode cX7_howMany 87 = .ok (.aload_n 0, 1) := bX7_howMany_80.2.2.2.1
theorem dX7_howMany_88 : decode cX7_howMany 88 = .ok (.getfield 12, 3) := bX7_howMany_80.2.2.2.2.1
theorem dX7_howMany_91 : decode cX7_howMany 91 = .ok (.getfield 117, 3) := bX7_howMany_80.2.2.2.2.2.1
theorem dX7_howMany_94 : decode cX7_howMany 94 = .ok (.getfield 127, 3) := bX7_howMany_80.2.2.2.2.2.2.1
theorem dX7_howMany_97 : decode cX7_howMany 97 = .ok (.ireturn, 1) := bX7_howMany_80.2.2.2.2.2.2.2.1
theorem dX7_howMany_98 : decode cX7_howMany 98 = .ok (.aload_n 0, 1) := bX7_howMany_80.2.2.2.2.2.2.2.2.1
theorem dX7_howMany_99 : decode cX7_howMany 99 = .ok (.getfield 12, 3) := bX7_howMany_80.2.2.2.2.2.2.2.2.2.1
theorem dX7_howMany_102 : decode cX7_howMany 102 = .ok (.getfield 192, 3) := bX7_howMany_80.2.2.2.2.2.2.2.2.2.2.1
theorem dX7_howMany_105 : decode cX7_howMany 105 = .ok (.getfield 315, 3) := bX7_howMany_80.2.2.2.2.2.2.2.2.2.2.2.1
theorem dX7_howMany_108 : decode cX7_howMany 108 = .ok (.ireturn, 1) := bX7_howMany_80.2.2.2.2.2.2.2.2.2.2.2.2.1
theorem dX7_howMany_109 : decode cX7_howMany 109 = .ok (.aload_n 0, 1) := bX7_howMany_80.2.2.2.2.2.2.2.2.2.2.2.2.2.1
theorem dX7_howMany_110 : decode cX7_howMany 110 = .ok (.getfield 12, 3) := bX7_howMany_80.2.2.2.2.2.2.2.2.2.2.2.2.2.2.1
theorem dX7_howMany_113 : decode cX7_howMany 113 = .ok (.getfield 230, 3) := bX7_howMany_80.2.2.2.2.2.2.2.2.2.2.2.2.2.2.2
theorem bX7_howMany_116 : (decode cX7_howMany 116 = .ok (.getfield 315, 3)) ∧ (decode cX7_howMany 119 = .ok (.ireturn, 1)) ∧ (decode cX7_howMany 120 = .ok (.aload_n 0, 1)) ∧ (decode cX7_howMany 121 = .ok (.getfield 12, 3)) ∧ (decode cX7_howMany 124 = .ok (.getfield 233, 3)) ∧ (decode cX7_howMany 127 = .ok (.getfield 315, 3)) ∧ (decode cX7_howMany 130 = .ok (.ireturn, 1)) ∧ (decode cX7_howMany 131 = .ok (.aload_n 0, 1)) ∧ (decode cX7_howMany 132 = .ok (.getfield 12, 3)) ∧ (decode cX7_howMany 135 = .ok (.getfield 137, 3)) ∧ (decode cX7_howMany 138 = .ok (.ireturn, 1)) ∧ (decode cX7_howMany 139 = .ok (.aload_n 0, 1)) ∧ (decode cX7_howMany 140 = .ok (.getfield 19, 3)) ∧ (decode cX7_howMany 143 = .ok (.getfield 81, 3)) ∧ (decode cX7_howMany 146 = .ok (.ireturn, 1)) := by decide +kernel
theorem dX7_howMany_116 : decode cX7_howMany 116 = .ok (.getfield 315, 3) := bX7_howMany_116.1
theorem dX7_howMany_119 : decode cX7_howMany 119 = .ok (.ireturn, 1) := bX7_howMany_116.2.1
theorem dX7_howMany_120 : decode cX7_howMany 120 = .ok (.aload_n 0, 1) := bX7_howMany_116.2.2.1
theorem dX7_howMany_121 : decode cX7_howMany 121 = .ok (.getfield 12, 3) := bX7_howMany_116.2.2.2.1
theorem dX7_howMany_124 : decode cX7_howMany 124 = .ok (.getfield 233, 3) := bX7_howMany_116.2.2.2.2.1
theorem dX7_howMany_127 : decode cX7_howMany 127 = .ok (.getfield 315, 3) := bX7_howMany_116.2.2.2.2.2.1
theorem dX7_howMany_130 : decode cX7_howMany 130 = .ok (.ireturn, 1) := bX7_howMany_116.2.2.2.2.2.2.1
theorem dX7_howMany_131 : decode cX7_howMany 131 = .ok (.aload_n 0, 1) := bX7_howMany_116.2.2.2.2.2.2.2.1
theorem dX7_howMany_132 : decode cX7_howMany 132 = .ok (.getfield 12, 3) := bX7_howMany_116.2.2.2.2.2.2.2.2.1
theorem dX7_howMany_135 : decode cX7_howMany 135 = .ok (.getfield 137, 3) := bX7_howMany_116.2.2.2.2.2.2.2.2.2.1
theorem dX7_howMany_138 : decode cX7_howMany 138 = .ok (.ireturn, 1) := bX7_howMany_116.2.2.2.2.2.2.2.2.2.2.1
theorem dX7_howMany_139 : decode cX7_howMany 139 = .ok (.aload_n 0, 1) := bX7_howMany_116.2.2.2.2.2.2.2.2.2.2.2.1
theorem dX7_howMany_140 : decode cX7_howMany 140 = .ok (.getfield 19, 3) := bX7_howMany_116.2.2.2.2.2.2.2.2.2.2.2.2.1
theorem dX7_howMany_143 : decode cX7_howMany 143 = .ok (.getfield 81, 3) := bX7_howMany_116.2.2.2.2.2.2.2.2.2.2.2.2.2.1
theorem dX7_howMany_146 : decode cX7_howMany 146 = .ok (.ireturn, 1) := bX7_howMany_116.2.2.2.2.2.2.2.2.2.2.2.2.2.2
theorem bX7_bad_0 : (decode cX7_bad 0 = .ok (.aload_n 0, 1)) ∧ (decode cX7_bad 1 = .ok (.dup, 1)) ∧ (decode cX7_bad 2 = .ok (.getfield 292, 3)) ∧ (decode cX7_bad 5 = .ok (.iconst 1, 1)) ∧ (decode cX7_bad 6 = .ok (.iadd, 1)) ∧ (decode cX7_bad 7 = .ok (.putfield 292, 3)) ∧ (decode cX7_bad 10 = .ok (.bipush (-2), 2)) ∧ (decode cX7_bad 12 = .ok (.ireturn, 1)) := by decide +kernel
theorem dX7_bad_0 : decode cX7_bad 0 = .ok (.aload_n 0, 1) := bX7_bad_0.1
theorem dX7_bad_1 : decode cX7_bad 1 = .ok (.dup, 1) := bX7_bad_0.2.1
theorem dX7_bad_2 : decode cX7_bad 2 = .ok (.getfield 292, 3) := bX7_bad_0.2.2.1
theorem dX7_bad_5 : decode cX7_bad 5 = .ok (.iconst 1, 1) := bX7_bad_0.2.2.2.1
theorem dX7_bad_6 : decode cX7_bad 6 = .ok (.iadd, 1) := bX7_bad_0.2.2.2.2.1
theorem dX7_bad_7 : decode cX7_bad 7 = .ok (.putfield 292, 3) := bX7_bad_0.2.2.2.2.2.1
theorem dX7_bad_10 : decode cX7_bad 10 = .ok (.bipush (-2), 2) := bX7_bad_0.2.2.2.2.2.2.1
theorem dX7_bad_12 : decode cX7_bad 12 = .ok (.ireturn, 1) := bX7_bad_0.2.2.2.2.2.2.2
theorem bX7_no_0 : (decode cX7_no 0 = .ok (.aload_n 0, 1)) ∧ (decode cX7_no 1 = .ok (.dup, 1)) ∧ (decode cX7_no 2 = .ok (.getfield 295, 3)) ∧ (decode cX7_no 5 = .ok (.iconst 1, 1)) ∧ (decode cX7_no 6 = .ok (.iadd, 1)) ∧ (decode cX7_no 7 = .ok (.putfield 295, 3)) ∧ (decode cX7_no 10 = .ok (.bipush (-3), 2)) ∧ (decode cX7_no 12 = .ok (.ireturn, 1)) := by decide +kernel
theorem dX7_no_0 : decode cX7_no 0 = .ok (.aload_n 0, 1) := bX7_no_0.1
theorem dX7_no_1 : decode cX7_no 1 = .ok (.dup, 1) := bX7_no_0.2.1
theorem dX7_no_2 : decode cX7_no 2 = .ok (.getfield 295, 3) := bX7_no_0.2.2.1
theorem dX7_no_5 : decode cX7_no 5 = .ok (.iconst 1, 1) := bX7_no_0.2.2.2.1
theorem dX7_no_6 : decode cX7_no 6 = .ok (.iadd, 1) := bX7_no_0.2.2.2.2.1
theorem dX7_no_7 : decode cX7_no 7 = .ok (.putfield 295, 3) := bX7_no_0.2.2.2.2.2.1
theorem dX7_no_10 : decode cX7_no 10 = .ok (.bipush (-3), 2) := bX7_no_0.2.2.2.2.2.2.1
theorem dX7_no_12 : decode cX7_no 12 = .ok (.ireturn, 1) := bX7_no_0.2.2.2.2.2.2.2
theorem bX7_full_0 : (decode cX7_full 0 = .ok (.aload_n 0, 1)) ∧ (decode cX7_full 1 = .ok (.dup, 1)) ∧ (decode cX7_full 2 = .ok (.getfield 298, 3)) ∧ (decode cX7_full 5 = .ok (.iconst 1, 1)) ∧ (decode cX7_full 6 = .ok (.iadd, 1)) ∧ (decode cX7_full 7 = .ok (.putfield 298, 3)) ∧ (decode cX7_full 10 = .ok (.bipush (-4), 2)) ∧ (decode cX7_full 12 = .ok (.ireturn, 1)) := by decide +kernel
theorem dX7_full_0 : decode cX7_full 0 = .ok (.aload_n 0, 1) := bX7_full_0.1
theorem dX7_full_1 : decode cX7_full 1 = .ok (.dup, 1) := bX7_full_0.2.1
theorem dX7_full_2 : decode cX7_full 2 = .ok (.getfield 298, 3) := bX7_full_0.2.2.1
theorem dX7_full_5 : decode cX7_full 5 = .ok (.iconst 1, 1) := bX7_full_0.2.2.2.1
theorem dX7_full_6 : decode cX7_full 6 = .ok (.iadd, 1) := bX7_full_0.2.2.2.2.1
theorem dX7_full_7 : decode cX7_full 7 = .ok (.putfield 298, 3) := bX7_full_0.2.2.2.2.2.1
theorem dX7_full_10 : decode cX7_full 10 = .ok (.bipush (-4), 2) := bX7_full_0.2.2.2.2.2.2.1
theorem dX7_full_12 : decode cX7_full 12 = .ok (.ireturn, 1) := bX7_full_0.2.2.2.2.2.2.2
theorem bX7_setFraction_0 : (decode cX7_setFraction 0 = .ok (.lload_n 1, 1)) ∧ (decode cX7_setFraction 1 = .ok (.lload_n 3, 1)) ∧ (decode cX7_setFraction 2 = .ok (.invokestatic 318, 3)) ∧ (decode cX7_setFraction 5 = .ok (.lstore 5, 2)) ∧ (decode cX7_setFraction 7 = .ok (.lload 5, 2)) ∧ (decode cX7_setFraction 9 = .ok (.lconst 0, 1)) ∧ (decode cX7_setFraction 10 = .ok (.lcmp, 1)) ∧ (decode cX7_setFraction 11 = .ok (.ifCond .le 19, 3)) ∧ (decode cX7_setFraction 14 = .ok (.aload_n 0, 1)) ∧ (decode cX7_setFraction 15 = .ok (.lload_n 1, 1)) ∧ (decode cX7_setFraction 16 = .ok (.lload 5, 2)) ∧ (decode cX7_setFraction 18 = .ok (.ldiv, 1)) ∧ (decode cX7_setFraction 19 = .ok (.putfield 286, 3)) ∧ (decode cX7_setFraction 22 = .ok (.aload_n 0, 1)) ∧ (decode cX7_setFraction 23 = .ok (.lload_n 3, 1)) ∧ (decode cX7_setFraction 24 = .ok (.lload 5, 2)) := by decide +kernel
theorem dX7_setFraction_0 : decode cX7_setFraction 0 = .ok (.lload_n 1, 1) := bX7_setFraction_0.1
theorem dX7_setFraction_1 : decode cX7_setFraction 1 = .ok (.lload_n 3, 1) := bX7_setFraction_0.2.1
theorem dX7_setFraction_2 : decode cX7_setFraction 2 = .ok (.invokestatic 318, 3) := bX7_setFraction_0.2.2.1
theorem dX7_setFraction_5 : decode cX7_setFraction 5 = .ok (.lstore 5, 2) := bX7_setFraction_0.2.2.2.1
theorem dX7_setFraction_7 : decode cX7_setFraction 7 = .ok (.lload 5, 2) := bX7_setFraction_0.2.2.2.2.1
theorem dX7_setFraction_9 : decode cX7_setFraction 9 = .ok (.lconst 0, 1) := bX7_setFraction_0.2.2.2.2.2.1
theorem dX7_setFraction_10 : decode cX7_setFraction 10 = .ok (.lcmp, 1) := bX7_setFraction_0.2.2.2.2.2.2.1
theorem dX7_setFraction_11 : decode cX7_setFraction 11 = .ok (.ifCond .le 19, 3) := bX7_setFraction_0.2.2.2.2.2.2.2.1
theorem dX7_setFraction_14 : decode cX7_setFraction 14 = .ok (.aload_n 0, 1) := bX7_setFraction_0.2.2.2.2.2.2.2.2.1
theorem dX7_setFraction_15 : decode cX7_setFraction 15 = .ok (.lload_n 1, 1) := bX7_setFraction_0.2.2.2.2.2.2.2.2.2.1
theorem dX7_setFraction_16 : decode cX7_setFraction 16 = .ok (.lload 5, 2) := bX7_setFraction_0.2.2.2.2.2.2.2.2.2.2.1
theorem dX7_setFraction_18 : decode cX7_setFraction 18 = .ok (.ldiv, 1) := bX7_setFraction_0.2.2.2.2.2.2.2.2.2.2.2.1
theorem dX7_setFraction_19 : decode cX7_setFraction 19 = .ok (.putfield 286, 3) := bX7_setFraction_0.2.2.2.2.2.2.2.2.2.2.2.2.1
theorem dX7_setFraction_22 : decode cX7_setFraction 22 = .ok (.aload_n 0, 1) := bX7_setFraction_0.2.2.2.2.2.2.2.2.2.2.2.2.2.1
theorem dX7_setFraction_23 : decode cX7_setFraction 23 = .ok (.lload_n 3, 1) := bX7_setFraction_0.2.2.2.2.2.2.2.2.2.2.2.2.2.2.1
theorem dX7_setFraction_24 : decode cX7_setFraction 24 = .ok (.lload 5, 2) := bX7_setFraction_0.2.2.2.2.2.2.2.2.2.2.2.2.2.2.2
theorem bX7_setFraction_26 : (decode cX7_setFraction 26 = .ok (.ldiv, 1)) ∧ (decode cX7_setFraction 27 = .ok (.putfield 48, 3)) ∧ (decode cX7_setFraction 30 = .ok (.return_, 1)) := by decide +kernel
theorem dX7_setFraction_26 : decode cX7_setFraction 26 = .ok (.ldiv, 1) := bX7_setFraction_26.1
theorem dX7_setFraction_27 : decode cX7_setFraction 27 = .ok (.putfield 48, 3) := bX7_setFraction_26.2.1
theorem dX7_setFraction_30 : decode cX7_setFraction 30 = .ok (.return_, 1) := bX7_setFraction_26.2.2
theorem bX7_commonDivisor_0 : (decode cX7_commonDivisor 0 = .ok (.lload_n 0, 1)) ∧ (decode cX7_commonDivisor 1 = .ok (.lstore 4, 2)) ∧ (decode cX7_commonDivisor 3 = .ok (.lload_n 2, 1)) ∧ (decode cX7_commonDivisor 4 = .ok (.lstore 6, 2)) ∧ (decode cX7_commonDivisor 6 = .ok (.iconst 0, 1)) ∧ (decode cX7_commonDivisor 7 = .ok (.istore 8, 2)) ∧ (decode cX7_commonDivisor 9 = .ok (.iload 8, 2)) ∧ (decode cX7_commonDivisor 11 = .ok (.bipush 100, 2)) ∧ (decode cX7_commonDivisor 13 = .ok (.if_icmp .ge 31, 3)) ∧ (decode cX7_commonDivisor 16 = .ok (.lload 6, 2)) ∧ (decode cX7_commonDivisor 18 = .ok (.lconst 0, 1)) ∧ (decode cX7_commonDivisor 19 = .ok (.lcmp, 1)) ∧ (decode cX7_commonDivisor 20 = .ok (.ifCond .eq 24, 3)) ∧ (decode cX7_commonDivisor 23 = .ok (.lload 4, 2)) ∧ (decode cX7_commonDivisor 25 = .ok (.lload 6, 2)) ∧ (decode cX7_commonDivisor 27 = .ok (.lrem, 1)) := by decide +kernel
theorem dX7_commonDivisor_0 : decode cX7_commonDivisor 0 = .ok (.lload_n 0, 1) := bX7_commonDivisor_0.1
theorem dX7_commonDivisor_1 : decode cX7_commonDivisor 1 = .ok (.lstore 4, 2) := bX7_commonDivisor_0.2.1
theorem dX7_commonDivisor_3 : decode cX7_commonDivisor 3 = .ok (.lload_n 2, 1) := bX7_commonDivisor_0.2.2.1
theorem dX7_commonDivisor_4 : decode cX7_commonDivisor 4 = .ok (.lstore 6, 2) := bX7_commonDivisor_0.2.2.2.1
theorem dX7_commonDivisor_6 : decode cX7_commonDivisor 6 = .ok (.iconst 0, 1) := bX7_commonDivisor_0.2.2.2.2.1
theorem dX7_commonDivisor_7 : decode cX7_commonDivisor 7 = .ok (.istore 8, 2) := bX7_commonDivisor_0.2.2.2.2.2.1
theorem dX7_commonDivisor_9 : decode cX7_commonDivisor 9 = .ok (.iload 8, 2) := bX7_commonDivisor_0.2.2.2.2.2.2.1
theorem dX7_commonDivisor_11 : decode cX7_commonDivisor 11 = .ok (.bipush 100, 2) := bX7_commonDivisor_0.2.2.2.2.2.2.2.1
theorem dX7_commonDivisor_13 : decode cX7_commonDivisor 13 = .ok (.if_icmp .ge 31, 3) := bX7_commonDivisor_0.2.2.2.2.2.2.2.2.1
theorem dX7_commonDivisor_16 : decode cX7_commonDivisor 16 = .ok (.lload 6, 2) := bX7_commonDivisor_0.2.2.2.2.2.2.2.2.2.1
theorem dX7_commonDivisor_18 : decode cX7_commonDivisor 18 = .ok (.lconst 0, 1) := bX7_commonDivisor_0.2.2.2.2.2.2.2.2.2.2.1
theorem dX7_commonDivisor_19 : decode cX7_commonDivisor 19 = .ok (.lcmp, 1) := bX7_commonDivisor_0.2.2.2.2.2.2.2.2.2.2.2.1
theorem dX7_commonDivisor_20 : decode cX7_commonDivisor 20 = .ok (.ifCond .eq 24, 3) := bX7_commonDivisor_0.2.2.2.2.2.2.2.2.2.2.2.2.1
theorem dX7_commonDivisor_23 : decode cX7_commonDivisor 23 = .ok (.lload 4, 2) := bX7_commonDivisor_0.2.2.2.2.2.2.2.2.2.2.2.2.2.1
theorem dX7_commonDivisor_25 : decode cX7_commonDivisor 25 = .ok (.lload 6, 2) := bX7_commonDivisor_0.2.2.2.2.2.2.2.2.2.2.2.2.2.2.1
theorem dX7_commonDivisor_27 : decode cX7_commonDivisor 27 = .ok (.lrem, 1) := bX7_commonDivisor_0.2.2.2.2.2.2.2.2.2.2.2.2.2.2.2
theorem bX7_commonDivisor_28 : (decode cX7_commonDivisor 28 = .ok (.lstore 9, 2)) ∧ (decode cX7_commonDivisor 30 = .ok (.lload 6, 2)) ∧ (decode cX7_commonDivisor 32 = .ok (.lstore 4, 2)) ∧ (decode cX7_commonDivisor 34 = .ok (.lload 9, 2)) ∧ (decode cX7_commonDivisor 36 = .ok (.lstore 6, 2)) ∧ (decode cX7_commonDivisor 38 = .ok (.iinc 8 1, 3)) ∧ (decode cX7_commonDivisor 41 = .ok (.goto (-32), 3)) ∧ (decode cX7_commonDivisor 44 = .ok (.lload 4, 2)) ∧ (decode cX7_commonDivisor 46 = .ok (.lreturn, 1)) := by decide +kernel
theorem dX7_commonDivisor_28 : decode cX7_commonDivisor 28 = .ok (.lstore 9, 2) := bX7_commonDivisor_28.1
theorem dX7_commonDivisor_30 : decode cX7_commonDivisor 30 = .ok (.lload 6, 2) := bX7_commonDivisor_28.2.1
theorem dX7_commonDivisor_32 : decode cX7_commonDivisor 32 = .ok (.lstore 4, 2) := bX7_commonDivisor_28.2.2.1
theorem dX7_commonDivisor_34 : decode cX7_commonDivisor 34 = .ok (.lload 9, 2) := bX7_commonDivisor_28.2.2.2.1
theorem dX7_commonDivisor_36 : decode cX7_commonDivisor 36 = .ok (.lstore 6, 2) := bX7_commonDivisor_28.2.2.2.2.1
theorem dX7_commonDivisor_38 : decode cX7_commonDivisor 38 = .ok (.iinc 8 1, 3) := bX7_commonDivisor_28.2.2.2.2.2.1
theorem dX7_commonDivisor_41 : decode cX7_commonDivisor 41 = .ok (.goto (-32), 3) := bX7_commonDivisor_28.2.2.2.2.2.2.1
theorem dX7_commonDivisor_44 : decode cX7_commonDivisor 44 = .ok (.lload 4, 2) := bX7_commonDivisor_28.2.2.2.2.2.2.2.1
theorem dX7_commonDivisor_46 : decode cX7_commonDivisor 46 = .ok (.lreturn, 1) := bX7_commonDivisor_28.2.2.2.2.2.2.2.2
theorem bX7_leastBit_0 : (decode cX7_leastBit 0 = .ok (.iconst 0, 1)) ∧ (decode cX7_leastBit 1 = .ok (.istore_n 1, 1)) ∧ (decode cX7_leastBit 2 = .ok (.iload_n 1, 1)) ∧ (decode cX7_leastBit 3 = .ok (.bipush 9, 2)) ∧ (decode cX7_leastBit 5 = .ok (.if_icmp .gt 20, 3)) ∧ (decode cX7_leastBit 8 = .ok (.iload_n 0, 1)) ∧ (decode cX7_leastBit 9 = .ok (.iload_n 1, 1)) ∧ (decode cX7_leastBit 10 = .ok (.ishr, 1)) ∧ (decode cX7_leastBit 11 = .ok (.iconst 1, 1)) ∧ (decode cX7_leastBit 12 = .ok (.iand, 1)) ∧ (decode cX7_leastBit 13 = .ok (.iconst 1, 1)) ∧ (decode cX7_leastBit 14 = .ok (.if_icmp .ne 5, 3)) ∧ (decode cX7_leastBit 17 = .ok (.iload_n 1, 1)) ∧ (decode cX7_leastBit 18 = .ok (.ireturn, 1)) ∧ (decode cX7_leastBit 19 = .ok (.iinc 1 1, 3)) ∧ (decode cX7_leastBit 22 = .ok (.goto (-20), 3)) := by decide +kernel
theorem dX7_leastBit_0 : decode cX7_leastBit 0 = .ok (.iconst 0, 1) := bX7_leastBit_0.1
theorem dX7_leastBit_1 : decode cX7_leastBit 1 = .ok (.istore_n 1, 1) := bX7_leastBit_0.2.1
theorem dX7_leastBit_2 : decode cX7_leastBit 2 = .ok (.iload_n 1, 1) := bX7_leastBit_0.2.2.1
theorem dX7_leastBit_3 : decode cX7_leastBit 3 = .ok (.bipush 9, 2) := bX7_leastBit_0.2.2.2.1
theorem dX7_leastBit_5 : decode cX7_leastBit 5 = .ok (.if_icmp .gt 20, 3) := bX7_leastBit_0.2.2.2.2.1
theorem dX7_leastBit_8 : decode cX7_leastBit 8 = .ok (.iload_n 0, 1) := bX7_leastBit_0.2.2.2.2.2.1
theorem dX7_leastBit_9 : decode cX7_leastBit 9 = .ok (.iload_n 1, 1) := bX7_leastBit_0.2.2.2.2.2.2.1
theorem dX7_leastBit_10 : decode cX7_leastBit 10 = .ok (.ishr, 1) := bX7_leastBit_0.2.2.2.2.2.2.2.1
theorem dX7_leastBit_11 : decode cX7_leastBit 11 = .ok (.iconst 1, 1) := bX7_leastBit_0.2.2.2.2.2.2.2.2.1
theorem dX7_leastBit_12 : decode cX7_leastBit 12 = .ok (.iand, 1) := bX7_leastBit_0.2.2.2.2.2.2.2.2.2.1
theorem dX7_leastBit_13 : decode cX7_leastBit 13 = .ok (.iconst 1, 1) := bX7_leastBit_0.2.2.2.2.2.2.2.2.2.2.1
theorem dX7_leastBit_14 : decode cX7_leastBit 14 = .ok (.if_icmp .ne 5, 3) := bX7_leastBit_0.2.2.2.2.2.2.2.2.2.2.2.1
theorem dX7_leastBit_17 : decode cX7_leastBit 17 = .ok (.iload_n 1, 1) := bX7_leastBit_0.2.2.2.2.2.2.2.2.2.2.2.2.1
theorem dX7_leastBit_18 : decode cX7_leastBit 18 = .ok (.ireturn, 1) := bX7_leastBit_0.2.2.2.2.2.2.2.2.2.2.2.2.2.1
theorem dX7_leastBit_19 : decode cX7_leastBit 19 = .ok (.iinc 1 1, 3) := bX7_leastBit_0.2.2.2.2.2.2.2.2.2.2.2.2.2.2.1
theorem dX7_leastBit_22 : decode cX7_leastBit 22 = .ok (.goto (-20), 3) := bX7_leastBit_0.2.2.2.2.2.2.2.2.2.2.2.2.2.2.2
theorem bX7_leastBit_25 : (decode cX7_leastBit 25 = .ok (.iconst (-1), 1)) ∧ (decode cX7_leastBit 26 = .ok (.ireturn, 1)) := by decide +kernel
theorem dX7_leastBit_25 : decode cX7_leastBit 25 = .ok (.iconst (-1), 1) := bX7_leastBit_25.1
theorem dX7_leastBit_26 : decode cX7_leastBit 26 = .ok (.ireturn, 1) := bX7_leastBit_25.2
theorem bX7_greatestBit_0 : (decode cX7_greatestBit 0 = .ok (.bipush 9, 2)) ∧ (decode cX7_greatestBit 2 = .ok (.istore_n 1, 1)) ∧ (decode cX7_greatestBit 3 = .ok (.iload_n 1, 1)) ∧ (decode cX7_greatestBit 4 = .ok (.ifCond .lt 20, 3)) ∧ (decode cX7_greatestBit 7 = .ok (.iload_n 0, 1)) ∧ (decode cX7_greatestBit 8 = .ok (.iload_n 1, 1)) ∧ (decode cX7_greatestBit 9 = .ok (.ishr, 1)) ∧ (decode cX7_greatestBit 10 = .ok (.iconst 1, 1)) ∧ (decode cX7_greatestBit 11 = .ok (.iand, 1)) ∧ (decode cX7_greatestBit 12 = .ok (.iconst 1, 1)) ∧ (decode cX7_greatestBit 13 = .ok (.if_icmp .ne 5, 3)) ∧ (decode cX7_greatestBit 16 = .ok (.iload_n 1, 1)) ∧ (decode cX7_greatestBit 17 = .ok (.ireturn, 1)) ∧ (decode cX7_greatestBit 18 = .ok (.iinc 1 (-1), 3)) ∧ (decode cX7_greatestBit 21 = .ok (.goto (-18), 3)) ∧ (decode cX7_greatestBit 24 = .ok (.iconst (-1), 1)) := by decide +kernel
theorem dX7_greatestBit_0 : decode cX7_greatestBit 0 = .ok (.bipush 9, 2) := bX7_greatestBit_0.1
theorem dX7_greatestBit_2 : decode cX7_greatestBit 2 = .ok (.istore_n 1, 1) := bX7_greatestBit_0.2.1
theorem dX7_greatestBit_3 : decode cX7_greatestBit 3 = .ok (.iload_n 1, 1) := bX7_greatestBit_0.2.2.1
theorem dX7_greatestBit_4 : decode cX7_greatestBit 4 = .ok (.ifCond .lt 20, 3) := bX7_greatestBit_0.2.2.2.1
theorem dX7_greatestBit_7 : decode cX7_greatestBit 7 = .ok (.iload_n 0, 1) := bX7_greatestBit_0.2.2.2.2.1
theorem dX7_greatestBit_8 : decode cX7_greatestBit 8 = .ok (.iload_n 1, 1) := bX7_greatestBit_0.2.2.2.2.2.1
theorem dX7_greatestBit_9 : decode cX7_greatestBit 9 = .ok (.ishr, 1) := bX7_greatestBit_0.2.2.2.2.2.2.1
theorem dX7_greatestBit_10 : decode cX7_greatestBit 10 = .ok (.iconst 1, 1) := bX7_greatestBit_0.2.2.2.2.2.2.2.1
theorem dX7_greatestBit_11 : decode cX7_greatestBit 11 = .ok (.iand, 1) := bX7_greatestBit_0.2.2.2.2.2.2.2.2.1
theorem dX7_greatestBit_12 : decode cX7_greatestBit 12 = .ok (.iconst 1, 1) := bX7_greatestBit_0.2.2.2.2.2.2.2.2.2.1
theorem dX7_greatestBit_13 : decode cX7_greatestBit 13 = .ok (.if_icmp .ne 5, 3) := bX7_greatestBit_0.2.2.2.2.2.2.2.2.2.2.1
theorem dX7_greatestBit_16 : decode cX7_greatestBit 16 = .ok (.iload_n 1, 1) := bX7_greatestBit_0.2.2.2.2.2.2.2.2.2.2.2.1
theorem dX7_greatestBit_17 : decode cX7_greatestBit 17 = .ok (.ireturn, 1) := bX7_greatestBit_0.2.2.2.2.2.2.2.2.2.2.2.2.1
theorem dX7_greatestBit_18 : decode cX7_greatestBit 18 = .ok (.iinc 1 (-1), 3) := bX7_greatestBit_0.2.2.2.2.2.2.2.2.2.2.2.2.2.1
theorem dX7_greatestBit_21 : decode cX7_greatestBit 21 = .ok (.goto (-18), 3) := bX7_greatestBit_0.2.2.2.2.2.2.2.2.2.2.2.2.2.2.1
theorem dX7_greatestBit_24 : decode cX7_greatestBit 24 = .ok (.iconst (-1), 1) := bX7_greatestBit_0.2.2.2.2.2.2.2.2.2.2.2.2.2.2.2
theorem dX7_greatestBit_25 : decode cX7_greatestBit 25 = .ok (.ireturn, 1) := by decide +kernel
theorem bX7_isWithin_0 : (decode cX7_isWithin 0 = .ok (.iload_n 0, 1)) ∧ (decode cX7_isWithin 1 = .ok (.iload_n 1, 1)) ∧ (decode cX7_isWithin 2 = .ok (.if_icmp .lt 12, 3)) ∧ (decode cX7_isWithin 5 = .ok (.iload_n 0, 1)) ∧ (decode cX7_isWithin 6 = .ok (.iload_n 2, 1)) ∧ (decode cX7_isWithin 7 = .ok (.if_icmp .gt 7, 3)) ∧ (decode cX7_isWithin 10 = .ok (.iconst 1, 1)) ∧ (decode cX7_isWithin 11 = .ok (.goto 4, 3)) ∧ (decode cX7_isWithin 14 = .ok (.iconst 0, 1)) ∧ (decode cX7_isWithin 15 = .ok (.ireturn, 1)) := by decide +kernel
theorem dX7_isWithin_0 : decode cX7_isWithin 0 = .ok (.iload_n 0, 1) := bX7_isWithin_0.1
theorem dX7_isWithin_1 : decode cX7_isWithin 1 = .ok (.iload_n 1, 1) := bX7_isWithin_0.2.1
theorem dX7_isWithin_2 : decode cX7_isWithin 2 = .ok (.if_icmp .lt 12, 3) := bX7_isWithin_0.2.2.1
theorem dX7_isWithin_5 : decode cX7_isWithin 5 = .ok (.iload_n 0, 1) := bX7_isWithin_0.2.2.2.1
theorem dX7_isWithin_6 : decode cX7_isWithin 6 = .ok (.iload_n 2, 1) := bX7_isWithin_0.2.2.2.2.1
theorem dX7_isWithin_7 : decode cX7_isWithin 7 = .ok (.if_icmp .gt 7, 3) := bX7_isWithin_0.2.2.2.2.2.1
theorem dX7_isWithin_10 : decode cX7_isWithin 10 = .ok (.iconst 1, 1) := bX7_isWithin_0.2.2.2.2.2.2.1
theorem dX7_isWithin_11 : decode cX7_isWithin 11 = .ok (.goto 4, 3) := bX7_isWithin_0.2.2.2.2.2.2.2.1
theorem dX7_isWithin_14 : decode cX7_isWithin 14 = .ok (.iconst 0, 1) := bX7_isWithin_0.2.2.2.2.2.2.2.2.1
theorem dX7_isWithin_15 : decode cX7_isWithin 15 = .ok (.ireturn, 1) := bX7_isWithin_0.2.2.2.2.2.2.2.2.2
theorem bX7_isContent_0 : (decode cX7_isContent 0 = .ok (.iload_n 0, 1)) ∧ (decode cX7_isContent 1 = .ok (.iload_n 1, 1)) ∧ (decode cX7_isContent 2 = .ok (.iload_n 2, 1)) ∧ (decode cX7_isContent 3 = .ok (.iload_n 3, 1)) ∧ (decode cX7_isContent 4 = .ok (.iload 4, 2)) ∧ (decode cX7_isContent 6 = .ok (.invokestatic 322, 3)) ∧ (decode cX7_isContent 9 = .ok (.iload_n 0, 1)) ∧ (decode cX7_isContent 10 = .ok (.ifCond .ne 7, 3)) ∧ (decode cX7_isContent 13 = .ok (.iconst 1, 1)) ∧ (decode cX7_isContent 14 = .ok (.goto 4, 3)) ∧ (decode cX7_isContent 17 = .ok (.iconst 0, 1)) ∧ (decode cX7_isContent 18 = .ok (.iload_n 1, 1)) ∧ (decode cX7_isContent 19 = .ok (.iload_n 2, 1)) ∧ (decode cX7_isContent 20 = .ok (.iload_n 3, 1)) ∧ (decode cX7_isContent 21 = .ok (.iload 4, 2)) ∧ (decode cX7_isContent 23 = .ok (.invokestatic 322, 3)) := by decide +kernel
theorem dX7_isContent_0 : decode cX7_isContent 0 = .ok (.iload_n 0, 1) := bX7_isContent_0.1
theorem dX7_isContent_1 : decode cX7_isContent 1 = .ok (.iload_n 1, 1) := bX7_isContent_0.2.1
theorem dX7_isContent_2 : decode cX7_isContent 2 = .ok (.iload_n 2, 1) := bX7_isContent_0.2.2.1
theorem dX7_isContent_3 : decode cX7_isContent 3 = .ok (.iload_n 3, 1) := bX7_isContent_0.2.2.2.1
theorem dX7_isContent_4 : decode cX7_isContent 4 = .ok (.iload 4, 2) := bX7_isContent_0.2.2.2.2.1
theorem dX7_isContent_6 : decode cX7_isContent 6 = .ok (.invokestatic 322, 3) := bX7_isContent_0.2.2.2.2.2.1
theorem dX7_isContent_9 : decode cX7_isContent 9 = .ok (.iload_n 0, 1) := bX7_isContent_0.2.2.2.2.2.2.1
theorem dX7_isContent_10 : decode cX7_isContent 10 = .ok (.ifCond .ne 7, 3) := bX7_isContent_0.2.2.2.2.2.2.2.1
theorem dX7_isContent_13 : decode cX7_isContent 13 = .ok (.iconst 1, 1) := bX7_isContent_0.2.2.2.2.2.2.2.2.1
theorem dX7_isContent_14 : decode cX7_isContent 14 = .ok (.goto 4, 3) := bX7_isContent_0.2.2.2.2.2.2.2.2.2.1
theorem dX7_isContent_17 : decode cX7_isContent 17 = .ok (.iconst 0, 1) := bX7_isContent_0.2.2.2.2.2.2.2.2.2.2.1
theorem dX7_isContent_18 : decode cX7_isContent 18 = .ok (.iload_n 1, 1) := bX7_isContent_0.2.2.2.2.2.2.2.2.2.2.2.1
theorem dX7_isContent_19 : decode cX7_isContent 19 = .ok (.iload_n 2, 1) := bX7_isContent_0.2.2.2.2.2.2.2.2.2.2.2.2.1
theorem dX7_isContent_20 : decode cX7_isContent 20 = .ok (.iload_n 3, 1) := bX7_isContent_0.2.2.2.2.2.2.2.2.2.2.2.2.2.1
theorem dX7_isContent_21 : decode cX7_isContent 21 = .ok (.iload 4, 2) := bX7_isContent_0.2.2.2.2.2.2.2.2.2.2.2.2.2.2.1
theorem dX7_isContent_23 : decode cX7_isContent 23 = .ok (.invokestatic 322, 3) := bX7_isContent_0.2.2.2.2.2.2.2.2.2.2.2.2.2.2.2
theorem bX7_isContent_26 : (decode cX7_isContent 26 = .ok (.if_icmp .lt 7, 3)) ∧ (decode cX7_isContent 29 = .ok (.iconst 1, 1)) ∧ (decode cX7_isContent 30 = .ok (.goto 4, 3)) ∧ (decode cX7_isContent 33 = .ok (.iconst 0, 1)) ∧ (decode cX7_isContent 34 = .ok (.ireturn, 1)) := by decide +kernel
theorem dX7_isContent_26 : decode cX7_isContent 26 = .ok (.if_icmp .lt 7, 3) := bX7_isContent_26.1
theorem dX7_isContent_29 : decode cX7_isContent 29 = .ok (.iconst 1, 1) := bX7_isContent_26.2.1
theorem dX7_isContent_30 : decode cX7_isContent 30 = .ok (.goto 4, 3) := bX7_isContent_26.2.2.1
theorem dX7_isContent_33 : decode cX7_isContent 33 = .ok (.iconst 0, 1) := bX7_isContent_26.2.2.2.1
theorem dX7_isContent_34 : decode cX7_isContent 34 = .ok (.ireturn, 1) := bX7_isContent_26.2.2.2.2
theorem bX7_gain_0 : (decode cX7_gain 0 = .ok (.iload_n 0, 1)) ∧ (decode cX7_gain 1 = .ok (.ifCond .eq 22, 3)) ∧ (decode cX7_gain 4 = .ok (.iload_n 1, 1)) ∧ (decode cX7_gain 5 = .ok (.ifCond .eq 18, 3)) ∧ (decode cX7_gain 8 = .ok (.iload_n 2, 1)) ∧ (decode cX7_gain 9 = .ok (.iload_n 3, 1)) ∧ (decode cX7_gain 10 = .ok (.iadd, 1)) ∧ (decode cX7_gain 11 = .ok (.iload 4, 2)) ∧ (decode cX7_gain 13 = .ok (.if_icmp .lt 7, 3)) ∧ (decode cX7_gain 16 = .ok (.iconst 3, 1)) ∧ (decode cX7_gain 17 = .ok (.goto 5, 3)) ∧ (decode cX7_gain 20 = .ok (.bipush (-3), 2)) ∧ (decode cX7_gain 22 = .ok (.ireturn, 1)) ∧ (decode cX7_gain 23 = .ok (.iload_n 0, 1)) ∧ (decode cX7_gain 24 = .ok (.ifCond .eq 16, 3)) ∧ (decode cX7_gain 27 = .ok (.iload_n 2, 1)) := by decide +kernel
theorem dX7_gain_0 : decode cX7_gain 0 = .ok (.iload_n 0, 1) := bX7_gain_0.1
theorem dX7_gain_1 : decode cX7_gain 1 = .ok (.ifCond .eq 22, 3) := bX7_gain_0.2.1
theorem dX7_gain_4 : decode cX7_gain 4 = .ok (.iload_n 1, 1) := bX7_gain_0.2.2.1
theorem dX7_gain_5 : decode cX7_gain 5 = .ok (.ifCond .eq 18, 3) := bX7_gain_0.2.2.2.1
theorem dX7_gain_8 : decode cX7_gain 8 = .ok (.iload_n 2, 1) := bX7_gain_0.2.2.2.2.1
theorem dX7_gain_9 : decode cX7_gain 9 = .ok (.iload_n 3, 1) := bX7_gain_0.2.2.2.2.2.1
theorem dX7_gain_10 : decode cX7_gain 10 = .ok (.iadd, 1) := bX7_gain_0.2.2.2.2.2.2.1
theorem dX7_gain_11 : decode cX7_gain 11 = .ok (.iload 4, 2) := bX7_gain_0.2.2.2.2.2.2.2.1
theorem dX7_gain_13 : decode cX7_gain 13 = .ok (.if_icmp .lt 7, 3) := bX7_gain_0.2.2.2.2.2.2.2.2.1
theorem dX7_gain_16 : decode cX7_gain 16 = .ok (.iconst 3, 1) := bX7_gain_0.2.2.2.2.2.2.2.2.2.1
theorem dX7_gain_17 : decode cX7_gain 17 = .ok (.goto 5, 3) := bX7_gain_0.2.2.2.2.2.2.2.2.2.2.1
theorem dX7_gain_20 : decode cX7_gain 20 = .ok (.bipush (-3), 2) := bX7_gain_0.2.2.2.2.2.2.2.2.2.2.2.1
theorem dX7_gain_22 : decode cX7_gain 22 = .ok (.ireturn, 1) := bX7_gain_0.2.2.2.2.2.2.2.2.2.2.2.2.1
theorem dX7_gain_23 : decode cX7_gain 23 = .ok (.iload_n 0, 1) := bX7_gain_0.2.2.2.2.2.2.2.2.2.2.2.2.2.1
theorem dX7_gain_24 : decode cX7_gain 24 = .ok (.ifCond .eq 16, 3) := bX7_gain_0.2.2.2.2.2.2.2.2.2.2.2.2.2.2.1
theorem dX7_gain_27 : decode cX7_gain 27 = .ok (.iload_n 2, 1) := bX7_gain_0.2.2.2.2.2.2.2.2.2.2.2.2.2.2.2
theorem bX7_gain_28 : (decode cX7_gain 28 = .ok (.iload 4, 2)) ∧ (decode cX7_gain 30 = .ok (.if_icmp .lt 7, 3)) ∧ (decode cX7_gain 33 = .ok (.iconst 5, 1)) ∧ (decode cX7_gain 34 = .ok (.goto 5, 3)) ∧ (decode cX7_gain 37 = .ok (.bipush (-2), 2)) ∧ (decode cX7_gain 39 = .ok (.ireturn, 1)) ∧ (decode cX7_gain 40 = .ok (.iload_n 1, 1)) ∧ (decode cX7_gain 41 = .ok (.ifCond .eq 13, 3)) ∧ (decode cX7_gain 44 = .ok (.iload_n 3, 1)) ∧ (decode cX7_gain 45 = .ok (.iload 4, 2)) ∧ (decode cX7_gain 47 = .ok (.if_icmp .ge 7, 3)) ∧ (decode cX7_gain 50 = .ok (.iconst 1, 1)) ∧ (decode cX7_gain 51 = .ok (.goto 4, 3)) ∧ (decode cX7_gain 54 = .ok (.iconst 0, 1)) ∧ (decode cX7_gain 55 = .ok (.ireturn, 1)) := by decide +kernel
theorem dX7_gain_28 : decode cX7_gain 28 = .ok (.iload 4, 2) := bX7_gain_28.1
theorem dX7_gain_30 : decode cX7_gain 30 = .ok (.if_icmp .lt 7, 3) := bX7_gain_28.2.1
theorem dX7_gain_33 : decode cX7_gain 33 = .ok (.iconst 5, 1) := bX7_gain_28.2.2.1
theorem dX7_gain_34 : decode cX7_gain 34 = .ok (.goto 5, 3) := bX7_gain_28.2.2.2.1
theorem dX7_gain_37 : decode cX7_gain 37 = .ok (.bipush (-2), 2) := bX7_gain_28.2.2.2.2.1
theorem dX7_gain_39 : decode cX7_gain 39 = .ok (.ireturn, 1) := bX7_gain_28.2.2.2.2.2.1
theorem dX7_gain_40 : decode cX7_gain 40 = .ok (.iload_n 1, 1) := bX7_gain_28.2.2.2.2.2.2.1
theorem dX7_gain_41 : decode cX7_gain 41 = .ok (.ifCond .eq 13, 3) := bX7_gain_28.2.2.2.2.2.2.2.1
theorem dX7_gain_44 : decode cX7_gain 44 = .ok (.iload_n 3, 1) := bX7_gain_28.2.2.2.2.2.2.2.2.1
theorem dX7_gain_45 : decode cX7_gain 45 = .ok (.iload 4, 2) := bX7_gain_28.2.2.2.2.2.2.2.2.2.1
theorem dX7_gain_47 : decode cX7_gain 47 = .ok (.if_icmp .ge 7, 3) := bX7_gain_28.2.2.2.2.2.2.2.2.2.2.1
theorem dX7_gain_50 : decode cX7_gain 50 = .ok (.iconst 1, 1) := bX7_gain_28.2.2.2.2.2.2.2.2.2.2.2.1
theorem dX7_gain_51 : decode cX7_gain 51 = .ok (.goto 4, 3) := bX7_gain_28.2.2.2.2.2.2.2.2.2.2.2.2.1
theorem dX7_gain_54 : decode cX7_gain 54 = .ok (.iconst 0, 1) := bX7_gain_28.2.2.2.2.2.2.2.2.2.2.2.2.2.1
theorem dX7_gain_55 : decode cX7_gain 55 = .ok (.ireturn, 1) := bX7_gain_28.2.2.2.2.2.2.2.2.2.2.2.2.2.2
theorem bX8_init_0 : (decode cX8_init 0 = .ok (.aload_n 0, 1)) ∧ (decode cX8_init 1 = .ok (.invokespecial 1, 3)) ∧ (decode cX8_init 4 = .ok (.aload_n 0, 1)) ∧ (decode cX8_init 5 = .ok (.iconst 3, 1)) ∧ (decode cX8_init 6 = .ok (.newarray .int, 2)) ∧ (decode cX8_init 8 = .ok (.putfield 7, 3)) ∧ (decode cX8_init 11 = .ok (.aload_n 0, 1)) ∧ (decode cX8_init 12 = .ok (.sipush 984, 3)) ∧ (decode cX8_init 15 = .ok (.newarray .int, 2)) ∧ (decode cX8_init 17 = .ok (.putfield 13, 3)) ∧ (decode cX8_init 20 = .ok (.aload_n 0, 1)) ∧ (decode cX8_init 21 = .ok (.iconst 2, 1)) ∧ (decode cX8_init 22 = .ok (.newarray .boolean, 2)) ∧ (decode cX8_init 24 = .ok (.putfield 16, 3)) ∧ (decode cX8_init 27 = .ok (.aload_n 0, 1)) ∧ (decode cX8_init 28 = .ok (.bipush 16, 2)) := by decide +kernel
theorem dX8_init_0 : decode cX8_init 0 = .ok (.aload_n 0, 1) := bX8_init_0.1
theorem dX8_init_1 : decode cX8_init 1 = .ok (.invokespecial 1, 3) := bX8_init_0.2.1
theorem dX8_init_4 : decode cX8_init 4 = .ok (.aload_n 0, 1) := bX8_init_0.2.2.1
theorem dX8_init_5 : decode cX8_init 5 = .ok (.iconst 3, 1) := bX8_init_0.2.2.2.1
theorem dX8_init_6 : decode cX8_init 6 = .ok (.newarray .int, 2) := bX8_init_0.2.2.2.2.1
theorem dX8_init_8 : decode cX8_init 8 = .ok (.putfield 7, 3) := bX8_init_0.2.2.2.2.2.1
theorem dX8_init_11 : decode cX8_init 11 = .ok (.aload_n 0, 1) := bX8_init_0.2.2.2.2.2.2.1
theorem dX8_init_12 : decode cX8_init 12 = .ok (.sipush 984, 3) := bX8_init_0.2.2.2.2.2.2.2.1
theorem dX8_init_15 : decode cX8_init 15 = .ok (.newarray .int, 2) := bX8_init_0.2.2.2.2.2.2.2.2.1
theorem dX8_init_17 : decode cX8_init 17 = .ok (.putfield 13, 3) := bX8_init_0.2.2.2.2.2.2.2.2.2.1
theorem dX8_init_20 : decode cX8_init 20 = .ok (.aload_n 0, 1) := bX8_init_0.2.2.2.2.2.2.2.2.2.2.1
theorem dX8_init_21 : decode cX8_init 21 = .ok (.iconst 2, 1) := bX8_init_0.2.2.2.2.2.2.2.2.2.2.2.1
theorem dX8_init_22 : decode cX8_init 22 = .ok (.newarray .boolean, 2) := bX8_init_0.2.2.2.2.2.2.2.2.2.2.2.2.1
theorem dX8_init_24 : decode cX8_init 24 = .ok (.putfield 16, 3) := bX8_init_0.2.2.2.2.2.2.2.2.2.2.2.2.2.1
theorem dX8_init_27 : decode cX8_init 27 = .ok (.aload_n 0, 1) := bX8_init_0.2.2.2.2.2.2.2.2.2.2.2.2.2.2.1
theorem dX8_init_28 : decode cX8_init 28 = .ok (.bipush 16, 2) := bX8_init_0.2.2.2.2.2.2.2.2.2.2.2.2.2.2.2
theorem bX8_init_30 : (decode cX8_init 30 = .ok (.newarray .int, 2)) ∧ (decode cX8_init 32 = .ok (.putfield 20, 3)) ∧ (decode cX8_init 35 = .ok (.aload_n 0, 1)) ∧ (decode cX8_init 36 = .ok (.sipush 150, 3)) ∧ (decode cX8_init 39 = .ok (.newarray .byte, 2)) ∧ (decode cX8_init 41 = .ok (.putfield 23, 3)) ∧ (decode cX8_init 44 = .ok (.aload_n 0, 1)) ∧ (decode cX8_init 45 = .ok (.sipush 1024, 3)) ∧ (decode cX8_init 48 = .ok (.newarray .int, 2)) ∧ (decode cX8_init 50 = .ok (.putfield 27, 3)) ∧ (decode cX8_init 53 = .ok (.aload_n 0, 1)) ∧ (decode cX8_init 54 = .ok (.sipush 1024, 3)) ∧ (decode cX8_init 57 = .ok (.newarray .int, 2)) ∧ (decode cX8_init 59 = .ok (.putfield 30, 3)) ∧ (decode cX8_init 62 = .ok (.aload_n 0, 1)) ∧ (decode cX8_init 63 = .ok (.bipush 7, 2)) := by decide +kernel
theorem dX8_init_30 : decode cX8_init 30 = .ok (.newarray .int, 2) := bX8_init_30.1
theorem dX8_init_32 : decode cX8_init 32 = .ok (.putfield 20, 3) := bX8_init_30.2.1
theorem dX8_init_35 : decode cX8_init 35 = .ok (.aload_n 0, 1) := bX8_init_30.2.2.1
theorem dX8_init_36 : decode cX8_init 36 = .ok (.sipush 150, 3) := bX8_init_30.2.2.2.1
theorem dX8_init_39 : decode cX8_init 39 = .ok (.newarray .byte, 2) := bX8_init_30.2.2.2.2.1
theorem dX8_init_41 : decode cX8_init 41 = .ok (.putfield 23, 3) := bX8_init_30.2.2.2.2.2.1
theorem dX8_init_44 : decode cX8_init 44 = .ok (.aload_n 0, 1) := bX8_init_30.2.2.2.2.2.2.1
theorem dX8_init_45 : decode cX8_init 45 = .ok (.sipush 1024, 3) := bX8_init_30.2.2.2.2.2.2.2.1
theorem dX8_init_48 : decode cX8_init 48 = .ok (.newarray .int, 2) := bX8_init_30.2.2.2.2.2.2.2.2.1
theorem dX8_init_50 : decode cX8_init 50 = .ok (.putfield 27, 3) := bX8_init_30.2.2.2.2.2.2.2.2.2.1
theorem dX8_init_53 : decode cX8_init 53 = .ok (.aload_n 0, 1) := bX8_init_30.2.2.2.2.2.2.2.2.2.2.1
theorem dX8_init_54 : decode cX8_init 54 = .ok (.sipush 1024, 3) := bX8_init_30.2.2.2.2.2.2.2.2.2.2.2.1
theorem dX8_init_57 : decode cX8_init 57 = .ok (.newarray .int, 2) := bX8_init_30.2.2.2.2.2.2.2.2.2.2.2.2.1
theorem dX8_init_59 : decode cX8_init 59 = .ok (.putfield 30, 3) := bX8_init_30.2.2.2.2.2.2.2.2.2.2.2.2.2.1
theorem dX8_init_62 : decode cX8_init 62 = .ok (.aload_n 0, 1) := bX8_init_30.2.2.2.2.2.2.2.2.2.2.2.2.2.2.1
theorem dX8_init_63 : decode cX8_init 63 = .ok (.bipush 7, 2) := bX8_init_30.2.2.2.2.2.2.2.2.2.2.2.2.2.2.2
theorem bX8_init_65 : (decode cX8_init 65 = .ok (.newarray .int, 2)) ∧ (decode cX8_init 67 = .ok (.putfield 33, 3)) ∧ (decode cX8_init 70 = .ok (.aload_n 0, 1)) ∧ (decode cX8_init 71 = .ok (.lconst 1, 1)) ∧ (decode cX8_init 72 = .ok (.putfield 36, 3)) ∧ (decode cX8_init 75 = .ok (.aload_n 0, 1)) ∧ (decode cX8_init 76 = .ok (.iconst 0, 1)) ∧ (decode cX8_init 77 = .ok (.invokevirtual 40, 3)) ∧ (decode cX8_init 80 = .ok (.return_, 1)) := by decide +kernel
theorem dX8_init_65 : decode cX8_init 65 = .ok (.newarray .int, 2) := bX8_init_65.1
theorem dX8_init_67 : decode cX8_init 67 = .ok (.putfield 33, 3) := bX8_init_65.2.1
theorem dX8_init_70 : decode cX8_init 70 = .ok (.aload_n 0, 1) := bX8_init_65.2.2.1
theorem dX8_init_71 : decode cX8_init 71 = .ok (.lconst 1, 1) := bX8_init_65.2.2.2.1
theorem dX8_init_72 : decode cX8_init 72 = .ok (.putfield 36, 3) := bX8_init_65.2.2.2.2.1
theorem dX8_init_75 : decode cX8_init 75 = .ok (.aload_n 0, 1) := bX8_init_65.2.2.2.2.2.1
theorem dX8_init_76 : decode cX8_init 76 = .ok (.iconst 0, 1) := bX8_init_65.2.2.2.2.2.2.1
theorem dX8_init_77 : decode cX8_init 77 = .ok (.invokevirtual 40, 3) := bX8_init_65.2.2.2.2.2.2.2.1
theorem dX8_init_80 : decode cX8_init 80 = .ok (.return_, 1) := bX8_init_65.2.2.2.2.2.2.2.2
theorem bX8_in_0 : (decode cX8_in 0 = .ok (.iload_n 0, 1)) ∧ (decode cX8_in 1 = .ok (.iload_n 1, 1)) ∧ (decode cX8_in 2 = .ok (.if_icmp .lt 12, 3)) ∧ (decode cX8_in 5 = .ok (.iload_n 0, 1)) ∧ (decode cX8_in 6 = .ok (.iload_n 2, 1)) ∧ (decode cX8_in 7 = .ok (.if_icmp .gt 7, 3)) ∧ (decode cX8_in 10 = .ok (.iconst 1, 1)) ∧ (decode cX8_in 11 = .ok (.goto 4, 3)) ∧ (decode cX8_in 14 = .ok (.iconst 0, 1)) ∧ (decode cX8_in 15 = .ok (.ireturn, 1)) := by decide +kernel
theorem dX8_in_0 : decode cX8_in 0 = .ok (.iload_n 0, 1) := bX8_in_0.1
theorem dX8_in_1 : decode cX8_in 1 = .ok (.iload_n 1, 1) := bX8_in_0.2.1
theorem dX8_in_2 : decode cX8_in 2 = .ok (.if_icmp .lt 12, 3) := bX8_in_0.2.2.1
theorem dX8_in_5 : decode cX8_in 5 = .ok (.iload_n 0, 1) := bX8_in_0.2.2.2.1
theorem dX8_in_6 : decode cX8_in 6 = .ok (.iload_n 2, 1) := bX8_in_0.2.2.2.2.1
theorem dX8_in_7 : decode cX8_in 7 = .ok (.if_icmp .gt 7, 3) := bX8_in_0.2.2.2.2.2.1
theorem dX8_in_10 : decode cX8_in 10 = .ok (.iconst 1, 1) := bX8_in_0.2.2.2.2.2.2.1
theorem dX8_in_11 : decode cX8_in 11 = .ok (.goto 4, 3) := bX8_in_0.2.2.2.2.2.2.2.1
theorem dX8_in_14 : decode cX8_in 14 = .ok (.iconst 0, 1) := bX8_in_0.2.2.2.2.2.2.2.2.1
theorem dX8_in_15 : decode cX8_in 15 = .ok (.ireturn, 1) := bX8_in_0.2.2.2.2.2.2.2.2.2
theorem bX8_has_0 : (decode cX8_has 0 = .ok (.iload_n 0, 1)) ∧ (decode cX8_has 1 = .ok (.iload_n 1, 1)) ∧ (decode cX8_has 2 = .ok (.ishr, 1)) ∧ (decode cX8_has 3 = .ok (.iconst 1, 1)) ∧ (decode cX8_has 4 = .ok (.iand, 1)) ∧ (decode cX8_has 5 = .ok (.iconst 1, 1)) ∧ (decode cX8_has 6 = .ok (.if_icmp .ne 7, 3)) ∧ (decode cX8_has 9 = .ok (.iconst 1, 1)) ∧ (decode cX8_has 10 = .ok (.goto 4, 3)) ∧ (decode cX8_has 13 = .ok (.iconst 0, 1)) ∧ (decode cX8_has 14 = .ok (.ireturn, 1)) := by decide +kernel
theorem dX8_has_0 : decode cX8_has 0 = .ok (.iload_n 0, 1) := bX8_has_0.1
theorem dX8_has_1 : decode cX8_has 1 = .ok (.iload_n 1, 1) := bX8_has_0.2.1
theorem dX8_has_2 : decode cX8_has 2 = .ok (.ishr, 1) := bX8_has_0.2.2.1
theorem dX8_has_3 : decode cX8_has 3 = .ok (.iconst 1, 1) := bX8_has_0.2.2.2.1
theorem dX8_has_4 : decode cX8_has 4 = .ok (.iand, 1) := bX8_has_0.2.2.2.2.1
theorem dX8_has_5 : decode cX8_has 5 = .ok (.iconst 1, 1) := bX8_has_0.2.2.2.2.2.1
theorem dX8_has_6 : decode cX8_has 6 = .ok (.if_icmp .ne 7, 3) := bX8_has_0.2.2.2.2.2.2.1
theorem dX8_has_9 : decode cX8_has 9 = .ok (.iconst 1, 1) := bX8_has_0.2.2.2.2.2.2.2.1
theorem dX8_has_10 : decode cX8_has 10 = .ok (.goto 4, 3) := bX8_has_0.2.2.2.2.2.2.2.2.1
theorem dX8_has_13 : decode cX8_has 13 = .ok (.iconst 0, 1) := bX8_has_0.2.2.2.2.2.2.2.2.2.1
theorem dX8_has_14 : decode cX8_has 14 = .ok (.ireturn, 1) := bX8_has_0.2.2.2.2.2.2.2.2.2.2
theorem bX8_bitsOf_0 : (decode cX8_bitsOf 0 = .ok (.iconst 0, 1)) ∧ (decode cX8_bitsOf 1 = .ok (.istore_n 1, 1)) ∧ (decode cX8_bitsOf 2 = .ok (.iconst 0, 1)) ∧ (decode cX8_bitsOf 3 = .ok (.istore_n 2, 1)) ∧ (decode cX8_bitsOf 4 = .ok (.iload_n 2, 1)) ∧ (decode cX8_bitsOf 5 = .ok (.bipush 10, 2)) ∧ (decode cX8_bitsOf 7 = .ok (.if_icmp .ge 17, 3)) ∧ (decode cX8_bitsOf 10 = .ok (.iload_n 1, 1)) ∧ (decode cX8_bitsOf 11 = .ok (.iload_n 0, 1)) ∧ (decode cX8_bitsOf 12 = .ok (.iload_n 2, 1)) ∧ (decode cX8_bitsOf 13 = .ok (.ishr, 1)) ∧ (decode cX8_bitsOf 14 = .ok (.iconst 1, 1)) ∧ (decode cX8_bitsOf 15 = .ok (.iand, 1)) ∧ (decode cX8_bitsOf 16 = .ok (.iadd, 1)) ∧ (decode cX8_bitsOf 17 = .ok (.istore_n 1, 1)) ∧ (decode cX8_bitsOf 18 = .ok (.iinc 2 1, 3)) := by decide +kernel
theorem dX8_bitsOf_0 : decode cX8_bitsOf 0 = .ok (.iconst 0, 1) := bX8_bitsOf_0.1
theorem dX8_bitsOf_1 : decode cX8_bitsOf 1 = .ok (.istore_n 1, 1) := bX8_bitsOf_0.2.1
theorem dX8_bitsOf_2 : decode cX8_bitsOf 2 = .ok (.iconst 0, 1) := bX8_bitsOf_0.2.2.1
theorem dX8_bitsOf_3 : decode cX8_bitsOf 3 = .ok (.istore_n 2, 1) := bX8_bitsOf_0.2.2.2.1
theorem dX8_bitsOf_4 : decode cX8_bitsOf 4 = .ok (.iload_n 2, 1) := bX8_bitsOf_0.2.2.2.2.1
theorem dX8_bitsOf_5 : decode cX8_bitsOf 5 = .ok (.bipush 10, 2) := bX8_bitsOf_0.2.2.2.2.2.1
theorem dX8_bitsOf_7 : decode cX8_bitsOf 7 = .ok (.if_icmp .ge 17, 3) := bX8_bitsOf_0.2.2.2.2.2.2.1
theorem dX8_bitsOf_10 : decode cX8_bitsOf 10 = .ok (.iload_n 1, 1) := bX8_bitsOf_0.2.2.2.2.2.2.2.1
theorem dX8_bitsOf_11 : decode cX8_bitsOf 11 = .ok (.iload_n 0, 1) := bX8_bitsOf_0.2.2.2.2.2.2.2.2.1
theorem dX8_bitsOf_12 : decode cX8_bitsOf 12 = .ok (.iload_n 2, 1) := bX8_bitsOf_0.2.2.2.2.2.2.2.2.2.1
theorem dX8_bitsOf_13 : decode cX8_bitsOf 13 = .ok (.ishr, 1) := bX8_bitsOf_0.2.2.2.2.2.2.2.2.2.2.1
theorem dX8_bitsOf_14 : decode cX8_bitsOf 14 = .ok (.iconst 1, 1) := bX8_bitsOf_0.2.2.2.2.2.2.2.2.2.2.2.1
theorem dX8_bitsOf_15 : decode cX8_bitsOf 15 = .ok (.iand, 1) := bX8_bitsOf_0.2.2.2.2.2.2.2.2.2.2.2.2.1
theorem dX8_bitsOf_16 : decode cX8_bitsOf 16 = .ok (.iadd, 1) := bX8_bitsOf_0.2.2.2.2.2.2.2.2.2.2.2.2.2.1
theorem dX8_bitsOf_17 : decode cX8_bitsOf 17 = .ok (.istore_n 1, 1) := bX8_bitsOf_0.2.2.2.2.2.2.2.2.2.2.2.2.2.2.1
theorem dX8_bitsOf_18 : decode cX8_bitsOf 18 = .ok (.iinc 2 1, 3) := bX8_bitsOf_0.2.2.2.2.2.2.2.2.2.2.2.2.2.2.2
theorem bX8_bitsOf_21 : (decode cX8_bitsOf 21 = .ok (.goto (-17), 3)) ∧ (decode cX8_bitsOf 24 = .ok (.iload_n 1, 1)) ∧ (decode cX8_bitsOf 25 = .ok (.ireturn, 1)) := by decide +kernel
theorem dX8_bitsOf_21 : decode cX8_bitsOf 21 = .ok (.goto (-17), 3) := bX8_bitsOf_21.1
theorem dX8_bitsOf_24 : decode cX8_bitsOf 24 = .ok (.iload_n 1, 1) := bX8_bitsOf_21.2.1
theorem dX8_bitsOf_25 : decode cX8_bitsOf 25 = .ok (.ireturn, 1) := bX8_bitsOf_21.2.2
theorem bX8_bad_0 : (decode cX8_bad 0 = .ok (.aload_n 0, 1)) ∧ (decode cX8_bad 1 = .ok (.getfield 7, 3)) ∧ (decode cX8_bad 4 = .ok (.iconst 0, 1)) ∧ (decode cX8_bad 5 = .ok (.dup2, 1)) ∧ (decode cX8_bad 6 = .ok (.iaload, 1)) ∧ (decode cX8_bad 7 = .ok (.iconst 1, 1)) ∧ (decode cX8_bad 8 = .ok (.iadd, 1)) ∧ (decode cX8_bad 9 = .ok (.iastore, 1)) ∧ (decode cX8_bad 10 = .ok (.bipush (-2), 2)) ∧ (decode cX8_bad 12 = .ok (.ireturn, 1)) := by decide +kernel
theorem dX8_bad_0 : decode cX8_bad 0 = .ok (.aload_n 0, 1) := bX8_bad_0.1
theorem dX8_bad_1 : decode cX8_bad 1 = .ok (.getfield 7, 3) := bX8_bad_0.2.1
theorem dX8_bad_4 : decode cX8_bad 4 = .ok (.iconst 0, 1) := bX8_bad_0.2.2.1
theorem dX8_bad_5 : decode cX8_bad 5 = .ok (.dup2, 1) := bX8_bad_0.2.2.2.1
theorem dX8_bad_6 : decode cX8_bad 6 = .ok (.iaload, 1) := bX8_bad_0.2.2.2.2.1
theorem dX8_bad_7 : decode cX8_bad 7 = .ok (.iconst 1, 1) := bX8_bad_0.2.2.2.2.2.1
theorem dX8_bad_8 : decode cX8_bad 8 = .ok (.iadd, 1) := bX8_bad_0.2.2.2.2.2.2.1
theorem dX8_bad_9 : decode cX8_bad 9 = .ok (.iastore, 1) := bX8_bad_0.2.2.2.2.2.2.2.1
theorem dX8_bad_10 : decode cX8_bad 10 = .ok (.bipush (-2), 2) := bX8_bad_0.2.2.2.2.2.2.2.2.1
theorem dX8_bad_12 : decode cX8_bad 12 = .ok (.ireturn, 1) := bX8_bad_0.2.2.2.2.2.2.2.2.2
theorem bX8_no_0 : (decode cX8_no 0 = .ok (.aload_n 0, 1)) ∧ (decode cX8_no 1 = .ok (.getfield 7, 3)) ∧ (decode cX8_no 4 = .ok (.iconst 1, 1)) ∧ (decode cX8_no 5 = .ok (.dup2, 1)) ∧ (decode cX8_no 6 = .ok (.iaload, 1)) ∧ (decode cX8_no 7 = .ok (.iconst 1, 1)) ∧ (decode cX8_no 8 = .ok (.iadd, 1)) ∧ (decode cX8_no 9 = .ok (.iastore, 1)) ∧ (decode cX8_no 10 = .ok (.bipush (-3), 2)) ∧ (decode cX8_no 12 = .ok (.ireturn, 1)) := by decide +kernel
theorem dX8_no_0 : decode cX8_no 0 = .ok (.aload_n 0, 1) := bX8_no_0.1
theorem dX8_no_1 : decode cX8_no 1 = .ok (.getfield 7, 3) := bX8_no_0.2.1
theorem dX8_no_4 : decode cX8_no 4 = .ok (.iconst 1, 1) := bX8_no_0.2.2.1
theorem dX8_no_5 : decode cX8_no 5 = .ok (.dup2, 1) := bX8_no_0.2.2.2.1
theorem dX8_no_6 : decode cX8_no 6 = .ok (.iaload, 1) := bX8_no_0.2.2.2.2.1
theorem dX8_no_7 : decode cX8_no 7 = .ok (.iconst 1, 1) := bX8_no_0.2.2.2.2.2.1
theorem dX8_no_8 : decode cX8_no 8 = .ok (.iadd, 1) := bX8_no_0.2.2.2.2.2.2.1
theorem dX8_no_9 : decode cX8_no 9 = .ok (.iastore, 1) := bX8_no_0.2.2.2.2.2.2.2.1
theorem dX8_no_10 : decode cX8_no 10 = .ok (.bipush (-3), 2) := bX8_no_0.2.2.2.2.2.2.2.2.1
theorem dX8_no_12 : decode cX8_no 12 = .ok (.ireturn, 1) := bX8_no_0.2.2.2.2.2.2.2.2.2
