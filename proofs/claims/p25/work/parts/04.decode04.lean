theorem bX8_know_25 : (decode cX8_know 25 = .ok (.iload_n 1, 1)) ∧ (decode cX8_know 26 = .ok (.iadd, 1)) ∧ (decode cX8_know 27 = .ok (.aload_n 0, 1)) ∧ (decode cX8_know 28 = .ok (.getfield 13, 3)) ∧ (decode cX8_know 31 = .ok (.sipush 134, 3)) ∧ (decode cX8_know 34 = .ok (.iload_n 1, 1)) ∧ (decode cX8_know 35 = .ok (.iadd, 1)) ∧ (decode cX8_know 36 = .ok (.iaload, 1)) ∧ (decode cX8_know 37 = .ok (.iastore, 1)) ∧ (decode cX8_know 38 = .ok (.iinc 1 1, 3)) ∧ (decode cX8_know 41 = .ok (.goto (-28), 3)) ∧ (decode cX8_know 44 = .ok (.aload_n 0, 1)) ∧ (decode cX8_know 45 = .ok (.getfield 13, 3)) ∧ (decode cX8_know 48 = .ok (.iconst 5, 1)) ∧ (decode cX8_know 49 = .ok (.dup2, 1)) ∧ (decode cX8_know 50 = .ok (.iaload, 1)) := by decide +kernel
theorem dX8_know_25 : decode cX8_know 25 = .ok (.iload_n 1, 1) := bX8_know_25.1
theorem dX8_know_26 : decode cX8_know 26 = .ok (.iadd, 1) := bX8_know_25.2.1
theorem dX8_know_27 : decode cX8_know 27 = .ok (.aload_n 0, 1) := bX8_know_25.2.2.1
theorem dX8_know_28 : decode cX8_know 28 = .ok (.getfield 13, 3) := bX8_know_25.2.2.2.1
theorem dX8_know_31 : decode cX8_know 31 = .ok (.sipush 134, 3) := bX8_know_25.2.2.2.2.1
theorem dX8_know_34 : decode cX8_know 34 = .ok (.iload_n 1, 1) := bX8_know_25.2.2.2.2.2.1
theorem dX8_know_35 : decode cX8_know 35 = .ok (.iadd, 1) := bX8_know_25.2.2.2.2.2.2.1
theorem dX8_know_36 : decode cX8_know 36 = .ok (.iaload, 1) := bX8_know_25.2.2.2.2.2.2.2.1
theorem dX8_know_37 : decode cX8_know 37 = .ok (.iastore, 1) := bX8_know_25.2.2.2.2.2.2.2.2.1
theorem dX8_know_38 : decode cX8_know 38 = .ok (.iinc 1 1, 3) := bX8_know_25.2.2.2.2.2.2.2.2.2.1
theorem dX8_know_41 : decode cX8_know 41 = .ok (.goto (-28), 3) := bX8_know_25.2.2.2.2.2.2.2.2.2.2.1
theorem dX8_know_44 : decode cX8_know 44 = .ok (.aload_n 0, 1) := bX8_know_25.2.2.2.2.2.2.2.2.2.2.2.1
theorem dX8_know_45 : decode cX8_know 45 = .ok (.getfield 13, 3) := bX8_know_25.2.2.2.2.2.2.2.2.2.2.2.2.1
theorem dX8_know_48 : decode cX8_know 48 = .ok (.iconst 5, 1) := bX8_know_25.2.2.2.2.2.2.2.2.2.2.2.2.2.1
theorem dX8_know_49 : decode cX8_know 49 = .ok (.dup2, 1) := bX8_know_25.2.2.2.2.2.2.2.2.2.2.2.2.2.2.1
theorem dX8_know_50 : decode cX8_know 50 = .ok (.iaload, 1) := bX8_know_25.2.2.2.2.2.2.2.2.2.2.2.2.2.2.2
theorem bX8_know_51 : (decode cX8_know 51 = .ok (.iconst 1, 1)) ∧ (decode cX8_know 52 = .ok (.isub, 1)) ∧ (decode cX8_know 53 = .ok (.iastore, 1)) ∧ (decode cX8_know 54 = .ok (.iconst 0, 1)) ∧ (decode cX8_know 55 = .ok (.istore_n 1, 1)) ∧ (decode cX8_know 56 = .ok (.iload_n 1, 1)) ∧ (decode cX8_know 57 = .ok (.bipush 16, 2)) ∧ (decode cX8_know 59 = .ok (.if_icmp .ge 37, 3)) ∧ (decode cX8_know 62 = .ok (.aload_n 0, 1)) ∧ (decode cX8_know 63 = .ok (.getfield 13, 3)) ∧ (decode cX8_know 66 = .ok (.bipush 118, 2)) ∧ (decode cX8_know 68 = .ok (.bipush 16, 2)) ∧ (decode cX8_know 70 = .ok (.aload_n 0, 1)) ∧ (decode cX8_know 71 = .ok (.getfield 13, 3)) ∧ (decode cX8_know 74 = .ok (.iconst 5, 1)) ∧ (decode cX8_know 75 = .ok (.iaload, 1)) := by decide +kernel
theorem dX8_know_51 : decode cX8_know 51 = .ok (.iconst 1, 1) := bX8_know_51.1
theorem dX8_know_52 : decode cX8_know 52 = .ok (.isub, 1) := bX8_know_51.2.1
theorem dX8_know_53 : decode cX8_know 53 = .ok (.iastore, 1) := bX8_know_51.2.2.1
theorem dX8_know_54 : decode cX8_know 54 = .ok (.iconst 0, 1) := bX8_know_51.2.2.2.1
theorem dX8_know_55 : decode cX8_know 55 = .ok (.istore_n 1, 1) := bX8_know_51.2.2.2.2.1
theorem dX8_know_56 : decode cX8_know 56 = .ok (.iload_n 1, 1) := bX8_know_51.2.2.2.2.2.1
theorem dX8_know_57 : decode cX8_know 57 = .ok (.bipush 16, 2) := bX8_know_51.2.2.2.2.2.2.1
theorem dX8_know_59 : decode cX8_know 59 = .ok (.if_icmp .ge 37, 3) := bX8_know_51.2.2.2.2.2.2.2.1
theorem dX8_know_62 : decode cX8_know 62 = .ok (.aload_n 0, 1) := bX8_know_51.2.2.2.2.2.2.2.2.1
theorem dX8_know_63 : decode cX8_know 63 = .ok (.getfield 13, 3) := bX8_know_51.2.2.2.2.2.2.2.2.2.1
theorem dX8_know_66 : decode cX8_know 66 = .ok (.bipush 118, 2) := bX8_know_51.2.2.2.2.2.2.2.2.2.2.1
theorem dX8_know_68 : decode cX8_know 68 = .ok (.bipush 16, 2) := bX8_know_51.2.2.2.2.2.2.2.2.2.2.2.1
theorem dX8_know_70 : decode cX8_know 70 = .ok (.aload_n 0, 1) := bX8_know_51.2.2.2.2.2.2.2.2.2.2.2.2.1
theorem dX8_know_71 : decode cX8_know 71 = .ok (.getfield 13, 3) := bX8_know_51.2.2.2.2.2.2.2.2.2.2.2.2.2.1
theorem dX8_know_74 : decode cX8_know 74 = .ok (.iconst 5, 1) := bX8_know_51.2.2.2.2.2.2.2.2.2.2.2.2.2.2.1
theorem dX8_know_75 : decode cX8_know 75 = .ok (.iaload, 1) := bX8_know_51.2.2.2.2.2.2.2.2.2.2.2.2.2.2.2
theorem bX8_know_76 : (decode cX8_know 76 = .ok (.imul, 1)) ∧ (decode cX8_know 77 = .ok (.iadd, 1)) ∧ (decode cX8_know 78 = .ok (.iload_n 1, 1)) ∧ (decode cX8_know 79 = .ok (.iadd, 1)) ∧ (decode cX8_know 80 = .ok (.aload_n 0, 1)) ∧ (decode cX8_know 81 = .ok (.getfield 13, 3)) ∧ (decode cX8_know 84 = .ok (.bipush 34, 2)) ∧ (decode cX8_know 86 = .ok (.iload_n 1, 1)) ∧ (decode cX8_know 87 = .ok (.iadd, 1)) ∧ (decode cX8_know 88 = .ok (.iaload, 1)) ∧ (decode cX8_know 89 = .ok (.iastore, 1)) ∧ (decode cX8_know 90 = .ok (.iinc 1 1, 3)) ∧ (decode cX8_know 93 = .ok (.goto (-37), 3)) ∧ (decode cX8_know 96 = .ok (.aload_n 0, 1)) ∧ (decode cX8_know 97 = .ok (.getfield 13, 3)) ∧ (decode cX8_know 100 = .ok (.iconst 5, 1)) := by decide +kernel
theorem dX8_know_76 : decode cX8_know 76 = .ok (.imul, 1) := bX8_know_76.1
theorem dX8_know_77 : decode cX8_know 77 = .ok (.iadd, 1) := bX8_know_76.2.1
theorem dX8_know_78 : decode cX8_know 78 = .ok (.iload_n 1, 1) := bX8_know_76.2.2.1
theorem dX8_know_79 : decode cX8_know 79 = .ok (.iadd, 1) := bX8_know_76.2.2.2.1
theorem dX8_know_80 : decode cX8_know 80 = .ok (.aload_n 0, 1) := bX8_know_76.2.2.2.2.1
theorem dX8_know_81 : decode cX8_know 81 = .ok (.getfield 13, 3) := bX8_know_76.2.2.2.2.2.1
theorem dX8_know_84 : decode cX8_know 84 = .ok (.bipush 34, 2) := bX8_know_76.2.2.2.2.2.2.1
theorem dX8_know_86 : decode cX8_know 86 = .ok (.iload_n 1, 1) := bX8_know_76.2.2.2.2.2.2.2.1
theorem dX8_know_87 : decode cX8_know 87 = .ok (.iadd, 1) := bX8_know_76.2.2.2.2.2.2.2.2.1
theorem dX8_know_88 : decode cX8_know 88 = .ok (.iaload, 1) := bX8_know_76.2.2.2.2.2.2.2.2.2.1
theorem dX8_know_89 : decode cX8_know 89 = .ok (.iastore, 1) := bX8_know_76.2.2.2.2.2.2.2.2.2.2.1
theorem dX8_know_90 : decode cX8_know 90 = .ok (.iinc 1 1, 3) := bX8_know_76.2.2.2.2.2.2.2.2.2.2.2.1
theorem dX8_know_93 : decode cX8_know 93 = .ok (.goto (-37), 3) := bX8_know_76.2.2.2.2.2.2.2.2.2.2.2.2.1
theorem dX8_know_96 : decode cX8_know 96 = .ok (.aload_n 0, 1) := bX8_know_76.2.2.2.2.2.2.2.2.2.2.2.2.2.1
theorem dX8_know_97 : decode cX8_know 97 = .ok (.getfield 13, 3) := bX8_know_76.2.2.2.2.2.2.2.2.2.2.2.2.2.2.1
theorem dX8_know_100 : decode cX8_know 100 = .ok (.iconst 5, 1) := bX8_know_76.2.2.2.2.2.2.2.2.2.2.2.2.2.2.2
theorem bX8_know_101 : (decode cX8_know 101 = .ok (.dup2, 1)) ∧ (decode cX8_know 102 = .ok (.iaload, 1)) ∧ (decode cX8_know 103 = .ok (.iconst 1, 1)) ∧ (decode cX8_know 104 = .ok (.iadd, 1)) ∧ (decode cX8_know 105 = .ok (.iastore, 1)) ∧ (decode cX8_know 106 = .ok (.return_, 1)) := by decide +kernel
theorem dX8_know_101 : decode cX8_know 101 = .ok (.dup2, 1) := bX8_know_101.1
theorem dX8_know_102 : decode cX8_know 102 = .ok (.iaload, 1) := bX8_know_101.2.1
theorem dX8_know_103 : decode cX8_know 103 = .ok (.iconst 1, 1) := bX8_know_101.2.2.1
theorem dX8_know_104 : decode cX8_know 104 = .ok (.iadd, 1) := bX8_know_101.2.2.2.1
theorem dX8_know_105 : decode cX8_know 105 = .ok (.iastore, 1) := bX8_know_101.2.2.2.2.1
theorem dX8_know_106 : decode cX8_know 106 = .ok (.return_, 1) := bX8_know_101.2.2.2.2.2
theorem bX8_isLost_0 : (decode cX8_isLost 0 = .ok (.aload_n 0, 1)) ∧ (decode cX8_isLost 1 = .ok (.getfield 13, 3)) ∧ (decode cX8_isLost 4 = .ok (.bipush 35, 2)) ∧ (decode cX8_isLost 6 = .ok (.iaload, 1)) ∧ (decode cX8_isLost 7 = .ok (.iload_n 1, 1)) ∧ (decode cX8_isLost 8 = .ok (.invokestatic 61, 3)) ∧ (decode cX8_isLost 11 = .ok (.ireturn, 1)) := by decide +kernel
theorem dX8_isLost_0 : decode cX8_isLost 0 = .ok (.aload_n 0, 1) := bX8_isLost_0.1
theorem dX8_isLost_1 : decode cX8_isLost 1 = .ok (.getfield 13, 3) := bX8_isLost_0.2.1
theorem dX8_isLost_4 : decode cX8_isLost 4 = .ok (.bipush 35, 2) := bX8_isLost_0.2.2.1
theorem dX8_isLost_6 : decode cX8_isLost 6 = .ok (.iaload, 1) := bX8_isLost_0.2.2.2.1
theorem dX8_isLost_7 : decode cX8_isLost 7 = .ok (.iload_n 1, 1) := bX8_isLost_0.2.2.2.2.1
theorem dX8_isLost_8 : decode cX8_isLost 8 = .ok (.invokestatic 61, 3) := bX8_isLost_0.2.2.2.2.2.1
theorem dX8_isLost_11 : decode cX8_isLost 11 = .ok (.ireturn, 1) := bX8_isLost_0.2.2.2.2.2.2
theorem bX8_owns_0 : (decode cX8_owns 0 = .ok (.aload_n 0, 1)) ∧ (decode cX8_owns 1 = .ok (.iload_n 1, 1)) ∧ (decode cX8_owns 2 = .ok (.invokevirtual 161, 3)) ∧ (decode cX8_owns 5 = .ok (.ifCond .eq 11, 3)) ∧ (decode cX8_owns 8 = .ok (.aload_n 0, 1)) ∧ (decode cX8_owns 9 = .ok (.iload_n 2, 1)) ∧ (decode cX8_owns 10 = .ok (.invokevirtual 164, 3)) ∧ (decode cX8_owns 13 = .ok (.ifCond .ne 8, 3)) ∧ (decode cX8_owns 16 = .ok (.aload_n 0, 1)) ∧ (decode cX8_owns 17 = .ok (.invokevirtual 69, 3)) ∧ (decode cX8_owns 20 = .ok (.ireturn, 1)) ∧ (decode cX8_owns 21 = .ok (.aload_n 0, 1)) ∧ (decode cX8_owns 22 = .ok (.iload_n 1, 1)) ∧ (decode cX8_owns 23 = .ok (.invokevirtual 167, 3)) ∧ (decode cX8_owns 26 = .ok (.ifCond .ne 32, 3)) ∧ (decode cX8_owns 29 = .ok (.aload_n 0, 1)) := by decide +kernel
theorem dX8_owns_0 : decode cX8_owns 0 = .ok (.aload_n 0, 1) := bX8_owns_0.1
theorem dX8_owns_1 : decode cX8_owns 1 = .ok (.iload_n 1, 1) := bX8_owns_0.2.1
theorem dX8_owns_2 : decode cX8_owns 2 = .ok (.invokevirtual 161, 3) := bX8_owns_0.2.2.1
theorem dX8_owns_5 : decode cX8_owns 5 = .ok (.ifCond .eq 11, 3) := bX8_owns_0.2.2.2.1
theorem dX8_owns_8 : decode cX8_owns 8 = .ok (.aload_n 0, 1) := bX8_owns_0.2.2.2.2.1
theorem dX8_owns_9 : decode cX8_owns 9 = .ok (.iload_n 2, 1) := bX8_owns_0.2.2.2.2.2.1
theorem dX8_owns_10 : decode cX8_owns 10 = .ok (.invokevirtual 164, 3) := bX8_owns_0.2.2.2.2.2.2.1
theorem dX8_owns_13 : decode cX8_owns 13 = .ok (.ifCond .ne 8, 3) := bX8_owns_0.2.2.2.2.2.2.2.1
theorem dX8_owns_16 : decode cX8_owns 16 = .ok (.aload_n 0, 1) := bX8_owns_0.2.2.2.2.2.2.2.2.1
theorem dX8_owns_17 : decode cX8_owns 17 = .ok (.invokevirtual 69, 3) := bX8_owns_0.2.2.2.2.2.2.2.2.2.1
theorem dX8_owns_20 : decode cX8_owns 20 = .ok (.ireturn, 1) := bX8_owns_0.2.2.2.2.2.2.2.2.2.2.1
theorem dX8_owns_21 : decode cX8_owns 21 = .ok (.aload_n 0, 1) := bX8_owns_0.2.2.2.2.2.2.2.2.2.2.2.1
theorem dX8_owns_22 : decode cX8_owns 22 = .ok (.iload_n 1, 1) := bX8_owns_0.2.2.2.2.2.2.2.2.2.2.2.2.1
theorem dX8_owns_23 : decode cX8_owns 23 = .ok (.invokevirtual 167, 3) := bX8_owns_0.2.2.2.2.2.2.2.2.2.2.2.2.2.1
theorem dX8_owns_26 : decode cX8_owns 26 = .ok (.ifCond .ne 32, 3) := bX8_owns_0.2.2.2.2.2.2.2.2.2.2.2.2.2.2.1
theorem dX8_owns_29 : decode cX8_owns 29 = .ok (.aload_n 0, 1) := bX8_owns_0.2.2.2.2.2.2.2.2.2.2.2.2.2.2.2
theorem bX8_owns_30 : (decode cX8_owns 30 = .ok (.getfield 13, 3)) ∧ (decode cX8_owns 33 = .ok (.bipush 43, 2)) ∧ (decode cX8_owns 35 = .ok (.iload_n 1, 1)) ∧ (decode cX8_owns 36 = .ok (.iadd, 1)) ∧ (decode cX8_owns 37 = .ok (.iaload, 1)) ∧ (decode cX8_owns 38 = .ok (.iconst (-1), 1)) ∧ (decode cX8_owns 39 = .ok (.if_icmp .ne 19, 3)) ∧ (decode cX8_owns 42 = .ok (.aload_n 0, 1)) ∧ (decode cX8_owns 43 = .ok (.iconst 0, 1)) ∧ (decode cX8_owns 44 = .ok (.aload_n 0, 1)) ∧ (decode cX8_owns 45 = .ok (.getfield 13, 3)) ∧ (decode cX8_owns 48 = .ok (.bipush 34, 2)) ∧ (decode cX8_owns 50 = .ok (.iload_n 2, 1)) ∧ (decode cX8_owns 51 = .ok (.invokevirtual 124, 3)) ∧ (decode cX8_owns 54 = .ok (.iconst (-1), 1)) ∧ (decode cX8_owns 55 = .ok (.if_icmp .eq 8, 3)) := by decide +kernel
theorem dX8_owns_30 : decode cX8_owns 30 = .ok (.getfield 13, 3) := bX8_owns_30.1
theorem dX8_owns_33 : decode cX8_owns 33 = .ok (.bipush 43, 2) := bX8_owns_30.2.1
theorem dX8_owns_35 : decode cX8_owns 35 = .ok (.iload_n 1, 1) := bX8_owns_30.2.2.1
theorem dX8_owns_36 : decode cX8_owns 36 = .ok (.iadd, 1) := bX8_owns_30.2.2.2.1
theorem dX8_owns_37 : decode cX8_owns 37 = .ok (.iaload, 1) := bX8_owns_30.2.2.2.2.1
theorem dX8_owns_38 : decode cX8_owns 38 = .ok (.iconst (-1), 1) := bX8_owns_30.2.2.2.2.2.1
theorem dX8_owns_39 : decode cX8_owns 39 = .ok (.if_icmp .ne 19, 3) := bX8_owns_30.2.2.2.2.2.2.1
theorem dX8_owns_42 : decode cX8_owns 42 = .ok (.aload_n 0, 1) := bX8_owns_30.2.2.2.2.2.2.2.1
theorem dX8_owns_43 : decode cX8_owns 43 = .ok (.iconst 0, 1) := bX8_owns_30.2.2.2.2.2.2.2.2.1
theorem dX8_owns_44 : decode cX8_owns 44 = .ok (.aload_n 0, 1) := bX8_owns_30.2.2.2.2.2.2.2.2.2.1
theorem dX8_owns_45 : decode cX8_owns 45 = .ok (.getfield 13, 3) := bX8_owns_30.2.2.2.2.2.2.2.2.2.2.1
theorem dX8_owns_48 : decode cX8_owns 48 = .ok (.bipush 34, 2) := bX8_owns_30.2.2.2.2.2.2.2.2.2.2.2.1
theorem dX8_owns_50 : decode cX8_owns 50 = .ok (.iload_n 2, 1) := bX8_owns_30.2.2.2.2.2.2.2.2.2.2.2.2.1
theorem dX8_owns_51 : decode cX8_owns 51 = .ok (.invokevirtual 124, 3) := bX8_owns_30.2.2.2.2.2.2.2.2.2.2.2.2.2.1
theorem dX8_owns_54 : decode cX8_owns 54 = .ok (.iconst (-1), 1) := bX8_owns_30.2.2.2.2.2.2.2.2.2.2.2.2.2.2.1
theorem dX8_owns_55 : decode cX8_owns 55 = .ok (.if_icmp .eq 8, 3) := bX8_owns_30.2.2.2.2.2.2.2.2.2.2.2.2.2.2.2
theorem bX8_owns_58 : (decode cX8_owns 58 = .ok (.aload_n 0, 1)) ∧ (decode cX8_owns 59 = .ok (.invokevirtual 170, 3)) ∧ (decode cX8_owns 62 = .ok (.ireturn, 1)) ∧ (decode cX8_owns 63 = .ok (.aload_n 0, 1)) ∧ (decode cX8_owns 64 = .ok (.invokevirtual 173, 3)) ∧ (decode cX8_owns 67 = .ok (.aload_n 0, 1)) ∧ (decode cX8_owns 68 = .ok (.getfield 13, 3)) ∧ (decode cX8_owns 71 = .ok (.bipush 43, 2)) ∧ (decode cX8_owns 73 = .ok (.iload_n 1, 1)) ∧ (decode cX8_owns 74 = .ok (.iadd, 1)) ∧ (decode cX8_owns 75 = .ok (.iload_n 2, 1)) ∧ (decode cX8_owns 76 = .ok (.iastore, 1)) ∧ (decode cX8_owns 77 = .ok (.aload_n 0, 1)) ∧ (decode cX8_owns 78 = .ok (.iconst 0, 1)) ∧ (decode cX8_owns 79 = .ok (.aload_n 0, 1)) ∧ (decode cX8_owns 80 = .ok (.getfield 13, 3)) := by decide +kernel
theorem dX8_owns_58 : decode cX8_owns 58 = .ok (.aload_n 0, 1) := bX8_owns_58.1
theorem dX8_owns_59 : decode cX8_owns 59 = .ok (.invokevirtual 170, 3) := bX8_owns_58.2.1
theorem dX8_owns_62 : decode cX8_owns 62 = .ok (.ireturn, 1) := bX8_owns_58.2.2.1
theorem dX8_owns_63 : decode cX8_owns 63 = .ok (.aload_n 0, 1) := bX8_owns_58.2.2.2.1
theorem dX8_owns_64 : decode cX8_owns 64 = .ok (.invokevirtual 173, 3) := bX8_owns_58.2.2.2.2.1
theorem dX8_owns_67 : decode cX8_owns 67 = .ok (.aload_n 0, 1) := bX8_owns_58.2.2.2.2.2.1
theorem dX8_owns_68 : decode cX8_owns 68 = .ok (.getfield 13, 3) := bX8_owns_58.2.2.2.2.2.2.1
theorem dX8_owns_71 : decode cX8_owns 71 = .ok (.bipush 43, 2) := bX8_owns_58.2.2.2.2.2.2.2.1
theorem dX8_owns_73 : decode cX8_owns 73 = .ok (.iload_n 1, 1) := bX8_owns_58.2.2.2.2.2.2.2.2.1
theorem dX8_owns_74 : decode cX8_owns 74 = .ok (.iadd, 1) := bX8_owns_58.2.2.2.2.2.2.2.2.2.1
theorem dX8_owns_75 : decode cX8_owns 75 = .ok (.iload_n 2, 1) := bX8_owns_58.2.2.2.2.2.2.2.2.2.2.1
theorem dX8_owns_76 : decode cX8_owns 76 = .ok (.iastore, 1) := bX8_owns_58.2.2.2.2.2.2.2.2.2.2.2.1
theorem dX8_owns_77 : decode cX8_owns 77 = .ok (.aload_n 0, 1) := bX8_owns_58.2.2.2.2.2.2.2.2.2.2.2.2.1
theorem dX8_owns_78 : decode cX8_owns 78 = .ok (.iconst 0, 1) := bX8_owns_58.2.2.2.2.2.2.2.2.2.2.2.2.2.1
theorem dX8_owns_79 : decode cX8_owns 79 = .ok (.aload_n 0, 1) := bX8_owns_58.2.2.2.2.2.2.2.2.2.2.2.2.2.2.1
theorem dX8_owns_80 : decode cX8_owns 80 = .ok (.getfield 13, 3) := bX8_owns_58.2.2.2.2.2.2.2.2.2.2.2.2.2.2.2
theorem bX8_owns_83 : (decode cX8_owns 83 = .ok (.bipush 34, 2)) ∧ (decode cX8_owns 85 = .ok (.iload_n 1, 1)) ∧ (decode cX8_owns 86 = .ok (.invokevirtual 65, 3)) ∧ (decode cX8_owns 89 = .ok (.ifCond .eq 7, 3)) ∧ (decode cX8_owns 92 = .ok (.iconst 1, 1)) ∧ (decode cX8_owns 93 = .ok (.goto 4, 3)) ∧ (decode cX8_owns 96 = .ok (.iconst 0, 1)) ∧ (decode cX8_owns 97 = .ok (.ireturn, 1)) := by decide +kernel
theorem dX8_owns_83 : decode cX8_owns 83 = .ok (.bipush 34, 2) := bX8_owns_83.1
theorem dX8_owns_85 : decode cX8_owns 85 = .ok (.iload_n 1, 1) := bX8_owns_83.2.1
theorem dX8_owns_86 : decode cX8_owns 86 = .ok (.invokevirtual 65, 3) := bX8_owns_83.2.2.1
theorem dX8_owns_89 : decode cX8_owns 89 = .ok (.ifCond .eq 7, 3) := bX8_owns_83.2.2.2.1
theorem dX8_owns_92 : decode cX8_owns 92 = .ok (.iconst 1, 1) := bX8_owns_83.2.2.2.2.1
theorem dX8_owns_93 : decode cX8_owns 93 = .ok (.goto 4, 3) := bX8_owns_83.2.2.2.2.2.1
theorem dX8_owns_96 : decode cX8_owns 96 = .ok (.iconst 0, 1) := bX8_owns_83.2.2.2.2.2.2.1
theorem dX8_owns_97 : decode cX8_owns 97 = .ok (.ireturn, 1) := bX8_owns_83.2.2.2.2.2.2.2
theorem bX8_leaves_0 : (decode cX8_leaves 0 = .ok (.aload_n 0, 1)) ∧ (decode cX8_leaves 1 = .ok (.iload_n 1, 1)) ∧ (decode cX8_leaves 2 = .ok (.invokevirtual 161, 3)) ∧ (decode cX8_leaves 5 = .ok (.ifCond .ne 8, 3)) ∧ (decode cX8_leaves 8 = .ok (.aload_n 0, 1)) ∧ (decode cX8_leaves 9 = .ok (.invokevirtual 69, 3)) ∧ (decode cX8_leaves 12 = .ok (.ireturn, 1)) ∧ (decode cX8_leaves 13 = .ok (.aload_n 0, 1)) ∧ (decode cX8_leaves 14 = .ok (.getfield 13, 3)) ∧ (decode cX8_leaves 17 = .ok (.bipush 43, 2)) ∧ (decode cX8_leaves 19 = .ok (.iload_n 1, 1)) ∧ (decode cX8_leaves 20 = .ok (.iadd, 1)) ∧ (decode cX8_leaves 21 = .ok (.iaload, 1)) ∧ (decode cX8_leaves 22 = .ok (.istore_n 2, 1)) ∧ (decode cX8_leaves 23 = .ok (.iload_n 2, 1)) ∧ (decode cX8_leaves 24 = .ok (.iconst (-1), 1)) := by decide +kernel
theorem dX8_leaves_0 : decode cX8_leaves 0 = .ok (.aload_n 0, 1) := bX8_leaves_0.1
theorem dX8_leaves_1 : decode cX8_leaves 1 = .ok (.iload_n 1, 1) := bX8_leaves_0.2.1
theorem dX8_leaves_2 : decode cX8_leaves 2 = .ok (.invokevirtual 161, 3) := bX8_leaves_0.2.2.1
theorem dX8_leaves_5 : decode cX8_leaves 5 = .ok (.ifCond .ne 8, 3) := bX8_leaves_0.2.2.2.1
theorem dX8_leaves_8 : decode cX8_leaves 8 = .ok (.aload_n 0, 1) := bX8_leaves_0.2.2.2.2.1
theorem dX8_leaves_9 : decode cX8_leaves 9 = .ok (.invokevirtual 69, 3) := bX8_leaves_0.2.2.2.2.2.1
theorem dX8_leaves_12 : decode cX8_leaves 12 = .ok (.ireturn, 1) := bX8_leaves_0.2.2.2.2.2.2.1
theorem dX8_leaves_13 : decode cX8_leaves 13 = .ok (.aload_n 0, 1) := bX8_leaves_0.2.2.2.2.2.2.2.1
theorem dX8_leaves_14 : decode cX8_leaves 14 = .ok (.getfield 13, 3) := bX8_leaves_0.2.2.2.2.2.2.2.2.1
theorem dX8_leaves_17 : decode cX8_leaves 17 = .ok (.bipush 43, 2) := bX8_leaves_0.2.2.2.2.2.2.2.2.2.1
theorem dX8_leaves_19 : decode cX8_leaves 19 = .ok (.iload_n 1, 1) := bX8_leaves_0.2.2.2.2.2.2.2.2.2.2.1
theorem dX8_leaves_20 : decode cX8_leaves 20 = .ok (.iadd, 1) := bX8_leaves_0.2.2.2.2.2.2.2.2.2.2.2.1
theorem dX8_leaves_21 : decode cX8_leaves 21 = .ok (.iaload, 1) := bX8_leaves_0.2.2.2.2.2.2.2.2.2.2.2.2.1
theorem dX8_leaves_22 : decode cX8_leaves 22 = .ok (.istore_n 2, 1) := bX8_leaves_0.2.2.2.2.2.2.2.2.2.2.2.2.2.1
theorem dX8_leaves_23 : decode cX8_leaves 23 = .ok (.iload_n 2, 1) := bX8_leaves_0.2.2.2.2.2.2.2.2.2.2.2.2.2.2.1
theorem dX8_leaves_24 : decode cX8_leaves 24 = .ok (.iconst (-1), 1) := bX8_leaves_0.2.2.2.2.2.2.2.2.2.2.2.2.2.2.2
theorem bX8_leaves_25 : (decode cX8_leaves 25 = .ok (.if_icmp .ne 8, 3)) ∧ (decode cX8_leaves 28 = .ok (.aload_n 0, 1)) ∧ (decode cX8_leaves 29 = .ok (.invokevirtual 170, 3)) ∧ (decode cX8_leaves 32 = .ok (.ireturn, 1)) ∧ (decode cX8_leaves 33 = .ok (.aload_n 0, 1)) ∧ (decode cX8_leaves 34 = .ok (.invokevirtual 173, 3)) ∧ (decode cX8_leaves 37 = .ok (.aload_n 0, 1)) ∧ (decode cX8_leaves 38 = .ok (.getfield 13, 3)) ∧ (decode cX8_leaves 41 = .ok (.bipush 43, 2)) ∧ (decode cX8_leaves 43 = .ok (.iload_n 1, 1)) ∧ (decode cX8_leaves 44 = .ok (.iadd, 1)) ∧ (decode cX8_leaves 45 = .ok (.iconst (-1), 1)) ∧ (decode cX8_leaves 46 = .ok (.iastore, 1)) ∧ (decode cX8_leaves 47 = .ok (.iload_n 2, 1)) ∧ (decode cX8_leaves 48 = .ok (.ireturn, 1)) := by decide +kernel
theorem dX8_leaves_25 : decode cX8_leaves 25 = .ok (.if_icmp .ne 8, 3) := bX8_leaves_25.1
theorem dX8_leaves_28 : decode cX8_leaves 28 = .ok (.aload_n 0, 1) := bX8_leaves_25.2.1
theorem dX8_leaves_29 : decode cX8_leaves 29 = .ok (.invokevirtual 170, 3) := bX8_leaves_25.2.2.1
theorem dX8_leaves_32 : decode cX8_leaves 32 = .ok (.ireturn, 1) := bX8_leaves_25.2.2.2.1
theorem dX8_leaves_33 : decode cX8_leaves 33 = .ok (.aload_n 0, 1) := bX8_leaves_25.2.2.2.2.1
theorem dX8_leaves_34 : decode cX8_leaves 34 = .ok (.invokevirtual 173, 3) := bX8_leaves_25.2.2.2.2.2.1
theorem dX8_leaves_37 : decode cX8_leaves 37 = .ok (.aload_n 0, 1) := bX8_leaves_25.2.2.2.2.2.2.1
theorem dX8_leaves_38 : decode cX8_leaves 38 = .ok (.getfield 13, 3) := bX8_leaves_25.2.2.2.2.2.2.2.1
theorem dX8_leaves_41 : decode cX8_leaves 41 = .ok (.bipush 43, 2) := bX8_leaves_25.2.2.2.2.2.2.2.2.1
theorem dX8_leaves_43 : decode cX8_leaves 43 = .ok (.iload_n 1, 1) := bX8_leaves_25.2.2.2.2.2.2.2.2.2.1
theorem dX8_leaves_44 : decode cX8_leaves 44 = .ok (.iadd, 1) := bX8_leaves_25.2.2.2.2.2.2.2.2.2.2.1
theorem dX8_leaves_45 : decode cX8_leaves 45 = .ok (.iconst (-1), 1) := bX8_leaves_25.2.2.2.2.2.2.2.2.2.2.2.1
theorem dX8_leaves_46 : decode cX8_leaves 46 = .ok (.iastore, 1) := bX8_leaves_25.2.2.2.2.2.2.2.2.2.2.2.2.1
theorem dX8_leaves_47 : decode cX8_leaves 47 = .ok (.iload_n 2, 1) := bX8_leaves_25.2.2.2.2.2.2.2.2.2.2.2.2.2.1
theorem dX8_leaves_48 : decode cX8_leaves 48 = .ok (.ireturn, 1) := bX8_leaves_25.2.2.2.2.2.2.2.2.2.2.2.2.2.2
theorem bX8_years_0 : (decode cX8_years 0 = .ok (.iload_n 1, 1)) ∧ (decode cX8_years 1 = .ok (.iconst 1, 1)) ∧ (decode cX8_years 2 = .ok (.bipush 60, 2)) ∧ (decode cX8_years 4 = .ok (.invokestatic 44, 3)) ∧ (decode cX8_years 7 = .ok (.ifCond .ne 8, 3)) ∧ (decode cX8_years 10 = .ok (.aload_n 0, 1)) ∧ (decode cX8_years 11 = .ok (.invokevirtual 69, 3)) ∧ (decode cX8_years 14 = .ok (.ireturn, 1)) ∧ (decode cX8_years 15 = .ok (.aload_n 0, 1)) ∧ (decode cX8_years 16 = .ok (.invokevirtual 173, 3)) ∧ (decode cX8_years 19 = .ok (.iconst 0, 1)) ∧ (decode cX8_years 20 = .ok (.istore_n 2, 1)) ∧ (decode cX8_years 21 = .ok (.iload_n 2, 1)) ∧ (decode cX8_years 22 = .ok (.iload_n 1, 1)) ∧ (decode cX8_years 23 = .ok (.if_icmp .ge 33, 3)) ∧ (decode cX8_years 26 = .ok (.aload_n 0, 1)) := by decide +kernel
theorem dX8_years_0 : decode cX8_years 0 = .ok (.iload_n 1, 1) := bX8_years_0.1
theorem dX8_years_1 : decode cX8_years 1 = .ok (.iconst 1, 1) := bX8_years_0.2.1
theorem dX8_years_2 : decode cX8_years 2 = .ok (.bipush 60, 2) := bX8_years_0.2.2.1
theorem dX8_years_4 : decode cX8_years 4 = .ok (.invokestatic 44, 3) := bX8_years_0.2.2.2.1
theorem dX8_years_7 : decode cX8_years 7 = .ok (.ifCond .ne 8, 3) := bX8_years_0.2.2.2.2.1
theorem dX8_years_10 : decode cX8_years 10 = .ok (.aload_n 0, 1) := bX8_years_0.2.2.2.2.2.1
theorem dX8_years_11 : decode cX8_years 11 = .ok (.invokevirtual 69, 3) := bX8_years_0.2.2.2.2.2.2.1
theorem dX8_years_14 : decode cX8_years 14 = .ok (.ireturn, 1) := bX8_years_0.2.2.2.2.2.2.2.1
theorem dX8_years_15 : decode cX8_years 15 = .ok (.aload_n 0, 1) := bX8_years_0.2.2.2.2.2.2.2.2.1
theorem dX8_years_16 : decode cX8_years 16 = .ok (.invokevirtual 173, 3) := bX8_years_0.2.2.2.2.2.2.2.2.2.1
theorem dX8_years_19 : decode cX8_years 19 = .ok (.iconst 0, 1) := bX8_years_0.2.2.2.2.2.2.2.2.2.2.1
theorem dX8_years_20 : decode cX8_years 20 = .ok (.istore_n 2, 1) := bX8_years_0.2.2.2.2.2.2.2.2.2.2.2.1
theorem dX8_years_21 : decode cX8_years 21 = .ok (.iload_n 2, 1) := bX8_years_0.2.2.2.2.2.2.2.2.2.2.2.2.1
theorem dX8_years_22 : decode cX8_years 22 = .ok (.iload_n 1, 1) := bX8_years_0.2.2.2.2.2.2.2.2.2.2.2.2.2.1
theorem dX8_years_23 : decode cX8_years 23 = .ok (.if_icmp .ge 33, 3) := bX8_years_0.2.2.2.2.2.2.2.2.2.2.2.2.2.2.1
theorem dX8_years_26 : decode cX8_years 26 = .ok (.aload_n 0, 1) := bX8_years_0.2.2.2.2.2.2.2.2.2.2.2.2.2.2.2
theorem bX8_years_27 : (decode cX8_years 27 = .ok (.getfield 13, 3)) ∧ (decode cX8_years 30 = .ok (.bipush 34, 2)) ∧ (decode cX8_years 32 = .ok (.iaload, 1)) ∧ (decode cX8_years 33 = .ok (.sipush 999, 3)) ∧ (decode cX8_years 36 = .ok (.if_icmp .ge 20, 3)) ∧ (decode cX8_years 39 = .ok (.aload_n 0, 1)) ∧ (decode cX8_years 40 = .ok (.iconst 0, 1)) ∧ (decode cX8_years 41 = .ok (.aload_n 0, 1)) ∧ (decode cX8_years 42 = .ok (.getfield 13, 3)) ∧ (decode cX8_years 45 = .ok (.bipush 34, 2)) ∧ (decode cX8_years 47 = .ok (.invokevirtual 128, 3)) ∧ (decode cX8_years 50 = .ok (.iinc 2 1, 3)) ∧ (decode cX8_years 53 = .ok (.goto (-32), 3)) ∧ (decode cX8_years 56 = .ok (.aload_n 0, 1)) ∧ (decode cX8_years 57 = .ok (.aload_n 0, 1)) ∧ (decode cX8_years 58 = .ok (.getfield 13, 3)) := by decide +kernel
theorem dX8_years_27 : decode cX8_years 27 = .ok (.getfield 13, 3) := bX8_years_27.1
theorem dX8_years_30 : decode cX8_years 30 = .ok (.bipush 34, 2) := bX8_years_27.2.1
theorem dX8_years_32 : decode cX8_years 32 = .ok (.iaload, 1) := bX8_years_27.2.2.1
theorem dX8_years_33 : decode cX8_years 33 = .ok (.sipush 999, 3) := bX8_years_27.2.2.2.1
theorem dX8_years_36 : decode cX8_years 36 = .ok (.if_icmp .ge 20, 3) := bX8_years_27.2.2.2.2.1
theorem dX8_years_39 : decode cX8_years 39 = .ok (.aload_n 0, 1) := bX8_years_27.2.2.2.2.2.1
theorem dX8_years_40 : decode cX8_years 40 = .ok (.iconst 0, 1) := bX8_years_27.2.2.2.2.2.2.1
theorem dX8_years_41 : decode cX8_years 41 = .ok (.aload_n 0, 1) := bX8_years_27.2.2.2.2.2.2.2.1
theorem dX8_years_42 : decode cX8_years 42 = .ok (.getfield 13, 3) := bX8_years_27.2.2.2.2.2.2.2.2.1
theorem dX8_years_45 : decode cX8_years 45 = .ok (.bipush 34, 2) := bX8_years_27.2.2.2.2.2.2.2.2.2.1
theorem dX8_years_47 : decode cX8_years 47 = .ok (.invokevirtual 128, 3) := bX8_years_27.2.2.2.2.2.2.2.2.2.2.1
theorem dX8_years_50 : decode cX8_years 50 = .ok (.iinc 2 1, 3) := bX8_years_27.2.2.2.2.2.2.2.2.2.2.2.1
theorem dX8_years_53 : decode cX8_years 53 = .ok (.goto (-32), 3) := bX8_years_27.2.2.2.2.2.2.2.2.2.2.2.2.1
theorem dX8_years_56 : decode cX8_years 56 = .ok (.aload_n 0, 1) := bX8_years_27.2.2.2.2.2.2.2.2.2.2.2.2.2.1
theorem dX8_years_57 : decode cX8_years 57 = .ok (.aload_n 0, 1) := bX8_years_27.2.2.2.2.2.2.2.2.2.2.2.2.2.2.1
theorem dX8_years_58 : decode cX8_years 58 = .ok (.getfield 13, 3) := bX8_years_27.2.2.2.2.2.2.2.2.2.2.2.2.2.2.2
theorem bX8_years_61 : (decode cX8_years 61 = .ok (.bipush 34, 2)) ∧ (decode cX8_years 63 = .ok (.invokevirtual 176, 3)) ∧ (decode cX8_years 66 = .ok (.invokestatic 180, 3)) ∧ (decode cX8_years 69 = .ok (.ireturn, 1)) := by decide +kernel
theorem dX8_years_61 : decode cX8_years 61 = .ok (.bipush 34, 2) := bX8_years_61.1
theorem dX8_years_63 : decode cX8_years 63 = .ok (.invokevirtual 176, 3) := bX8_years_61.2.1
theorem dX8_years_66 : decode cX8_years 66 = .ok (.invokestatic 180, 3) := bX8_years_61.2.2.1
theorem dX8_years_69 : decode cX8_years 69 = .ok (.ireturn, 1) := bX8_years_61.2.2.2
theorem bX8_undo_0 : (decode cX8_undo 0 = .ok (.aload_n 0, 1)) ∧ (decode cX8_undo 1 = .ok (.getfield 13, 3)) ∧ (decode cX8_undo 4 = .ok (.iconst 5, 1)) ∧ (decode cX8_undo 5 = .ok (.iaload, 1)) ∧ (decode cX8_undo 6 = .ok (.ifCond .ne 8, 3)) ∧ (decode cX8_undo 9 = .ok (.aload_n 0, 1)) ∧ (decode cX8_undo 10 = .ok (.invokevirtual 170, 3)) ∧ (decode cX8_undo 13 = .ok (.ireturn, 1)) ∧ (decode cX8_undo 14 = .ok (.aload_n 0, 1)) ∧ (decode cX8_undo 15 = .ok (.getfield 13, 3)) ∧ (decode cX8_undo 18 = .ok (.iconst 5, 1)) ∧ (decode cX8_undo 19 = .ok (.dup2, 1)) ∧ (decode cX8_undo 20 = .ok (.iaload, 1)) ∧ (decode cX8_undo 21 = .ok (.iconst 1, 1)) ∧ (decode cX8_undo 22 = .ok (.isub, 1)) ∧ (decode cX8_undo 23 = .ok (.iastore, 1)) := by decide +kernel
theorem dX8_undo_0 : decode cX8_undo 0 = .ok (.aload_n 0, 1) := bX8_undo_0.1
theorem dX8_undo_1 : decode cX8_undo 1 = .ok (.getfield 13, 3) := bX8_undo_0.2.1
theorem dX8_undo_4 : decode cX8_undo 4 = .ok (.iconst 5, 1) := bX8_undo_0.2.2.1
theorem dX8_undo_5 : decode cX8_undo 5 = .ok (.iaload, 1) := bX8_undo_0.2.2.2.1
theorem dX8_undo_6 : decode cX8_undo 6 = .ok (.ifCond .ne 8, 3) := bX8_undo_0.2.2.2.2.1
theorem dX8_undo_9 : decode cX8_undo 9 = .ok (.aload_n 0, 1) := bX8_undo_0.2.2.2.2.2.1
theorem dX8_undo_10 : decode cX8_undo 10 = .ok (.invokevirtual 170, 3) := bX8_undo_0.2.2.2.2.2.2.1
theorem dX8_undo_13 : decode cX8_undo 13 = .ok (.ireturn, 1) := bX8_undo_0.2.2.2.2.2.2.2.1
theorem dX8_undo_14 : decode cX8_undo 14 = .ok (.aload_n 0, 1) := bX8_undo_0.2.2.2.2.2.2.2.2.1
theorem dX8_undo_15 : decode cX8_undo 15 = .ok (.getfield 13, 3) := bX8_undo_0.2.2.2.2.2.2.2.2.2.1
theorem dX8_undo_18 : decode cX8_undo 18 = .ok (.iconst 5, 1) := bX8_undo_0.2.2.2.2.2.2.2.2.2.2.1
theorem dX8_undo_19 : decode cX8_undo 19 = .ok (.dup2, 1) := bX8_undo_0.2.2.2.2.2.2.2.2.2.2.2.1
theorem dX8_undo_20 : decode cX8_undo 20 = .ok (.iaload, 1) := bX8_undo_0.2.2.2.2.2.2.2.2.2.2.2.2.1
theorem dX8_undo_21 : decode cX8_undo 21 = .ok (.iconst 1, 1) := bX8_undo_0.2.2.2.2.2.2.2.2.2.2.2.2.2.1
theorem dX8_undo_22 : decode cX8_undo 22 = .ok (.isub, 1) := bX8_undo_0.2.2.2.2.2.2.2.2.2.2.2.2.2.2.1
theorem dX8_undo_23 : decode cX8_undo 23 = .ok (.iastore, 1) := bX8_undo_0.2.2.2.2.2.2.2.2.2.2.2.2.2.2.2
theorem bX8_undo_24 : (decode cX8_undo 24 = .ok (.iconst 0, 1)) ∧ (decode cX8_undo 25 = .ok (.istore_n 1, 1)) ∧ (decode cX8_undo 26 = .ok (.iload_n 1, 1)) ∧ (decode cX8_undo 27 = .ok (.bipush 16, 2)) ∧ (decode cX8_undo 29 = .ok (.if_icmp .ge 37, 3)) ∧ (decode cX8_undo 32 = .ok (.aload_n 0, 1)) ∧ (decode cX8_undo 33 = .ok (.getfield 13, 3)) ∧ (decode cX8_undo 36 = .ok (.bipush 34, 2)) ∧ (decode cX8_undo 38 = .ok (.iload_n 1, 1)) ∧ (decode cX8_undo 39 = .ok (.iadd, 1)) ∧ (decode cX8_undo 40 = .ok (.aload_n 0, 1)) ∧ (decode cX8_undo 41 = .ok (.getfield 13, 3)) ∧ (decode cX8_undo 44 = .ok (.bipush 118, 2)) ∧ (decode cX8_undo 46 = .ok (.bipush 16, 2)) ∧ (decode cX8_undo 48 = .ok (.aload_n 0, 1)) ∧ (decode cX8_undo 49 = .ok (.getfield 13, 3)) := by decide +kernel
theorem dX8_undo_24 : decode cX8_undo 24 = .ok (.iconst 0, 1) := bX8_undo_24.1
theorem dX8_undo_25 : decode cX8_undo 25 = .ok (.istore_n 1, 1) := bX8_undo_24.2.1
theorem dX8_undo_26 : decode cX8_undo 26 = .ok (.iload_n 1, 1) := bX8_undo_24.2.2.1
theorem dX8_undo_27 : decode cX8_undo 27 = .ok (.bipush 16, 2) := bX8_undo_24.2.2.2.1
theorem dX8_undo_29 : decode cX8_undo 29 = .ok (.if_icmp .ge 37, 3) := bX8_undo_24.2.2.2.2.1
theorem dX8_undo_32 : decode cX8_undo 32 = .ok (.aload_n 0, 1) := bX8_undo_24.2.2.2.2.2.1
theorem dX8_undo_33 : decode cX8_undo 33 = .ok (.getfield 13, 3) := bX8_undo_24.2.2.2.2.2.2.1
theorem dX8_undo_36 : decode cX8_undo 36 = .ok (.bipush 34, 2) := bX8_undo_24.2.2.2.2.2.2.2.1
theorem dX8_undo_38 : decode cX8_undo 38 = .ok (.iload_n 1, 1) := bX8_undo_24.2.2.2.2.2.2.2.2.1
theorem dX8_undo_39 : decode cX8_undo 39 = .ok (.iadd, 1) := bX8_undo_24.2.2.2.2.2.2.2.2.2.1
theorem dX8_undo_40 : decode cX8_undo 40 = .ok (.aload_n 0, 1) := bX8_undo_24.2.2.2.2.2.2.2.2.2.2.1
theorem dX8_undo_41 : decode cX8_undo 41 = .ok (.getfield 13, 3) := bX8_undo_24.2.2.2.2.2.2.2.2.2.2.2.1
theorem dX8_undo_44 : decode cX8_undo 44 = .ok (.bipush 118, 2) := bX8_undo_24.2.2.2.2.2.2.2.2.2.2.2.2.1
theorem dX8_undo_46 : decode cX8_undo 46 = .ok (.bipush 16, 2) := bX8_undo_24.2.2.2.2.2.2.2.2.2.2.2.2.2.1
theorem dX8_undo_48 : decode cX8_undo 48 = .ok (.aload_n 0, 1) := bX8_undo_24.2.2.2.2.2.2.2.2.2.2.2.2.2.2.1
theorem dX8_undo_49 : decode cX8_undo 49 = .ok (.getfield 13, 3) := bX8_undo_24.2.2.2.2.2.2.2.2.2.2.2.2.2.2.2
theorem bX8_undo_52 : (decode cX8_undo 52 = .ok (.iconst 5, 1)) ∧ (decode cX8_undo 53 = .ok (.iaload, 1)) ∧ (decode cX8_undo 54 = .ok (.imul, 1)) ∧ (decode cX8_undo 55 = .ok (.iadd, 1)) ∧ (decode cX8_undo 56 = .ok (.iload_n 1, 1)) ∧ (decode cX8_undo 57 = .ok (.iadd, 1)) ∧ (decode cX8_undo 58 = .ok (.iaload, 1)) ∧ (decode cX8_undo 59 = .ok (.iastore, 1)) ∧ (decode cX8_undo 60 = .ok (.iinc 1 1, 3)) ∧ (decode cX8_undo 63 = .ok (.goto (-37), 3)) ∧ (decode cX8_undo 66 = .ok (.aload_n 0, 1)) ∧ (decode cX8_undo 67 = .ok (.getfield 13, 3)) ∧ (decode cX8_undo 70 = .ok (.bipush 34, 2)) ∧ (decode cX8_undo 72 = .ok (.iaload, 1)) ∧ (decode cX8_undo 73 = .ok (.ireturn, 1)) := by decide +kernel
theorem dX8_undo_52 : decode cX8_undo 52 = .ok (.iconst 5, 1) := bX8_undo_52.1
theorem dX8_undo_53 : decode cX8_undo 53 = .ok (.iaload, 1) := bX8_undo_52.2.1
theorem dX8_undo_54 : decode cX8_undo 54 = .ok (.imul, 1) := bX8_undo_52.2.2.1
theorem dX8_undo_55 : decode cX8_undo 55 = .ok (.iadd, 1) := bX8_undo_52.2.2.2.1
theorem dX8_undo_56 : decode cX8_undo 56 = .ok (.iload_n 1, 1) := bX8_undo_52.2.2.2.2.1
theorem dX8_undo_57 : decode cX8_undo 57 = .ok (.iadd, 1) := bX8_undo_52.2.2.2.2.2.1
theorem dX8_undo_58 : decode cX8_undo 58 = .ok (.iaload, 1) := bX8_undo_52.2.2.2.2.2.2.1
theorem dX8_undo_59 : decode cX8_undo 59 = .ok (.iastore, 1) := bX8_undo_52.2.2.2.2.2.2.2.1
theorem dX8_undo_60 : decode cX8_undo 60 = .ok (.iinc 1 1, 3) := bX8_undo_52.2.2.2.2.2.2.2.2.1
theorem dX8_undo_63 : decode cX8_undo 63 = .ok (.goto (-37), 3) := bX8_undo_52.2.2.2.2.2.2.2.2.2.1
theorem dX8_undo_66 : decode cX8_undo 66 = .ok (.aload_n 0, 1) := bX8_undo_52.2.2.2.2.2.2.2.2.2.2.1
theorem dX8_undo_67 : decode cX8_undo 67 = .ok (.getfield 13, 3) := bX8_undo_52.2.2.2.2.2.2.2.2.2.2.2.1
theorem dX8_undo_70 : decode cX8_undo 70 = .ok (.bipush 34, 2) := bX8_undo_52.2.2.2.2.2.2.2.2.2.2.2.2.1
theorem dX8_undo_72 : decode cX8_undo 72 = .ok (.iaload, 1) := bX8_undo_52.2.2.2.2.2.2.2.2.2.2.2.2.2.1
theorem dX8_undo_73 : decode cX8_undo 73 = .ok (.ireturn, 1) := bX8_undo_52.2.2.2.2.2.2.2.2.2.2.2.2.2.2
theorem bX8_told_0 : (decode cX8_told 0 = .ok (.iload_n 2, 1)) ∧ (decode cX8_told 1 = .ok (.tableswitch 71 0 3 #[31, 41, 51, 61], 31)) ∧ (decode cX8_told 32 = .ok (.aload_n 0, 1)) ∧ (decode cX8_told 33 = .ok (.getfield 13, 3)) ∧ (decode cX8_told 36 = .ok (.bipush 20, 2)) ∧ (decode cX8_told 38 = .ok (.iload_n 1, 1)) ∧ (decode cX8_told 39 = .ok (.iadd, 1)) ∧ (decode cX8_told 40 = .ok (.iaload, 1)) ∧ (decode cX8_told 41 = .ok (.ireturn, 1)) ∧ (decode cX8_told 42 = .ok (.aload_n 0, 1)) ∧ (decode cX8_told 43 = .ok (.getfield 13, 3)) ∧ (decode cX8_told 46 = .ok (.bipush 27, 2)) ∧ (decode cX8_told 48 = .ok (.iload_n 1, 1)) ∧ (decode cX8_told 49 = .ok (.iadd, 1)) ∧ (decode cX8_told 50 = .ok (.iaload, 1)) ∧ (decode cX8_told 51 = .ok (.ireturn, 1)) := by decide +kernel
theorem dX8_told_0 : decode cX8_told 0 = .ok (.iload_n 2, 1) := bX8_told_0.1
theorem dX8_told_1 : decode cX8_told 1 = .ok (.tableswitch 71 0 3 #[31, 41, 51, 61], 31) := bX8_told_0.2.1
theorem dX8_told_32 : decode cX8_told 32 = .ok (.aload_n 0, 1) := bX8_told_0.2.2.1
theorem dX8_told_33 : decode cX8_told 33 = .ok (.getfield 13, 3) := bX8_told_0.2.2.2.1
theorem dX8_told_36 : decode cX8_told 36 = .ok (.bipush 20, 2) := bX8_told_0.2.2.2.2.1
theorem dX8_told_38 : decode cX8_told 38 = .ok (.iload_n 1, 1) := bX8_told_0.2.2.2.2.2.1
theorem dX8_told_39 : decode cX8_told 39 = .ok (.iadd, 1) := bX8_told_0.2.2.2.2.2.2.1
theorem dX8_told_40 : decode cX8_told 40 = .ok (.iaload, 1) := bX8_told_0.2.2.2.2.2.2.2.1
theorem dX8_told_41 : decode cX8_told 41 = .ok (.ireturn, 1) := bX8_told_0.2.2.2.2.2.2.2.2.1
theorem dX8_told_42 : decode cX8_told 42 = .ok (.aload_n 0, 1) := bX8_told_0.2.2.2.2.2.2.2.2.2.1
theorem dX8_told_43 : decode cX8_told 43 = .ok (.getfield 13, 3) := bX8_told_0.2.2.2.2.2.2.2.2.2.2.1
theorem dX8_told_46 : decode cX8_told 46 = .ok (.bipush 27, 2) := bX8_told_0.2.2.2.2.2.2.2.2.2.2.2.1
theorem dX8_told_48 : decode cX8_told 48 = .ok (.iload_n 1, 1) := bX8_told_0.2.2.2.2.2.2.2.2.2.2.2.2.1
theorem dX8_told_49 : decode cX8_told 49 = .ok (.iadd, 1) := bX8_told_0.2.2.2.2.2.2.2.2.2.2.2.2.2.1
theorem dX8_told_50 : decode cX8_told 50 = .ok (.iaload, 1) := bX8_told_0.2.2.2.2.2.2.2.2.2.2.2.2.2.2.1
theorem dX8_told_51 : decode cX8_told 51 = .ok (.ireturn, 1) := bX8_told_0.2.2.2.2.2.2.2.2.2.2.2.2.2.2.2
theorem bX8_told_52 : (decode cX8_told 52 = .ok (.aload_n 0, 1)) ∧ (decode cX8_told 53 = .ok (.getfield 13, 3)) ∧ (decode cX8_told 56 = .ok (.bipush 36, 2)) ∧ (decode cX8_told 58 = .ok (.iload_n 1, 1)) ∧ (decode cX8_told 59 = .ok (.iadd, 1)) ∧ (decode cX8_told 60 = .ok (.iaload, 1)) ∧ (decode cX8_told 61 = .ok (.ireturn, 1)) ∧ (decode cX8_told 62 = .ok (.aload_n 0, 1)) ∧ (decode cX8_told 63 = .ok (.getfield 13, 3)) ∧ (decode cX8_told 66 = .ok (.bipush 43, 2)) ∧ (decode cX8_told 68 = .ok (.iload_n 1, 1)) ∧ (decode cX8_told 69 = .ok (.iadd, 1)) ∧ (decode cX8_told 70 = .ok (.iaload, 1)) ∧ (decode cX8_told 71 = .ok (.ireturn, 1)) ∧ (decode cX8_told 72 = .ok (.aload_n 0, 1)) ∧ (decode cX8_told 73 = .ok (.iload_n 1, 1)) := by decide +kernel
theorem dX8_told_52 : decode cX8_told 52 = .ok (.aload_n 0, 1) := bX8_told_52.1
theorem dX8_told_53 : decode cX8_told 53 = .ok (.getfield 13, 3) := bX8_told_52.2.1
theorem dX8_told_56 : decode cX8_told 56 = .ok (.bipush 36, 2) := bX8_told_52.2.2.1
theorem dX8_told_58 : decode cX8_told 58 = .ok (.iload_n 1, 1) := bX8_told_52.2.2.2.1
theorem dX8_told_59 : decode cX8_told 59 = .ok (.iadd, 1) := bX8_told_52.2.2.2.2.1
theorem dX8_told_60 : decode cX8_told 60 = .ok (.iaload, 1) := bX8_told_52.2.2.2.2.2.1
theorem dX8_told_61 : decode cX8_told 61 = .ok (.ireturn, 1) := bX8_told_52.2.2.2.2.2.2.1
theorem dX8_told_62 : decode cX8_told 62 = .ok (.aload_n 0, 1) := bX8_told_52.2.2.2.2.2.2.2.1
theorem dX8_told_63 : decode cX8_told 63 = .ok (.getfield 13, 3) := bX8_told_52.2.2.2.2.2.2.2.2.1
theorem dX8_told_66 : decode cX8_told 66 = .ok (.bipush 43, 2) := bX8_told_52.2.2.2.2.2.2.2.2.2.1
theorem dX8_told_68 : decode cX8_told 68 = .ok (.iload_n 1, 1) := bX8_told_52.2.2.2.2.2.2.2.2.2.2.1
theorem dX8_told_69 : decode cX8_told 69 = .ok (.iadd, 1) := bX8_told_52.2.2.2.2.2.2.2.2.2.2.2.1
theorem dX8_told_70 : decode cX8_told 70 = .ok (.iaload, 1) := bX8_told_52.2.2.2.2.2.2.2.2.2.2.2.2.1
theorem dX8_told_71 : decode cX8_told 71 = .ok (.ireturn, 1) := bX8_told_52.2.2.2.2.2.2.2.2.2.2.2.2.2.1
theorem dX8_told_72 : decode cX8_told 72 = .ok (.aload_n 0, 1) := bX8_told_52.2.2.2.2.2.2.2.2.2.2.2.2.2.2.1
theorem dX8_told_73 : decode cX8_told 73 = .ok (.iload_n 1, 1) := bX8_told_52.2.2.2.2.2.2.2.2.2.2.2.2.2.2.2
theorem bX8_told_74 : (decode cX8_told 74 = .ok (.invokevirtual 167, 3)) ∧ (decode cX8_told 77 = .ok (.ifCond .eq 7, 3)) ∧ (decode cX8_told 80 = .ok (.iconst 0, 1)) ∧ (decode cX8_told 81 = .ok (.goto 4, 3)) ∧ (decode cX8_told 84 = .ok (.iconst 1, 1)) ∧ (decode cX8_told 85 = .ok (.ireturn, 1)) := by decide +kernel
theorem dX8_told_74 : decode cX8_told 74 = .ok (.invokevirtual 167, 3) := bX8_told_74.1
theorem dX8_told_77 : decode cX8_told 77 = .ok (.ifCond .eq 7, 3) := bX8_told_74.2.1
theorem dX8_told_80 : decode cX8_told 80 = .ok (.iconst 0, 1) := bX8_told_74.2.2.1
theorem dX8_told_81 : decode cX8_told 81 = .ok (.goto 4, 3) := bX8_told_74.2.2.2.1
theorem dX8_told_84 : decode cX8_told 84 = .ok (.iconst 1, 1) := bX8_told_74.2.2.2.2.1
theorem dX8_told_85 : decode cX8_told 85 = .ok (.ireturn, 1) := bX8_told_74.2.2.2.2.2
theorem bX8_of_0 : (decode cX8_of 0 = .ok (.aload_n 0, 1)) ∧ (decode cX8_of 1 = .ok (.iload_n 1, 1)) ∧ (decode cX8_of 2 = .ok (.invokevirtual 161, 3)) ∧ (decode cX8_of 5 = .ok (.ifCond .eq 21, 3)) ∧ (decode cX8_of 8 = .ok (.iload_n 2, 1)) ∧ (decode cX8_of 9 = .ok (.iconst 0, 1)) ∧ (decode cX8_of 10 = .ok (.iconst 4, 1)) ∧ (decode cX8_of 11 = .ok (.invokestatic 44, 3)) ∧ (decode cX8_of 14 = .ok (.ifCond .eq 12, 3)) ∧ (decode cX8_of 17 = .ok (.aload_n 0, 1)) ∧ (decode cX8_of 18 = .ok (.iload_n 1, 1)) ∧ (decode cX8_of 19 = .ok (.iload_n 2, 1)) ∧ (decode cX8_of 20 = .ok (.invokevirtual 184, 3)) ∧ (decode cX8_of 23 = .ok (.goto 7, 3)) ∧ (decode cX8_of 26 = .ok (.aload_n 0, 1)) ∧ (decode cX8_of 27 = .ok (.invokevirtual 69, 3)) := by decide +kernel
theorem dX8_of_0 : decode cX8_of 0 = .ok (.aload_n 0, 1) := bX8_of_0.1
theorem dX8_of_1 : decode cX8_of 1 = .ok (.iload_n 1, 1) := bX8_of_0.2.1
theorem dX8_of_2 : decode cX8_of 2 = .ok (.invokevirtual 161, 3) := bX8_of_0.2.2.1
theorem dX8_of_5 : decode cX8_of 5 = .ok (.ifCond .eq 21, 3) := bX8_of_0.2.2.2.1
theorem dX8_of_8 : decode cX8_of 8 = .ok (.iload_n 2, 1) := bX8_of_0.2.2.2.2.1
theorem dX8_of_9 : decode cX8_of 9 = .ok (.iconst 0, 1) := bX8_of_0.2.2.2.2.2.1
theorem dX8_of_10 : decode cX8_of 10 = .ok (.iconst 4, 1) := bX8_of_0.2.2.2.2.2.2.1
theorem dX8_of_11 : decode cX8_of 11 = .ok (.invokestatic 44, 3) := bX8_of_0.2.2.2.2.2.2.2.1
theorem dX8_of_14 : decode cX8_of 14 = .ok (.ifCond .eq 12, 3) := bX8_of_0.2.2.2.2.2.2.2.2.1
theorem dX8_of_17 : decode cX8_of 17 = .ok (.aload_n 0, 1) := bX8_of_0.2.2.2.2.2.2.2.2.2.1
theorem dX8_of_18 : decode cX8_of 18 = .ok (.iload_n 1, 1) := bX8_of_0.2.2.2.2.2.2.2.2.2.2.1
theorem dX8_of_19 : decode cX8_of 19 = .ok (.iload_n 2, 1) := bX8_of_0.2.2.2.2.2.2.2.2.2.2.2.1
theorem dX8_of_20 : decode cX8_of 20 = .ok (.invokevirtual 184, 3) := bX8_of_0.2.2.2.2.2.2.2.2.2.2.2.2.1
theorem dX8_of_23 : decode cX8_of 23 = .ok (.goto 7, 3) := bX8_of_0.2.2.2.2.2.2.2.2.2.2.2.2.2.1
theorem dX8_of_26 : decode cX8_of 26 = .ok (.aload_n 0, 1) := bX8_of_0.2.2.2.2.2.2.2.2.2.2.2.2.2.2.1
theorem dX8_of_27 : decode cX8_of 27 = .ok (.invokevirtual 69, 3) := bX8_of_0.2.2.2.2.2.2.2.2.2.2.2.2.2.2.2
theorem dX8_of_30 : decode cX8_of 30 = .ok (.ireturn, 1) := by decide +kernel
theorem bX8_about_0 : (decode cX8_about 0 = .ok (.aload_n 0, 1)) ∧ (decode cX8_about 1 = .ok (.iload_n 1, 1)) ∧ (decode cX8_about 2 = .ok (.invokevirtual 164, 3)) ∧ (decode cX8_about 5 = .ok (.ifCond .eq 12, 3)) ∧ (decode cX8_about 8 = .ok (.iload_n 2, 1)) ∧ (decode cX8_about 9 = .ok (.iconst 0, 1)) ∧ (decode cX8_about 10 = .ok (.iconst 2, 1)) ∧ (decode cX8_about 11 = .ok (.invokestatic 44, 3)) ∧ (decode cX8_about 14 = .ok (.ifCond .ne 8, 3)) ∧ (decode cX8_about 17 = .ok (.aload_n 0, 1)) ∧ (decode cX8_about 18 = .ok (.invokevirtual 69, 3)) ∧ (decode cX8_about 21 = .ok (.ireturn, 1)) ∧ (decode cX8_about 22 = .ok (.iload_n 2, 1)) ∧ (decode cX8_about 23 = .ok (.ifCond .ne 15, 3)) ∧ (decode cX8_about 26 = .ok (.aload_n 0, 1)) ∧ (decode cX8_about 27 = .ok (.getfield 13, 3)) := by decide +kernel
theorem dX8_about_0 : decode cX8_about 0 = .ok (.aload_n 0, 1) := bX8_about_0.1
theorem dX8_about_1 : decode cX8_about 1 = .ok (.iload_n 1, 1) := bX8_about_0.2.1
theorem dX8_about_2 : decode cX8_about 2 = .ok (.invokevirtual 164, 3) := bX8_about_0.2.2.1
theorem dX8_about_5 : decode cX8_about 5 = .ok (.ifCond .eq 12, 3) := bX8_about_0.2.2.2.1
theorem dX8_about_8 : decode cX8_about 8 = .ok (.iload_n 2, 1) := bX8_about_0.2.2.2.2.1
theorem dX8_about_9 : decode cX8_about 9 = .ok (.iconst 0, 1) := bX8_about_0.2.2.2.2.2.1
theorem dX8_about_10 : decode cX8_about 10 = .ok (.iconst 2, 1) := bX8_about_0.2.2.2.2.2.2.1
theorem dX8_about_11 : decode cX8_about 11 = .ok (.invokestatic 44, 3) := bX8_about_0.2.2.2.2.2.2.2.1
theorem dX8_about_14 : decode cX8_about 14 = .ok (.ifCond .ne 8, 3) := bX8_about_0.2.2.2.2.2.2.2.2.1
theorem dX8_about_17 : decode cX8_about 17 = .ok (.aload_n 0, 1) := bX8_about_0.2.2.2.2.2.2.2.2.2.1
theorem dX8_about_18 : decode cX8_about 18 = .ok (.invokevirtual 69, 3) := bX8_about_0.2.2.2.2.2.2.2.2.2.2.1
theorem dX8_about_21 : decode cX8_about 21 = .ok (.ireturn, 1) := bX8_about_0.2.2.2.2.2.2.2.2.2.2.2.1
theorem dX8_about_22 : decode cX8_about 22 = .ok (.iload_n 2, 1) := bX8_about_0.2.2.2.2.2.2.2.2.2.2.2.2.1
theorem dX8_about_23 : decode cX8_about 23 = .ok (.ifCond .ne 15, 3) := bX8_about_0.2.2.2.2.2.2.2.2.2.2.2.2.2.1
theorem dX8_about_26 : decode cX8_about 26 = .ok (.aload_n 0, 1) := bX8_about_0.2.2.2.2.2.2.2.2.2.2.2.2.2.2.1
theorem dX8_about_27 : decode cX8_about 27 = .ok (.getfield 13, 3) := bX8_about_0.2.2.2.2.2.2.2.2.2.2.2.2.2.2.2
theorem bX8_about_30 : (decode cX8_about 30 = .ok (.bipush 6, 2)) ∧ (decode cX8_about 32 = .ok (.iload_n 1, 1)) ∧ (decode cX8_about 33 = .ok (.iadd, 1)) ∧ (decode cX8_about 34 = .ok (.iaload, 1)) ∧ (decode cX8_about 35 = .ok (.goto 32, 3)) ∧ (decode cX8_about 38 = .ok (.iload_n 2, 1)) ∧ (decode cX8_about 39 = .ok (.iconst 1, 1)) ∧ (decode cX8_about 40 = .ok (.if_icmp .ne 15, 3)) ∧ (decode cX8_about 43 = .ok (.aload_n 0, 1)) ∧ (decode cX8_about 44 = .ok (.getfield 13, 3)) ∧ (decode cX8_about 47 = .ok (.bipush 13, 2)) ∧ (decode cX8_about 49 = .ok (.iload_n 1, 1)) ∧ (decode cX8_about 50 = .ok (.iadd, 1)) ∧ (decode cX8_about 51 = .ok (.iaload, 1)) ∧ (decode cX8_about 52 = .ok (.goto 15, 3)) ∧ (decode cX8_about 55 = .ok (.aload_n 0, 1)) := by decide +kernel
theorem dX8_about_30 : decode cX8_about 30 = .ok (.bipush 6, 2) := bX8_about_30.1
theorem dX8_about_32 : decode cX8_about 32 = .ok (.iload_n 1, 1) := bX8_about_30.2.1
theorem dX8_about_33 : decode cX8_about 33 = .ok (.iadd, 1) := bX8_about_30.2.2.1
theorem dX8_about_34 : decode cX8_about 34 = .ok (.iaload, 1) := bX8_about_30.2.2.2.1
theorem dX8_about_35 : decode cX8_about 35 = .ok (.goto 32, 3) := bX8_about_30.2.2.2.2.1
theorem dX8_about_38 : decode cX8_about 38 = .ok (.iload_n 2, 1) := bX8_about_30.2.2.2.2.2.1
theorem dX8_about_39 : decode cX8_about 39 = .ok (.iconst 1, 1) := bX8_about_30.2.2.2.2.2.2.1
theorem dX8_about_40 : decode cX8_about 40 = .ok (.if_icmp .ne 15, 3) := bX8_about_30.2.2.2.2.2.2.2.1
theorem dX8_about_43 : decode cX8_about 43 = .ok (.aload_n 0, 1) := bX8_about_30.2.2.2.2.2.2.2.2.1
theorem dX8_about_44 : decode cX8_about 44 = .ok (.getfield 13, 3) := bX8_about_30.2.2.2.2.2.2.2.2.2.1
theorem dX8_about_47 : decode cX8_about 47 = .ok (.bipush 13, 2) := bX8_about_30.2.2.2.2.2.2.2.2.2.2.1
theorem dX8_about_49 : decode cX8_about 49 = .ok (.iload_n 1, 1) := bX8_about_30.2.2.2.2.2.2.2.2.2.2.2.1
theorem dX8_about_50 : decode cX8_about 50 = .ok (.iadd, 1) := bX8_about_30.2.2.2.2.2.2.2.2.2.2.2.2.1
theorem dX8_about_51 : decode cX8_about 51 = .ok (.iaload, 1) := bX8_about_30.2.2.2.2.2.2.2.2.2.2.2.2.2.1
theorem dX8_about_52 : decode cX8_about 52 = .ok (.goto 15, 3) := bX8_about_30.2.2.2.2.2.2.2.2.2.2.2.2.2.2.1
theorem dX8_about_55 : decode cX8_about 55 = .ok (.aload_n 0, 1) := bX8_about_30.2.2.2.2.2.2.2.2.2.2.2.2.2.2.2
theorem bX8_about_56 : (decode cX8_about 56 = .ok (.iconst 0, 1)) ∧ (decode cX8_about 57 = .ok (.aload_n 0, 1)) ∧ (decode cX8_about 58 = .ok (.getfield 13, 3)) ∧ (decode cX8_about 61 = .ok (.bipush 34, 2)) ∧ (decode cX8_about 63 = .ok (.iload_n 1, 1)) ∧ (decode cX8_about 64 = .ok (.invokevirtual 124, 3)) ∧ (decode cX8_about 67 = .ok (.ireturn, 1)) := by decide +kernel
theorem dX8_about_56 : decode cX8_about 56 = .ok (.iconst 0, 1) := bX8_about_56.1
theorem dX8_about_57 : decode cX8_about 57 = .ok (.aload_n 0, 1) := bX8_about_56.2.1
theorem dX8_about_58 : decode cX8_about 58 = .ok (.getfield 13, 3) := bX8_about_56.2.2.1
theorem dX8_about_61 : decode cX8_about 61 = .ok (.bipush 34, 2) := bX8_about_56.2.2.2.1
theorem dX8_about_63 : decode cX8_about 63 = .ok (.iload_n 1, 1) := bX8_about_56.2.2.2.2.1
theorem dX8_about_64 : decode cX8_about 64 = .ok (.invokevirtual 124, 3) := bX8_about_56.2.2.2.2.2.1
theorem dX8_about_67 : decode cX8_about 67 = .ok (.ireturn, 1) := bX8_about_56.2.2.2.2.2.2
theorem bX8_ageIn_0 : (decode cX8_ageIn 0 = .ok (.aload_n 0, 1)) ∧ (decode cX8_ageIn 1 = .ok (.getfield 13, 3)) ∧ (decode cX8_ageIn 4 = .ok (.bipush 36, 2)) ∧ (decode cX8_ageIn 6 = .ok (.iload_n 1, 1)) ∧ (decode cX8_ageIn 7 = .ok (.iadd, 1)) ∧ (decode cX8_ageIn 8 = .ok (.iaload, 1)) ∧ (decode cX8_ageIn 9 = .ok (.aload_n 0, 1)) ∧ (decode cX8_ageIn 10 = .ok (.iload_n 1, 1)) ∧ (decode cX8_ageIn 11 = .ok (.invokevirtual 167, 3)) ∧ (decode cX8_ageIn 14 = .ok (.ifCond .eq 7, 3)) ∧ (decode cX8_ageIn 17 = .ok (.iconst 0, 1)) ∧ (decode cX8_ageIn 18 = .ok (.goto 4, 3)) ∧ (decode cX8_ageIn 21 = .ok (.iload_n 2, 1)) ∧ (decode cX8_ageIn 22 = .ok (.iadd, 1)) ∧ (decode cX8_ageIn 23 = .ok (.istore_n 3, 1)) ∧ (decode cX8_ageIn 24 = .ok (.iload_n 3, 1)) := by decide +kernel
theorem dX8_ageIn_0 : decode cX8_ageIn 0 = .ok (.aload_n 0, 1) := bX8_ageIn_0.1
theorem dX8_ageIn_1 : decode cX8_ageIn 1 = .ok (.getfield 13, 3) := bX8_ageIn_0.2.1
theorem dX8_ageIn_4 : decode cX8_ageIn 4 = .ok (.bipush 36, 2) := bX8_ageIn_0.2.2.1
theorem dX8_ageIn_6 : decode cX8_ageIn 6 = .ok (.iload_n 1, 1) := bX8_ageIn_0.2.2.2.1
theorem dX8_ageIn_7 : decode cX8_ageIn 7 = .ok (.iadd, 1) := bX8_ageIn_0.2.2.2.2.1
theorem dX8_ageIn_8 : decode cX8_ageIn 8 = .ok (.iaload, 1) := bX8_ageIn_0.2.2.2.2.2.1
theorem dX8_ageIn_9 : decode cX8_ageIn 9 = .ok (.aload_n 0, 1) := bX8_ageIn_0.2.2.2.2.2.2.1
theorem dX8_ageIn_10 : decode cX8_ageIn 10 = .ok (.iload_n 1, 1) := bX8_ageIn_0.2.2.2.2.2.2.2.1
theorem dX8_ageIn_11 : decode cX8_ageIn 11 = .ok (.invokevirtual 167, 3) := bX8_ageIn_0.2.2.2.2.2.2.2.2.1
theorem dX8_ageIn_14 : decode cX8_ageIn 14 = .ok (.ifCond .eq 7, 3) := bX8_ageIn_0.2.2.2.2.2.2.2.2.2.1
theorem dX8_ageIn_17 : decode cX8_ageIn 17 = .ok (.iconst 0, 1) := bX8_ageIn_0.2.2.2.2.2.2.2.2.2.2.1
theorem dX8_ageIn_18 : decode cX8_ageIn 18 = .ok (.goto 4, 3) := bX8_ageIn_0.2.2.2.2.2.2.2.2.2.2.2.1
theorem dX8_ageIn_21 : decode cX8_ageIn 21 = .ok (.iload_n 2, 1) := bX8_ageIn_0.2.2.2.2.2.2.2.2.2.2.2.2.1
theorem dX8_ageIn_22 : decode cX8_ageIn 22 = .ok (.iadd, 1) := bX8_ageIn_0.2.2.2.2.2.2.2.2.2.2.2.2.2.1
theorem dX8_ageIn_23 : decode cX8_ageIn 23 = .ok (.istore_n 3, 1) := bX8_ageIn_0.2.2.2.2.2.2.2.2.2.2.2.2.2.2.1
theorem dX8_ageIn_24 : decode cX8_ageIn 24 = .ok (.iload_n 3, 1) := bX8_ageIn_0.2.2.2.2.2.2.2.2.2.2.2.2.2.2.2
theorem bX8_ageIn_25 : (decode cX8_ageIn 25 = .ok (.bipush 99, 2)) ∧ (decode cX8_ageIn 27 = .ok (.if_icmp .le 8, 3)) ∧ (decode cX8_ageIn 30 = .ok (.bipush 99, 2)) ∧ (decode cX8_ageIn 32 = .ok (.goto 4, 3)) ∧ (decode cX8_ageIn 35 = .ok (.iload_n 3, 1)) ∧ (decode cX8_ageIn 36 = .ok (.ireturn, 1)) := by decide +kernel
theorem dX8_ageIn_25 : decode cX8_ageIn 25 = .ok (.bipush 99, 2) := bX8_ageIn_25.1
theorem dX8_ageIn_27 : decode cX8_ageIn 27 = .ok (.if_icmp .le 8, 3) := bX8_ageIn_25.2.1
theorem dX8_ageIn_30 : decode cX8_ageIn 30 = .ok (.bipush 99, 2) := bX8_ageIn_25.2.2.1
theorem dX8_ageIn_32 : decode cX8_ageIn 32 = .ok (.goto 4, 3) := bX8_ageIn_25.2.2.2.1
theorem dX8_ageIn_35 : decode cX8_ageIn 35 = .ok (.iload_n 3, 1) := bX8_ageIn_25.2.2.2.2.1
theorem dX8_ageIn_36 : decode cX8_ageIn 36 = .ok (.ireturn, 1) := bX8_ageIn_25.2.2.2.2.2
theorem bX8_liftsIn_0 : (decode cX8_liftsIn 0 = .ok (.aload_n 0, 1)) ∧ (decode cX8_liftsIn 1 = .ok (.iconst 0, 1)) ∧ (decode cX8_liftsIn 2 = .ok (.iload_n 1, 1)) ∧ (decode cX8_liftsIn 3 = .ok (.aload_n 0, 1)) ∧ (decode cX8_liftsIn 4 = .ok (.iload_n 1, 1)) ∧ (decode cX8_liftsIn 5 = .ok (.iload_n 2, 1)) ∧ (decode cX8_liftsIn 6 = .ok (.invokevirtual 187, 3)) ∧ (decode cX8_liftsIn 9 = .ok (.invokevirtual 58, 3)) ∧ (decode cX8_liftsIn 12 = .ok (.ireturn, 1)) := by decide +kernel
theorem dX8_liftsIn_0 : decode cX8_liftsIn 0 = .ok (.aload_n 0, 1) := bX8_liftsIn_0.1
theorem dX8_liftsIn_1 : decode cX8_liftsIn 1 = .ok (.iconst 0, 1) := bX8_liftsIn_0.2.1
theorem dX8_liftsIn_2 : decode cX8_liftsIn 2 = .ok (.iload_n 1, 1) := bX8_liftsIn_0.2.2.1
theorem dX8_liftsIn_3 : decode cX8_liftsIn 3 = .ok (.aload_n 0, 1) := bX8_liftsIn_0.2.2.2.1
theorem dX8_liftsIn_4 : decode cX8_liftsIn 4 = .ok (.iload_n 1, 1) := bX8_liftsIn_0.2.2.2.2.1
theorem dX8_liftsIn_5 : decode cX8_liftsIn 5 = .ok (.iload_n 2, 1) := bX8_liftsIn_0.2.2.2.2.2.1
theorem dX8_liftsIn_6 : decode cX8_liftsIn 6 = .ok (.invokevirtual 187, 3) := bX8_liftsIn_0.2.2.2.2.2.2.1
theorem dX8_liftsIn_9 : decode cX8_liftsIn 9 = .ok (.invokevirtual 58, 3) := bX8_liftsIn_0.2.2.2.2.2.2.2.1
theorem dX8_liftsIn_12 : decode cX8_liftsIn 12 = .ok (.ireturn, 1) := bX8_liftsIn_0.2.2.2.2.2.2.2.2
theorem bX8_weighsIn_0 : (decode cX8_weighsIn 0 = .ok (.aload_n 0, 1)) ∧ (decode cX8_weighsIn 1 = .ok (.iconst 0, 1)) ∧ (decode cX8_weighsIn 2 = .ok (.iload_n 1, 1)) ∧ (decode cX8_weighsIn 3 = .ok (.aload_n 0, 1)) ∧ (decode cX8_weighsIn 4 = .ok (.getfield 13, 3)) ∧ (decode cX8_weighsIn 7 = .ok (.bipush 34, 2)) ∧ (decode cX8_weighsIn 9 = .ok (.iaload, 1)) ∧ (decode cX8_weighsIn 10 = .ok (.iload_n 2, 1)) ∧ (decode cX8_weighsIn 11 = .ok (.iadd, 1)) ∧ (decode cX8_weighsIn 12 = .ok (.invokevirtual 55, 3)) ∧ (decode cX8_weighsIn 15 = .ok (.ireturn, 1)) := by decide +kernel
theorem dX8_weighsIn_0 : decode cX8_weighsIn 0 = .ok (.aload_n 0, 1) := bX8_weighsIn_0.1
theorem dX8_weighsIn_1 : decode cX8_weighsIn 1 = .ok (.iconst 0, 1) := bX8_weighsIn_0.2.1
theorem dX8_weighsIn_2 : decode cX8_weighsIn 2 = .ok (.iload_n 1, 1) := bX8_weighsIn_0.2.2.1
theorem dX8_weighsIn_3 : decode cX8_weighsIn 3 = .ok (.aload_n 0, 1) := bX8_weighsIn_0.2.2.2.1
theorem dX8_weighsIn_4 : decode cX8_weighsIn 4 = .ok (.getfield 13, 3) := bX8_weighsIn_0.2.2.2.2.1
theorem dX8_weighsIn_7 : decode cX8_weighsIn 7 = .ok (.bipush 34, 2) := bX8_weighsIn_0.2.2.2.2.2.1
theorem dX8_weighsIn_9 : decode cX8_weighsIn 9 = .ok (.iaload, 1) := bX8_weighsIn_0.2.2.2.2.2.2.1
theorem dX8_weighsIn_10 : decode cX8_weighsIn 10 = .ok (.iload_n 2, 1) := bX8_weighsIn_0.2.2.2.2.2.2.2.1
theorem dX8_weighsIn_11 : decode cX8_weighsIn 11 = .ok (.iadd, 1) := bX8_weighsIn_0.2.2.2.2.2.2.2.2.1
theorem dX8_weighsIn_12 : decode cX8_weighsIn 12 = .ok (.invokevirtual 55, 3) := bX8_weighsIn_0.2.2.2.2.2.2.2.2.2.1
theorem dX8_weighsIn_15 : decode cX8_weighsIn 15 = .ok (.ireturn, 1) := bX8_weighsIn_0.2.2.2.2.2.2.2.2.2.2
theorem bX8_lifts_0 : (decode cX8_lifts 0 = .ok (.aload_n 0, 1)) ∧ (decode cX8_lifts 1 = .ok (.iload_n 1, 1)) ∧ (decode cX8_lifts 2 = .ok (.invokevirtual 161, 3)) ∧ (decode cX8_lifts 5 = .ok (.ifCond .eq 22, 3)) ∧ (decode cX8_lifts 8 = .ok (.iload_n 2, 1)) ∧ (decode cX8_lifts 9 = .ok (.iconst 0, 1)) ∧ (decode cX8_lifts 10 = .ok (.bipush 60, 2)) ∧ (decode cX8_lifts 12 = .ok (.invokestatic 44, 3)) ∧ (decode cX8_lifts 15 = .ok (.ifCond .eq 12, 3)) ∧ (decode cX8_lifts 18 = .ok (.aload_n 0, 1)) ∧ (decode cX8_lifts 19 = .ok (.iload_n 1, 1)) ∧ (decode cX8_lifts 20 = .ok (.iload_n 2, 1)) ∧ (decode cX8_lifts 21 = .ok (.invokevirtual 190, 3)) ∧ (decode cX8_lifts 24 = .ok (.goto 7, 3)) ∧ (decode cX8_lifts 27 = .ok (.aload_n 0, 1)) ∧ (decode cX8_lifts 28 = .ok (.invokevirtual 69, 3)) := by decide +kernel
theorem dX8_lifts_0 : decode cX8_lifts 0 = .ok (.aload_n 0, 1) := bX8_lifts_0.1
theorem dX8_lifts_1 : decode cX8_lifts 1 = .ok (.iload_n 1, 1) := bX8_lifts_0.2.1
theorem dX8_lifts_2 : decode cX8_lifts 2 = .ok (.invokevirtual 161, 3) := bX8_lifts_0.2.2.1
theorem dX8_lifts_5 : decode cX8_lifts 5 = .ok (.ifCond .eq 22, 3) := bX8_lifts_0.2.2.2.1
theorem dX8_lifts_8 : decode cX8_lifts 8 = .ok (.iload_n 2, 1) := bX8_lifts_0.2.2.2.2.1
theorem dX8_lifts_9 : decode cX8_lifts 9 = .ok (.iconst 0, 1) := bX8_lifts_0.2.2.2.2.2.1
theorem dX8_lifts_10 : decode cX8_lifts 10 = .ok (.bipush 60, 2) := bX8_lifts_0.2.2.2.2.2.2.1
theorem dX8_lifts_12 : decode cX8_lifts 12 = .ok (.invokestatic 44, 3) := bX8_lifts_0.2.2.2.2.2.2.2.1
theorem dX8_lifts_15 : decode cX8_lifts 15 = .ok (.ifCond .eq 12, 3) := bX8_lifts_0.2.2.2.2.2.2.2.2.1
theorem dX8_lifts_18 : decode cX8_lifts 18 = .ok (.aload_n 0, 1) := bX8_lifts_0.2.2.2.2.2.2.2.2.2.1
theorem dX8_lifts_19 : decode cX8_lifts 19 = .ok (.iload_n 1, 1) := bX8_lifts_0.2.2.2.2.2.2.2.2.2.2.1
theorem dX8_lifts_20 : decode cX8_lifts 20 = .ok (.iload_n 2, 1) := bX8_lifts_0.2.2.2.2.2.2.2.2.2.2.2.1
theorem dX8_lifts_21 : decode cX8_lifts 21 = .ok (.invokevirtual 190, 3) := bX8_lifts_0.2.2.2.2.2.2.2.2.2.2.2.2.1
theorem dX8_lifts_24 : decode cX8_lifts 24 = .ok (.goto 7, 3) := bX8_lifts_0.2.2.2.2.2.2.2.2.2.2.2.2.2.1
theorem dX8_lifts_27 : decode cX8_lifts 27 = .ok (.aload_n 0, 1) := bX8_lifts_0.2.2.2.2.2.2.2.2.2.2.2.2.2.2.1
theorem dX8_lifts_28 : decode cX8_lifts 28 = .ok (.invokevirtual 69, 3) := bX8_lifts_0.2.2.2.2.2.2.2.2.2.2.2.2.2.2.2
theorem dX8_lifts_31 : decode cX8_lifts 31 = .ok (.ireturn, 1) := by decide +kernel
theorem bX8_weighs_0 : (decode cX8_weighs 0 = .ok (.aload_n 0, 1)) ∧ (decode cX8_weighs 1 = .ok (.iload_n 1, 1)) ∧ (decode cX8_weighs 2 = .ok (.invokevirtual 164, 3)) ∧ (decode cX8_weighs 5 = .ok (.ifCond .eq 22, 3)) ∧ (decode cX8_weighs 8 = .ok (.iload_n 2, 1)) ∧ (decode cX8_weighs 9 = .ok (.iconst 0, 1)) ∧ (decode cX8_weighs 10 = .ok (.bipush 60, 2)) ∧ (decode cX8_weighs 12 = .ok (.invokestatic 44, 3)) ∧ (decode cX8_weighs 15 = .ok (.ifCond .eq 12, 3)) ∧ (decode cX8_weighs 18 = .ok (.aload_n 0, 1)) ∧ (decode cX8_weighs 19 = .ok (.iload_n 1, 1)) ∧ (decode cX8_weighs 20 = .ok (.iload_n 2, 1)) ∧ (decode cX8_weighs 21 = .ok (.invokevirtual 193, 3)) ∧ (decode cX8_weighs 24 = .ok (.goto 7, 3)) ∧ (decode cX8_weighs 27 = .ok (.aload_n 0, 1)) ∧ (decode cX8_weighs 28 = .ok (.invokevirtual 69, 3)) := by decide +kernel
theorem dX8_weighs_0 : decode cX8_weighs 0 = .ok (.aload_n 0, 1) := bX8_weighs_0.1
theorem dX8_weighs_1 : decode cX8_weighs 1 = .ok (.iload_n 1, 1) := bX8_weighs_0.2.1
theorem dX8_weighs_2 : decode cX8_weighs 2 = .ok (.invokevirtual 164, 3) := bX8_weighs_0.2.2.1
theorem dX8_weighs_5 : decode cX8_weighs 5 = .ok (.ifCond .eq 22, 3) := bX8_weighs_0.2.2.2.1
theorem dX8_weighs_8 : decode cX8_weighs 8 = .ok (.iload_n 2, 1) := bX8_weighs_0.2.2.2.2.1
theorem dX8_weighs_9 : decode cX8_weighs 9 = .ok (.iconst 0, 1) := bX8_weighs_0.2.2.2.2.2.1
theorem dX8_weighs_10 : decode cX8_weighs 10 = .ok (.bipush 60, 2) := bX8_weighs_0.2.2.2.2.2.2.1
theorem dX8_weighs_12 : decode cX8_weighs 12 = .ok (.invokestatic 44, 3) := bX8_weighs_0.2.2.2.2.2.2.2.1
theorem dX8_weighs_15 : decode cX8_weighs 15 = .ok (.ifCond .eq 12, 3) := bX8_weighs_0.2.2.2.2.2.2.2.2.1
theorem dX8_weighs_18 : decode cX8_weighs 18 = .ok (.aload_n 0, 1) := bX8_weighs_0.2.2.2.2.2.2.2.2.2.1
theorem dX8_weighs_19 : decode cX8_weighs 19 = .ok (.iload_n 1, 1) := bX8_weighs_0.2.2.2.2.2.2.2.2.2.2.1
theorem dX8_weighs_20 : decode cX8_weighs 20 = .ok (.iload_n 2, 1) := bX8_weighs_0.2.2.2.2.2.2.2.2.2.2.2.1
theorem dX8_weighs_21 : decode cX8_weighs 21 = .ok (.invokevirtual 193, 3) := bX8_weighs_0.2.2.2.2.2.2.2.2.2.2.2.2.1
theorem dX8_weighs_24 : decode cX8_weighs 24 = .ok (.goto 7, 3) := bX8_weighs_0.2.2.2.2.2.2.2.2.2.2.2.2.2.1
theorem dX8_weighs_27 : decode cX8_weighs 27 = .ok (.aload_n 0, 1) := bX8_weighs_0.2.2.2.2.2.2.2.2.2.2.2.2.2.2.1
theorem dX8_weighs_28 : decode cX8_weighs 28 = .ok (.invokevirtual 69, 3) := bX8_weighs_0.2.2.2.2.2.2.2.2.2.2.2.2.2.2.2
theorem dX8_weighs_31 : decode cX8_weighs 31 = .ok (.ireturn, 1) := by decide +kernel
theorem bX8_held_0 : (decode cX8_held 0 = .ok (.iconst 0, 1)) ∧ (decode cX8_held 1 = .ok (.istore_n 1, 1)) ∧ (decode cX8_held 2 = .ok (.iconst 0, 1)) ∧ (decode cX8_held 3 = .ok (.istore_n 2, 1)) ∧ (decode cX8_held 4 = .ok (.iload_n 2, 1)) ∧ (decode cX8_held 5 = .ok (.aload_n 0, 1)) ∧ (decode cX8_held 6 = .ok (.getfield 13, 3)) ∧ (decode cX8_held 9 = .ok (.iconst 1, 1)) ∧ (decode cX8_held 10 = .ok (.iaload, 1)) ∧ (decode cX8_held 11 = .ok (.if_icmp .ge 42, 3)) ∧ (decode cX8_held 14 = .ok (.iload_n 1, 1)) ∧ (decode cX8_held 15 = .ok (.aload_n 0, 1)) ∧ (decode cX8_held 16 = .ok (.iload_n 2, 1)) ∧ (decode cX8_held 17 = .ok (.invokevirtual 167, 3)) ∧ (decode cX8_held 20 = .ok (.ifCond .ne 24, 3)) ∧ (decode cX8_held 23 = .ok (.aload_n 0, 1)) := by decide +kernel
theorem dX8_held_0 : decode cX8_held 0 = .ok (.iconst 0, 1) := bX8_held_0.1
theorem dX8_held_1 : decode cX8_held 1 = .ok (.istore_n 1, 1) := bX8_held_0.2.1
theorem dX8_held_2 : decode cX8_held 2 = .ok (.iconst 0, 1) := bX8_held_0.2.2.1
theorem dX8_held_3 : decode cX8_held 3 = .ok (.istore_n 2, 1) := bX8_held_0.2.2.2.1
theorem dX8_held_4 : decode cX8_held 4 = .ok (.iload_n 2, 1) := bX8_held_0.2.2.2.2.1
theorem dX8_held_5 : decode cX8_held 5 = .ok (.aload_n 0, 1) := bX8_held_0.2.2.2.2.2.1
theorem dX8_held_6 : decode cX8_held 6 = .ok (.getfield 13, 3) := bX8_held_0.2.2.2.2.2.2.1
theorem dX8_held_9 : decode cX8_held 9 = .ok (.iconst 1, 1) := bX8_held_0.2.2.2.2.2.2.2.1
theorem dX8_held_10 : decode cX8_held 10 = .ok (.iaload, 1) := bX8_held_0.2.2.2.2.2.2.2.2.1
theorem dX8_held_11 : decode cX8_held 11 = .ok (.if_icmp .ge 42, 3) := bX8_held_0.2.2.2.2.2.2.2.2.2.1
theorem dX8_held_14 : decode cX8_held 14 = .ok (.iload_n 1, 1) := bX8_held_0.2.2.2.2.2.2.2.2.2.2.1
theorem dX8_held_15 : decode cX8_held 15 = .ok (.aload_n 0, 1) := bX8_held_0.2.2.2.2.2.2.2.2.2.2.2.1
theorem dX8_held_16 : decode cX8_held 16 = .ok (.iload_n 2, 1) := bX8_held_0.2.2.2.2.2.2.2.2.2.2.2.2.1
theorem dX8_held_17 : decode cX8_held 17 = .ok (.invokevirtual 167, 3) := bX8_held_0.2.2.2.2.2.2.2.2.2.2.2.2.2.1
theorem dX8_held_20 : decode cX8_held 20 = .ok (.ifCond .ne 24, 3) := bX8_held_0.2.2.2.2.2.2.2.2.2.2.2.2.2.2.1
theorem dX8_held_23 : decode cX8_held 23 = .ok (.aload_n 0, 1) := bX8_held_0.2.2.2.2.2.2.2.2.2.2.2.2.2.2.2
theorem bX8_held_24 : (decode cX8_held 24 = .ok (.iconst 0, 1)) ∧ (decode cX8_held 25 = .ok (.aload_n 0, 1)) ∧ (decode cX8_held 26 = .ok (.getfield 13, 3)) ∧ (decode cX8_held 29 = .ok (.bipush 34, 2)) ∧ (decode cX8_held 31 = .ok (.iload_n 2, 1)) ∧ (decode cX8_held 32 = .ok (.invokevirtual 65, 3)) ∧ (decode cX8_held 35 = .ok (.ifCond .eq 9, 3)) ∧ (decode cX8_held 38 = .ok (.iconst 1, 1)) ∧ (decode cX8_held 39 = .ok (.iload_n 2, 1)) ∧ (decode cX8_held 40 = .ok (.ishl, 1)) ∧ (decode cX8_held 41 = .ok (.goto 4, 3)) ∧ (decode cX8_held 44 = .ok (.iconst 0, 1)) ∧ (decode cX8_held 45 = .ok (.ior, 1)) ∧ (decode cX8_held 46 = .ok (.istore_n 1, 1)) ∧ (decode cX8_held 47 = .ok (.iinc 2 1, 3)) ∧ (decode cX8_held 50 = .ok (.goto (-46), 3)) := by decide +kernel
theorem dX8_held_24 : decode cX8_held 24 = .ok (.iconst 0, 1) := bX8_held_24.1
theorem dX8_held_25 : decode cX8_held 25 = .ok (.aload_n 0, 1) := bX8_held_24.2.1
theorem dX8_held_26 : decode cX8_held 26 = .ok (.getfield 13, 3) := bX8_held_24.2.2.1
theorem dX8_held_29 : decode cX8_held 29 = .ok (.bipush 34, 2) := bX8_held_24.2.2.2.1
theorem dX8_held_31 : decode cX8_held 31 = .ok (.iload_n 2, 1) := bX8_held_24.2.2.2.2.1
theorem dX8_held_32 : decode cX8_held 32 = .ok (.invokevirtual 65, 3) := bX8_held_24.2.2.2.2.2.1
theorem dX8_held_35 : decode cX8_held 35 = .ok (.ifCond .eq 9, 3) := bX8_held_24.2.2.2.2.2.2.1
theorem dX8_held_38 : decode cX8_held 38 = .ok (.iconst 1, 1) := bX8_held_24.2.2.2.2.2.2.2.1
theorem dX8_held_39 : decode cX8_held 39 = .ok (.iload_n 2, 1) := bX8_held_24.2.2.2.2.2.2.2.2.1
theorem dX8_held_40 : decode cX8_held 40 = .ok (.ishl, 1) := bX8_held_24.2.2.2.2.2.2.2.2.2.1
theorem dX8_held_41 : decode cX8_held 41 = .ok (.goto 4, 3) := bX8_held_24.2.2.2.2.2.2.2.2.2.2.1
theorem dX8_held_44 : decode cX8_held 44 = .ok (.iconst 0, 1) := bX8_held_24.2.2.2.2.2.2.2.2.2.2.2.1
theorem dX8_held_45 : decode cX8_held 45 = .ok (.ior, 1) := bX8_held_24.2.2.2.2.2.2.2.2.2.2.2.2.1
theorem dX8_held_46 : decode cX8_held 46 = .ok (.istore_n 1, 1) := bX8_held_24.2.2.2.2.2.2.2.2.2.2.2.2.2.1
theorem dX8_held_47 : decode cX8_held 47 = .ok (.iinc 2 1, 3) := bX8_held_24.2.2.2.2.2.2.2.2.2.2.2.2.2.2.1
theorem dX8_held_50 : decode cX8_held 50 = .ok (.goto (-46), 3) := bX8_held_24.2.2.2.2.2.2.2.2.2.2.2.2.2.2.2
theorem bX8_held_53 : (decode cX8_held 53 = .ok (.iload_n 1, 1)) ∧ (decode cX8_held 54 = .ok (.ireturn, 1)) := by decide +kernel
theorem dX8_held_53 : decode cX8_held 53 = .ok (.iload_n 1, 1) := bX8_held_53.1
theorem dX8_held_54 : decode cX8_held 54 = .ok (.ireturn, 1) := bX8_held_53.2
theorem bX8_left_0 : (decode cX8_left 0 = .ok (.iload_n 1, 1)) ∧ (decode cX8_left 1 = .ok (.iconst 0, 1)) ∧ (decode cX8_left 2 = .ok (.bipush 60, 2)) ∧ (decode cX8_left 4 = .ok (.invokestatic 44, 3)) ∧ (decode cX8_left 7 = .ok (.ifCond .ne 8, 3)) ∧ (decode cX8_left 10 = .ok (.aload_n 0, 1)) ∧ (decode cX8_left 11 = .ok (.invokevirtual 69, 3)) ∧ (decode cX8_left 14 = .ok (.ireturn, 1)) ∧ (decode cX8_left 15 = .ok (.aload_n 0, 1)) ∧ (decode cX8_left 16 = .ok (.invokevirtual 196, 3)) ∧ (decode cX8_left 19 = .ok (.iconst 0, 1)) ∧ (decode cX8_left 20 = .ok (.istore_n 2, 1)) ∧ (decode cX8_left 21 = .ok (.iload_n 2, 1)) ∧ (decode cX8_left 22 = .ok (.iload_n 1, 1)) ∧ (decode cX8_left 23 = .ok (.if_icmp .ge 19, 3)) ∧ (decode cX8_left 26 = .ok (.aload_n 0, 1)) := by decide +kernel
theorem dX8_left_0 : decode cX8_left 0 = .ok (.iload_n 1, 1) := bX8_left_0.1
theorem dX8_left_1 : decode cX8_left 1 = .ok (.iconst 0, 1) := bX8_left_0.2.1
theorem dX8_left_2 : decode cX8_left 2 = .ok (.bipush 60, 2) := bX8_left_0.2.2.1
theorem dX8_left_4 : decode cX8_left 4 = .ok (.invokestatic 44, 3) := bX8_left_0.2.2.2.1
theorem dX8_left_7 : decode cX8_left 7 = .ok (.ifCond .ne 8, 3) := bX8_left_0.2.2.2.2.1
theorem dX8_left_10 : decode cX8_left 10 = .ok (.aload_n 0, 1) := bX8_left_0.2.2.2.2.2.1
theorem dX8_left_11 : decode cX8_left 11 = .ok (.invokevirtual 69, 3) := bX8_left_0.2.2.2.2.2.2.1
theorem dX8_left_14 : decode cX8_left 14 = .ok (.ireturn, 1) := bX8_left_0.2.2.2.2.2.2.2.1
theorem dX8_left_15 : decode cX8_left 15 = .ok (.aload_n 0, 1) := bX8_left_0.2.2.2.2.2.2.2.2.1
theorem dX8_left_16 : decode cX8_left 16 = .ok (.invokevirtual 196, 3) := bX8_left_0.2.2.2.2.2.2.2.2.2.1
theorem dX8_left_19 : decode cX8_left 19 = .ok (.iconst 0, 1) := bX8_left_0.2.2.2.2.2.2.2.2.2.2.1
theorem dX8_left_20 : decode cX8_left 20 = .ok (.istore_n 2, 1) := bX8_left_0.2.2.2.2.2.2.2.2.2.2.2.1
theorem dX8_left_21 : decode cX8_left 21 = .ok (.iload_n 2, 1) := bX8_left_0.2.2.2.2.2.2.2.2.2.2.2.2.1
theorem dX8_left_22 : decode cX8_left 22 = .ok (.iload_n 1, 1) := bX8_left_0.2.2.2.2.2.2.2.2.2.2.2.2.2.1
theorem dX8_left_23 : decode cX8_left 23 = .ok (.if_icmp .ge 19, 3) := bX8_left_0.2.2.2.2.2.2.2.2.2.2.2.2.2.2.1
theorem dX8_left_26 : decode cX8_left 26 = .ok (.aload_n 0, 1) := bX8_left_0.2.2.2.2.2.2.2.2.2.2.2.2.2.2.2
theorem bX8_left_27 : (decode cX8_left 27 = .ok (.iconst 0, 1)) ∧ (decode cX8_left 28 = .ok (.aload_n 0, 1)) ∧ (decode cX8_left 29 = .ok (.getfield 20, 3)) ∧ (decode cX8_left 32 = .ok (.iconst 0, 1)) ∧ (decode cX8_left 33 = .ok (.invokevirtual 128, 3)) ∧ (decode cX8_left 36 = .ok (.iinc 2 1, 3)) ∧ (decode cX8_left 39 = .ok (.goto (-18), 3)) ∧ (decode cX8_left 42 = .ok (.aload_n 0, 1)) ∧ (decode cX8_left 43 = .ok (.aload_n 0, 1)) ∧ (decode cX8_left 44 = .ok (.getfield 20, 3)) ∧ (decode cX8_left 47 = .ok (.iconst 0, 1)) ∧ (decode cX8_left 48 = .ok (.invokevirtual 176, 3)) ∧ (decode cX8_left 51 = .ok (.ireturn, 1)) := by decide +kernel
theorem dX8_left_27 : decode cX8_left 27 = .ok (.iconst 0, 1) := bX8_left_27.1
theorem dX8_left_28 : decode cX8_left 28 = .ok (.aload_n 0, 1) := bX8_left_27.2.1
theorem dX8_left_29 : decode cX8_left 29 = .ok (.getfield 20, 3) := bX8_left_27.2.2.1
theorem dX8_left_32 : decode cX8_left 32 = .ok (.iconst 0, 1) := bX8_left_27.2.2.2.1
theorem dX8_left_33 : decode cX8_left 33 = .ok (.invokevirtual 128, 3) := bX8_left_27.2.2.2.2.1
theorem dX8_left_36 : decode cX8_left 36 = .ok (.iinc 2 1, 3) := bX8_left_27.2.2.2.2.2.1
theorem dX8_left_39 : decode cX8_left 39 = .ok (.goto (-18), 3) := bX8_left_27.2.2.2.2.2.2.1
theorem dX8_left_42 : decode cX8_left 42 = .ok (.aload_n 0, 1) := bX8_left_27.2.2.2.2.2.2.2.1
theorem dX8_left_43 : decode cX8_left 43 = .ok (.aload_n 0, 1) := bX8_left_27.2.2.2.2.2.2.2.2.1
theorem dX8_left_44 : decode cX8_left 44 = .ok (.getfield 20, 3) := bX8_left_27.2.2.2.2.2.2.2.2.2.1
theorem dX8_left_47 : decode cX8_left 47 = .ok (.iconst 0, 1) := bX8_left_27.2.2.2.2.2.2.2.2.2.2.1
theorem dX8_left_48 : decode cX8_left 48 = .ok (.invokevirtual 176, 3) := bX8_left_27.2.2.2.2.2.2.2.2.2.2.2.1
theorem dX8_left_51 : decode cX8_left 51 = .ok (.ireturn, 1) := bX8_left_27.2.2.2.2.2.2.2.2.2.2.2.2
theorem bX8_when_0 : (decode cX8_when 0 = .ok (.aload_n 0, 1)) ∧ (decode cX8_when 1 = .ok (.iload_n 1, 1)) ∧ (decode cX8_when 2 = .ok (.invokevirtual 161, 3)) ∧ (decode cX8_when 5 = .ok (.ifCond .ne 8, 3)) ∧ (decode cX8_when 8 = .ok (.aload_n 0, 1)) ∧ (decode cX8_when 9 = .ok (.invokevirtual 69, 3)) ∧ (decode cX8_when 12 = .ok (.ireturn, 1)) ∧ (decode cX8_when 13 = .ok (.aload_n 0, 1)) ∧ (decode cX8_when 14 = .ok (.invokevirtual 196, 3)) ∧ (decode cX8_when 17 = .ok (.iconst 1, 1)) ∧ (decode cX8_when 18 = .ok (.istore_n 2, 1)) ∧ (decode cX8_when 19 = .ok (.iload_n 2, 1)) ∧ (decode cX8_when 20 = .ok (.bipush 60, 2)) ∧ (decode cX8_when 22 = .ok (.if_icmp .gt 42, 3)) ∧ (decode cX8_when 25 = .ok (.aload_n 0, 1)) ∧ (decode cX8_when 26 = .ok (.iload_n 1, 1)) := by decide +kernel
theorem dX8_when_0 : decode cX8_when 0 = .ok (.aload_n 0, 1) := bX8_when_0.1
theorem dX8_when_1 : decode cX8_when 1 = .ok (.iload_n 1, 1) := bX8_when_0.2.1
theorem dX8_when_2 : decode cX8_when 2 = .ok (.invokevirtual 161, 3) := bX8_when_0.2.2.1
theorem dX8_when_5 : decode cX8_when 5 = .ok (.ifCond .ne 8, 3) := bX8_when_0.2.2.2.1
theorem dX8_when_8 : decode cX8_when 8 = .ok (.aload_n 0, 1) := bX8_when_0.2.2.2.2.1
theorem dX8_when_9 : decode cX8_when 9 = .ok (.invokevirtual 69, 3) := bX8_when_0.2.2.2.2.2.1
theorem dX8_when_12 : decode cX8_when 12 = .ok (.ireturn, 1) := bX8_when_0.2.2.2.2.2.2.1
theorem dX8_when_13 : decode cX8_when 13 = .ok (.aload_n 0, 1) := bX8_when_0.2.2.2.2.2.2.2.1
theorem dX8_when_14 : decode cX8_when 14 = .ok (.invokevirtual 196, 3) := bX8_when_0.2.2.2.2.2.2.2.2.1
theorem dX8_when_17 : decode cX8_when 17 = .ok (.iconst 1, 1) := bX8_when_0.2.2.2.2.2.2.2.2.2.1
theorem dX8_when_18 : decode cX8_when 18 = .ok (.istore_n 2, 1) := bX8_when_0.2.2.2.2.2.2.2.2.2.2.1
theorem dX8_when_19 : decode cX8_when 19 = .ok (.iload_n 2, 1) := bX8_when_0.2.2.2.2.2.2.2.2.2.2.2.1
theorem dX8_when_20 : decode cX8_when 20 = .ok (.bipush 60, 2) := bX8_when_0.2.2.2.2.2.2.2.2.2.2.2.2.1
theorem dX8_when_22 : decode cX8_when 22 = .ok (.if_icmp .gt 42, 3) := bX8_when_0.2.2.2.2.2.2.2.2.2.2.2.2.2.1
theorem dX8_when_25 : decode cX8_when 25 = .ok (.aload_n 0, 1) := bX8_when_0.2.2.2.2.2.2.2.2.2.2.2.2.2.2.1
theorem dX8_when_26 : decode cX8_when 26 = .ok (.iload_n 1, 1) := bX8_when_0.2.2.2.2.2.2.2.2.2.2.2.2.2.2.2
theorem bX8_when_27 : (decode cX8_when 27 = .ok (.invokevirtual 167, 3)) ∧ (decode cX8_when 30 = .ok (.ifCond .ne 34, 3)) ∧ (decode cX8_when 33 = .ok (.aload_n 0, 1)) ∧ (decode cX8_when 34 = .ok (.iconst 0, 1)) ∧ (decode cX8_when 35 = .ok (.aload_n 0, 1)) ∧ (decode cX8_when 36 = .ok (.getfield 20, 3)) ∧ (decode cX8_when 39 = .ok (.iconst 0, 1)) ∧ (decode cX8_when 40 = .ok (.invokevirtual 128, 3)) ∧ (decode cX8_when 43 = .ok (.aload_n 0, 1)) ∧ (decode cX8_when 44 = .ok (.getfield 20, 3)) ∧ (decode cX8_when 47 = .ok (.iconst 1, 1)) ∧ (decode cX8_when 48 = .ok (.iaload, 1)) ∧ (decode cX8_when 49 = .ok (.iload_n 1, 1)) ∧ (decode cX8_when 50 = .ok (.invokestatic 61, 3)) ∧ (decode cX8_when 53 = .ok (.ifCond .eq 5, 3)) ∧ (decode cX8_when 56 = .ok (.iload_n 2, 1)) := by decide +kernel
theorem dX8_when_27 : decode cX8_when 27 = .ok (.invokevirtual 167, 3) := bX8_when_27.1
theorem dX8_when_30 : decode cX8_when 30 = .ok (.ifCond .ne 34, 3) := bX8_when_27.2.1
theorem dX8_when_33 : decode cX8_when 33 = .ok (.aload_n 0, 1) := bX8_when_27.2.2.1
theorem dX8_when_34 : decode cX8_when 34 = .ok (.iconst 0, 1) := bX8_when_27.2.2.2.1
theorem dX8_when_35 : decode cX8_when 35 = .ok (.aload_n 0, 1) := bX8_when_27.2.2.2.2.1
theorem dX8_when_36 : decode cX8_when 36 = .ok (.getfield 20, 3) := bX8_when_27.2.2.2.2.2.1
theorem dX8_when_39 : decode cX8_when 39 = .ok (.iconst 0, 1) := bX8_when_27.2.2.2.2.2.2.1
theorem dX8_when_40 : decode cX8_when 40 = .ok (.invokevirtual 128, 3) := bX8_when_27.2.2.2.2.2.2.2.1
theorem dX8_when_43 : decode cX8_when 43 = .ok (.aload_n 0, 1) := bX8_when_27.2.2.2.2.2.2.2.2.1
theorem dX8_when_44 : decode cX8_when 44 = .ok (.getfield 20, 3) := bX8_when_27.2.2.2.2.2.2.2.2.2.1
theorem dX8_when_47 : decode cX8_when 47 = .ok (.iconst 1, 1) := bX8_when_27.2.2.2.2.2.2.2.2.2.2.1
theorem dX8_when_48 : decode cX8_when 48 = .ok (.iaload, 1) := bX8_when_27.2.2.2.2.2.2.2.2.2.2.2.1
theorem dX8_when_49 : decode cX8_when 49 = .ok (.iload_n 1, 1) := bX8_when_27.2.2.2.2.2.2.2.2.2.2.2.2.1
theorem dX8_when_50 : decode cX8_when 50 = .ok (.invokestatic 61, 3) := bX8_when_27.2.2.2.2.2.2.2.2.2.2.2.2.2.1
theorem dX8_when_53 : decode cX8_when 53 = .ok (.ifCond .eq 5, 3) := bX8_when_27.2.2.2.2.2.2.2.2.2.2.2.2.2.2.1
theorem dX8_when_56 : decode cX8_when 56 = .ok (.iload_n 2, 1) := bX8_when_27.2.2.2.2.2.2.2.2.2.2.2.2.2.2.2
theorem bX8_when_57 : (decode cX8_when 57 = .ok (.ireturn, 1)) ∧ (decode cX8_when 58 = .ok (.iinc 2 1, 3)) ∧ (decode cX8_when 61 = .ok (.goto (-42), 3)) ∧ (decode cX8_when 64 = .ok (.iconst (-1), 1)) ∧ (decode cX8_when 65 = .ok (.ireturn, 1)) := by decide +kernel
theorem dX8_when_57 : decode cX8_when 57 = .ok (.ireturn, 1) := bX8_when_57.1
theorem dX8_when_58 : decode cX8_when 58 = .ok (.iinc 2 1, 3) := bX8_when_57.2.1
theorem dX8_when_61 : decode cX8_when 61 = .ok (.goto (-42), 3) := bX8_when_57.2.2.1
theorem dX8_when_64 : decode cX8_when 64 = .ok (.iconst (-1), 1) := bX8_when_57.2.2.2.1
theorem dX8_when_65 : decode cX8_when 65 = .ok (.ireturn, 1) := bX8_when_57.2.2.2.2
theorem bX8_longOf_0 : (decode cX8_longOf 0 = .ok (.iconst 0, 1)) ∧ (decode cX8_longOf 1 = .ok (.istore_n 3, 1)) ∧ (decode cX8_longOf 2 = .ok (.iload_n 3, 1)) ∧ (decode cX8_longOf 3 = .ok (.bipush 60, 2)) ∧ (decode cX8_longOf 5 = .ok (.if_icmp .ge 24, 3)) ∧ (decode cX8_longOf 8 = .ok (.aload_n 0, 1)) ∧ (decode cX8_longOf 9 = .ok (.iload_n 2, 1)) ∧ (decode cX8_longOf 10 = .ok (.iload_n 3, 1)) ∧ (decode cX8_longOf 11 = .ok (.invokevirtual 193, 3)) ∧ (decode cX8_longOf 14 = .ok (.aload_n 0, 1)) ∧ (decode cX8_longOf 15 = .ok (.iload_n 1, 1)) ∧ (decode cX8_longOf 16 = .ok (.iload_n 3, 1)) ∧ (decode cX8_longOf 17 = .ok (.invokevirtual 190, 3)) ∧ (decode cX8_longOf 20 = .ok (.if_icmp .le 9, 3)) ∧ (decode cX8_longOf 23 = .ok (.iinc 3 1, 3)) ∧ (decode cX8_longOf 26 = .ok (.goto (-24), 3)) := by decide +kernel
theorem dX8_longOf_0 : decode cX8_longOf 0 = .ok (.iconst 0, 1) := bX8_longOf_0.1
theorem dX8_longOf_1 : decode cX8_longOf 1 = .ok (.istore_n 3, 1) := bX8_longOf_0.2.1
theorem dX8_longOf_2 : decode cX8_longOf 2 = .ok (.iload_n 3, 1) := bX8_longOf_0.2.2.1
theorem dX8_longOf_3 : decode cX8_longOf 3 = .ok (.bipush 60, 2) := bX8_longOf_0.2.2.2.1
theorem dX8_longOf_5 : decode cX8_longOf 5 = .ok (.if_icmp .ge 24, 3) := bX8_longOf_0.2.2.2.2.1
theorem dX8_longOf_8 : decode cX8_longOf 8 = .ok (.aload_n 0, 1) := bX8_longOf_0.2.2.2.2.2.1
theorem dX8_longOf_9 : decode cX8_longOf 9 = .ok (.iload_n 2, 1) := bX8_longOf_0.2.2.2.2.2.2.1
theorem dX8_longOf_10 : decode cX8_longOf 10 = .ok (.iload_n 3, 1) := bX8_longOf_0.2.2.2.2.2.2.2.1
theorem dX8_longOf_11 : decode cX8_longOf 11 = .ok (.invokevirtual 193, 3) := bX8_longOf_0.2.2.2.2.2.2.2.2.1
theorem dX8_longOf_14 : decode cX8_longOf 14 = .ok (.aload_n 0, 1) := bX8_longOf_0.2.2.2.2.2.2.2.2.2.1
theorem dX8_longOf_15 : decode cX8_longOf 15 = .ok (.iload_n 1, 1) := bX8_longOf_0.2.2.2.2.2.2.2.2.2.2.1
theorem dX8_longOf_16 : decode cX8_longOf 16 = .ok (.iload_n 3, 1) := bX8_longOf_0.2.2.2.2.2.2.2.2.2.2.2.1
theorem dX8_longOf_17 : decode cX8_longOf 17 = .ok (.invokevirtual 190, 3) := bX8_longOf_0.2.2.2.2.2.2.2.2.2.2.2.2.1
theorem dX8_longOf_20 : decode cX8_longOf 20 = .ok (.if_icmp .le 9, 3) := bX8_longOf_0.2.2.2.2.2.2.2.2.2.2.2.2.2.1
theorem dX8_longOf_23 : decode cX8_longOf 23 = .ok (.iinc 3 1, 3) := bX8_longOf_0.2.2.2.2.2.2.2.2.2.2.2.2.2.2.1
theorem dX8_longOf_26 : decode cX8_longOf 26 = .ok (.goto (-24), 3) := bX8_longOf_0.2.2.2.2.2.2.2.2.2.2.2.2.2.2.2
theorem bX8_longOf_29 : (decode cX8_longOf 29 = .ok (.iload_n 3, 1)) ∧ (decode cX8_longOf 30 = .ok (.ireturn, 1)) := by decide +kernel
theorem dX8_longOf_29 : decode cX8_longOf 29 = .ok (.iload_n 3, 1) := bX8_longOf_29.1
theorem dX8_longOf_30 : decode cX8_longOf 30 = .ok (.ireturn, 1) := bX8_longOf_29.2
theorem bX8_lasts_0 : (decode cX8_lasts 0 = .ok (.aload_n 0, 1)) ∧ (decode cX8_lasts 1 = .ok (.iload_n 1, 1)) ∧ (decode cX8_lasts 2 = .ok (.invokevirtual 161, 3)) ∧ (decode cX8_lasts 5 = .ok (.ifCond .eq 11, 3)) ∧ (decode cX8_lasts 8 = .ok (.aload_n 0, 1)) ∧ (decode cX8_lasts 9 = .ok (.iload_n 2, 1)) ∧ (decode cX8_lasts 10 = .ok (.invokevirtual 164, 3)) ∧ (decode cX8_lasts 13 = .ok (.ifCond .ne 8, 3)) ∧ (decode cX8_lasts 16 = .ok (.aload_n 0, 1)) ∧ (decode cX8_lasts 17 = .ok (.invokevirtual 69, 3)) ∧ (decode cX8_lasts 20 = .ok (.ireturn, 1)) ∧ (decode cX8_lasts 21 = .ok (.aload_n 0, 1)) ∧ (decode cX8_lasts 22 = .ok (.iload_n 1, 1)) ∧ (decode cX8_lasts 23 = .ok (.invokevirtual 167, 3)) ∧ (decode cX8_lasts 26 = .ok (.ifCond .eq 10, 3)) ∧ (decode cX8_lasts 29 = .ok (.aload_n 0, 1)) := by decide +kernel
theorem dX8_lasts_0 : decode cX8_lasts 0 = .ok (.aload_n 0, 1) := bX8_lasts_0.1
theorem dX8_lasts_1 : decode cX8_lasts 1 = .ok (.iload_n 1, 1) := bX8_lasts_0.2.1
theorem dX8_lasts_2 : decode cX8_lasts 2 = .ok (.invokevirtual 161, 3) := bX8_lasts_0.2.2.1
theorem dX8_lasts_5 : decode cX8_lasts 5 = .ok (.ifCond .eq 11, 3) := bX8_lasts_0.2.2.2.1
theorem dX8_lasts_8 : decode cX8_lasts 8 = .ok (.aload_n 0, 1) := bX8_lasts_0.2.2.2.2.1
theorem dX8_lasts_9 : decode cX8_lasts 9 = .ok (.iload_n 2, 1) := bX8_lasts_0.2.2.2.2.2.1
theorem dX8_lasts_10 : decode cX8_lasts 10 = .ok (.invokevirtual 164, 3) := bX8_lasts_0.2.2.2.2.2.2.1
theorem dX8_lasts_13 : decode cX8_lasts 13 = .ok (.ifCond .ne 8, 3) := bX8_lasts_0.2.2.2.2.2.2.2.1
theorem dX8_lasts_16 : decode cX8_lasts 16 = .ok (.aload_n 0, 1) := bX8_lasts_0.2.2.2.2.2.2.2.2.1
theorem dX8_lasts_17 : decode cX8_lasts 17 = .ok (.invokevirtual 69, 3) := bX8_lasts_0.2.2.2.2.2.2.2.2.2.1
theorem dX8_lasts_20 : decode cX8_lasts 20 = .ok (.ireturn, 1) := bX8_lasts_0.2.2.2.2.2.2.2.2.2.2.1
theorem dX8_lasts_21 : decode cX8_lasts 21 = .ok (.aload_n 0, 1) := bX8_lasts_0.2.2.2.2.2.2.2.2.2.2.2.1
theorem dX8_lasts_22 : decode cX8_lasts 22 = .ok (.iload_n 1, 1) := bX8_lasts_0.2.2.2.2.2.2.2.2.2.2.2.2.1
theorem dX8_lasts_23 : decode cX8_lasts 23 = .ok (.invokevirtual 167, 3) := bX8_lasts_0.2.2.2.2.2.2.2.2.2.2.2.2.2.1
theorem dX8_lasts_26 : decode cX8_lasts 26 = .ok (.ifCond .eq 10, 3) := bX8_lasts_0.2.2.2.2.2.2.2.2.2.2.2.2.2.2.1
theorem dX8_lasts_29 : decode cX8_lasts 29 = .ok (.aload_n 0, 1) := bX8_lasts_0.2.2.2.2.2.2.2.2.2.2.2.2.2.2.2
theorem bX8_lasts_30 : (decode cX8_lasts 30 = .ok (.invokevirtual 170, 3)) ∧ (decode cX8_lasts 33 = .ok (.goto 9, 3)) ∧ (decode cX8_lasts 36 = .ok (.aload_n 0, 1)) ∧ (decode cX8_lasts 37 = .ok (.iload_n 1, 1)) ∧ (decode cX8_lasts 38 = .ok (.iload_n 2, 1)) ∧ (decode cX8_lasts 39 = .ok (.invokevirtual 199, 3)) ∧ (decode cX8_lasts 42 = .ok (.ireturn, 1)) := by decide +kernel
theorem dX8_lasts_30 : decode cX8_lasts 30 = .ok (.invokevirtual 170, 3) := bX8_lasts_30.1
theorem dX8_lasts_33 : decode cX8_lasts 33 = .ok (.goto 9, 3) := bX8_lasts_30.2.1
theorem dX8_lasts_36 : decode cX8_lasts 36 = .ok (.aload_n 0, 1) := bX8_lasts_30.2.2.1
theorem dX8_lasts_37 : decode cX8_lasts 37 = .ok (.iload_n 1, 1) := bX8_lasts_30.2.2.2.1
theorem dX8_lasts_38 : decode cX8_lasts 38 = .ok (.iload_n 2, 1) := bX8_lasts_30.2.2.2.2.1
theorem dX8_lasts_39 : decode cX8_lasts 39 = .ok (.invokevirtual 199, 3) := bX8_lasts_30.2.2.2.2.2.1
theorem dX8_lasts_42 : decode cX8_lasts 42 = .ok (.ireturn, 1) := bX8_lasts_30.2.2.2.2.2.2
theorem bX8_tellMost_0 : (decode cX8_tellMost 0 = .ok (.iconst 1, 1)) ∧ (decode cX8_tellMost 1 = .ok (.aload_n 0, 1)) ∧ (decode cX8_tellMost 2 = .ok (.getfield 13, 3)) ∧ (decode cX8_tellMost 5 = .ok (.iconst 0, 1)) ∧ (decode cX8_tellMost 6 = .ok (.iaload, 1)) ∧ (decode cX8_tellMost 7 = .ok (.ishl, 1)) ∧ (decode cX8_tellMost 8 = .ok (.istore_n 2, 1)) ∧ (decode cX8_tellMost 9 = .ok (.iconst 0, 1)) ∧ (decode cX8_tellMost 10 = .ok (.istore_n 3, 1)) ∧ (decode cX8_tellMost 11 = .ok (.iload_n 3, 1)) ∧ (decode cX8_tellMost 12 = .ok (.aload_n 0, 1)) ∧ (decode cX8_tellMost 13 = .ok (.getfield 13, 3)) ∧ (decode cX8_tellMost 16 = .ok (.iconst 1, 1)) ∧ (decode cX8_tellMost 17 = .ok (.iaload, 1)) ∧ (decode cX8_tellMost 18 = .ok (.if_icmp .ge 72, 3)) ∧ (decode cX8_tellMost 21 = .ok (.aload_n 0, 1)) := by decide +kernel
theorem dX8_tellMost_0 : decode cX8_tellMost 0 = .ok (.iconst 1, 1) := bX8_tellMost_0.1
theorem dX8_tellMost_1 : decode cX8_tellMost 1 = .ok (.aload_n 0, 1) := bX8_tellMost_0.2.1
theorem dX8_tellMost_2 : decode cX8_tellMost 2 = .ok (.getfield 13, 3) := bX8_tellMost_0.2.2.1
theorem dX8_tellMost_5 : decode cX8_tellMost 5 = .ok (.iconst 0, 1) := bX8_tellMost_0.2.2.2.1
theorem dX8_tellMost_6 : decode cX8_tellMost 6 = .ok (.iaload, 1) := bX8_tellMost_0.2.2.2.2.1
theorem dX8_tellMost_7 : decode cX8_tellMost 7 = .ok (.ishl, 1) := bX8_tellMost_0.2.2.2.2.2.1
theorem dX8_tellMost_8 : decode cX8_tellMost 8 = .ok (.istore_n 2, 1) := bX8_tellMost_0.2.2.2.2.2.2.1
theorem dX8_tellMost_9 : decode cX8_tellMost 9 = .ok (.iconst 0, 1) := bX8_tellMost_0.2.2.2.2.2.2.2.1
theorem dX8_tellMost_10 : decode cX8_tellMost 10 = .ok (.istore_n 3, 1) := bX8_tellMost_0.2.2.2.2.2.2.2.2.1
theorem dX8_tellMost_11 : decode cX8_tellMost 11 = .ok (.iload_n 3, 1) := bX8_tellMost_0.2.2.2.2.2.2.2.2.2.1
theorem dX8_tellMost_12 : decode cX8_tellMost 12 = .ok (.aload_n 0, 1) := bX8_tellMost_0.2.2.2.2.2.2.2.2.2.2.1
theorem dX8_tellMost_13 : decode cX8_tellMost 13 = .ok (.getfield 13, 3) := bX8_tellMost_0.2.2.2.2.2.2.2.2.2.2.2.1
theorem dX8_tellMost_16 : decode cX8_tellMost 16 = .ok (.iconst 1, 1) := bX8_tellMost_0.2.2.2.2.2.2.2.2.2.2.2.2.1
theorem dX8_tellMost_17 : decode cX8_tellMost 17 = .ok (.iaload, 1) := bX8_tellMost_0.2.2.2.2.2.2.2.2.2.2.2.2.2.1
theorem dX8_tellMost_18 : decode cX8_tellMost 18 = .ok (.if_icmp .ge 72, 3) := bX8_tellMost_0.2.2.2.2.2.2.2.2.2.2.2.2.2.2.1
theorem dX8_tellMost_21 : decode cX8_tellMost 21 = .ok (.aload_n 0, 1) := bX8_tellMost_0.2.2.2.2.2.2.2.2.2.2.2.2.2.2.2
theorem bX8_tellMost_22 : (decode cX8_tellMost 22 = .ok (.getfield 33, 3)) ∧ (decode cX8_tellMost 25 = .ok (.iload_n 3, 1)) ∧ (decode cX8_tellMost 26 = .ok (.iconst 0, 1)) ∧ (decode cX8_tellMost 27 = .ok (.iastore, 1)) ∧ (decode cX8_tellMost 28 = .ok (.iconst 0, 1)) ∧ (decode cX8_tellMost 29 = .ok (.istore 4, 2)) ∧ (decode cX8_tellMost 31 = .ok (.iload 4, 2)) ∧ (decode cX8_tellMost 33 = .ok (.aload_n 0, 1)) ∧ (decode cX8_tellMost 34 = .ok (.getfield 13, 3)) ∧ (decode cX8_tellMost 37 = .ok (.iconst 0, 1)) ∧ (decode cX8_tellMost 38 = .ok (.iaload, 1)) ∧ (decode cX8_tellMost 39 = .ok (.if_icmp .ge 45, 3)) ∧ (decode cX8_tellMost 42 = .ok (.aload_n 0, 1)) ∧ (decode cX8_tellMost 43 = .ok (.getfield 33, 3)) ∧ (decode cX8_tellMost 46 = .ok (.iload_n 3, 1)) ∧ (decode cX8_tellMost 47 = .ok (.dup2, 1)) := by decide +kernel
theorem dX8_tellMost_22 : decode cX8_tellMost 22 = .ok (.getfield 33, 3) := bX8_tellMost_22.1
theorem dX8_tellMost_25 : decode cX8_tellMost 25 = .ok (.iload_n 3, 1) := bX8_tellMost_22.2.1
theorem dX8_tellMost_26 : decode cX8_tellMost 26 = .ok (.iconst 0, 1) := bX8_tellMost_22.2.2.1
theorem dX8_tellMost_27 : decode cX8_tellMost 27 = .ok (.iastore, 1) := bX8_tellMost_22.2.2.2.1
theorem dX8_tellMost_28 : decode cX8_tellMost 28 = .ok (.iconst 0, 1) := bX8_tellMost_22.2.2.2.2.1
theorem dX8_tellMost_29 : decode cX8_tellMost 29 = .ok (.istore 4, 2) := bX8_tellMost_22.2.2.2.2.2.1
theorem dX8_tellMost_31 : decode cX8_tellMost 31 = .ok (.iload 4, 2) := bX8_tellMost_22.2.2.2.2.2.2.1
theorem dX8_tellMost_33 : decode cX8_tellMost 33 = .ok (.aload_n 0, 1) := bX8_tellMost_22.2.2.2.2.2.2.2.1
theorem dX8_tellMost_34 : decode cX8_tellMost 34 = .ok (.getfield 13, 3) := bX8_tellMost_22.2.2.2.2.2.2.2.2.1
theorem dX8_tellMost_37 : decode cX8_tellMost 37 = .ok (.iconst 0, 1) := bX8_tellMost_22.2.2.2.2.2.2.2.2.2.1
theorem dX8_tellMost_38 : decode cX8_tellMost 38 = .ok (.iaload, 1) := bX8_tellMost_22.2.2.2.2.2.2.2.2.2.2.1
theorem dX8_tellMost_39 : decode cX8_tellMost 39 = .ok (.if_icmp .ge 45, 3) := bX8_tellMost_22.2.2.2.2.2.2.2.2.2.2.2.1
theorem dX8_tellMost_42 : decode cX8_tellMost 42 = .ok (.aload_n 0, 1) := bX8_tellMost_22.2.2.2.2.2.2.2.2.2.2.2.2.1
theorem dX8_tellMost_43 : decode cX8_tellMost 43 = .ok (.getfield 33, 3) := bX8_tellMost_22.2.2.2.2.2.2.2.2.2.2.2.2.2.1
theorem dX8_tellMost_46 : decode cX8_tellMost 46 = .ok (.iload_n 3, 1) := bX8_tellMost_22.2.2.2.2.2.2.2.2.2.2.2.2.2.2.1
theorem dX8_tellMost_47 : decode cX8_tellMost 47 = .ok (.dup2, 1) := bX8_tellMost_22.2.2.2.2.2.2.2.2.2.2.2.2.2.2.2
theorem bX8_tellMost_48 : (decode cX8_tellMost 48 = .ok (.iaload, 1)) ∧ (decode cX8_tellMost 49 = .ok (.aload_n 0, 1)) ∧ (decode cX8_tellMost 50 = .ok (.iload_n 3, 1)) ∧ (decode cX8_tellMost 51 = .ok (.invokevirtual 167, 3)) ∧ (decode cX8_tellMost 54 = .ok (.ifCond .ne 21, 3)) ∧ (decode cX8_tellMost 57 = .ok (.aload_n 0, 1)) ∧ (decode cX8_tellMost 58 = .ok (.iload_n 3, 1)) ∧ (decode cX8_tellMost 59 = .ok (.iload 4, 2)) ∧ (decode cX8_tellMost 61 = .ok (.invokevirtual 199, 3)) ∧ (decode cX8_tellMost 64 = .ok (.iload_n 1, 1)) ∧ (decode cX8_tellMost 65 = .ok (.if_icmp .lt 10, 3)) ∧ (decode cX8_tellMost 68 = .ok (.iconst 1, 1)) ∧ (decode cX8_tellMost 69 = .ok (.iload 4, 2)) ∧ (decode cX8_tellMost 71 = .ok (.ishl, 1)) ∧ (decode cX8_tellMost 72 = .ok (.goto 4, 3)) ∧ (decode cX8_tellMost 75 = .ok (.iconst 0, 1)) := by decide +kernel
theorem dX8_tellMost_48 : decode cX8_tellMost 48 = .ok (.iaload, 1) := bX8_tellMost_48.1
theorem dX8_tellMost_49 : decode cX8_tellMost 49 = .ok (.aload_n 0, 1) := bX8_tellMost_48.2.1
theorem dX8_tellMost_50 : decode cX8_tellMost 50 = .ok (.iload_n 3, 1) := bX8_tellMost_48.2.2.1
theorem dX8_tellMost_51 : decode cX8_tellMost 51 = .ok (.invokevirtual 167, 3) := bX8_tellMost_48.2.2.2.1
theorem dX8_tellMost_54 : decode cX8_tellMost 54 = .ok (.ifCond .ne 21, 3) := bX8_tellMost_48.2.2.2.2.1
theorem dX8_tellMost_57 : decode cX8_tellMost 57 = .ok (.aload_n 0, 1) := bX8_tellMost_48.2.2.2.2.2.1
theorem dX8_tellMost_58 : decode cX8_tellMost 58 = .ok (.iload_n 3, 1) := bX8_tellMost_48.2.2.2.2.2.2.1
theorem dX8_tellMost_59 : decode cX8_tellMost 59 = .ok (.iload 4, 2) := bX8_tellMost_48.2.2.2.2.2.2.2.1
theorem dX8_tellMost_61 : decode cX8_tellMost 61 = .ok (.invokevirtual 199, 3) := bX8_tellMost_48.2.2.2.2.2.2.2.2.1
theorem dX8_tellMost_64 : decode cX8_tellMost 64 = .ok (.iload_n 1, 1) := bX8_tellMost_48.2.2.2.2.2.2.2.2.2.1
theorem dX8_tellMost_65 : decode cX8_tellMost 65 = .ok (.if_icmp .lt 10, 3) := bX8_tellMost_48.2.2.2.2.2.2.2.2.2.2.1
theorem dX8_tellMost_68 : decode cX8_tellMost 68 = .ok (.iconst 1, 1) := bX8_tellMost_48.2.2.2.2.2.2.2.2.2.2.2.1
theorem dX8_tellMost_69 : decode cX8_tellMost 69 = .ok (.iload 4, 2) := bX8_tellMost_48.2.2.2.2.2.2.2.2.2.2.2.2.1
theorem dX8_tellMost_71 : decode cX8_tellMost 71 = .ok (.ishl, 1) := bX8_tellMost_48.2.2.2.2.2.2.2.2.2.2.2.2.2.1
theorem dX8_tellMost_72 : decode cX8_tellMost 72 = .ok (.goto 4, 3) := bX8_tellMost_48.2.2.2.2.2.2.2.2.2.2.2.2.2.2.1
theorem dX8_tellMost_75 : decode cX8_tellMost 75 = .ok (.iconst 0, 1) := bX8_tellMost_48.2.2.2.2.2.2.2.2.2.2.2.2.2.2.2
theorem bX8_tellMost_76 : (decode cX8_tellMost 76 = .ok (.ior, 1)) ∧ (decode cX8_tellMost 77 = .ok (.iastore, 1)) ∧ (decode cX8_tellMost 78 = .ok (.iinc 4 1, 3)) ∧ (decode cX8_tellMost 81 = .ok (.goto (-50), 3)) ∧ (decode cX8_tellMost 84 = .ok (.iinc 3 1, 3)) ∧ (decode cX8_tellMost 87 = .ok (.goto (-76), 3)) ∧ (decode cX8_tellMost 90 = .ok (.iconst 0, 1)) ∧ (decode cX8_tellMost 91 = .ok (.istore_n 3, 1)) ∧ (decode cX8_tellMost 92 = .ok (.iload_n 3, 1)) ∧ (decode cX8_tellMost 93 = .ok (.iload_n 2, 1)) ∧ (decode cX8_tellMost 94 = .ok (.if_icmp .ge 45, 3)) ∧ (decode cX8_tellMost 97 = .ok (.aload_n 0, 1)) ∧ (decode cX8_tellMost 98 = .ok (.getfield 27, 3)) ∧ (decode cX8_tellMost 101 = .ok (.sipush 128, 3)) ∧ (decode cX8_tellMost 104 = .ok (.aload_n 0, 1)) ∧ (decode cX8_tellMost 105 = .ok (.getfield 13, 3)) := by decide +kernel
theorem dX8_tellMost_76 : decode cX8_tellMost 76 = .ok (.ior, 1) := bX8_tellMost_76.1
theorem dX8_tellMost_77 : decode cX8_tellMost 77 = .ok (.iastore, 1) := bX8_tellMost_76.2.1
theorem dX8_tellMost_78 : decode cX8_tellMost 78 = .ok (.iinc 4 1, 3) := bX8_tellMost_76.2.2.1
theorem dX8_tellMost_81 : decode cX8_tellMost 81 = .ok (.goto (-50), 3) := bX8_tellMost_76.2.2.2.1
theorem dX8_tellMost_84 : decode cX8_tellMost 84 = .ok (.iinc 3 1, 3) := bX8_tellMost_76.2.2.2.2.1
theorem dX8_tellMost_87 : decode cX8_tellMost 87 = .ok (.goto (-76), 3) := bX8_tellMost_76.2.2.2.2.2.1
theorem dX8_tellMost_90 : decode cX8_tellMost 90 = .ok (.iconst 0, 1) := bX8_tellMost_76.2.2.2.2.2.2.1
theorem dX8_tellMost_91 : decode cX8_tellMost 91 = .ok (.istore_n 3, 1) := bX8_tellMost_76.2.2.2.2.2.2.2.1
theorem dX8_tellMost_92 : decode cX8_tellMost 92 = .ok (.iload_n 3, 1) := bX8_tellMost_76.2.2.2.2.2.2.2.2.1
theorem dX8_tellMost_93 : decode cX8_tellMost 93 = .ok (.iload_n 2, 1) := bX8_tellMost_76.2.2.2.2.2.2.2.2.2.1
theorem dX8_tellMost_94 : decode cX8_tellMost 94 = .ok (.if_icmp .ge 45, 3) := bX8_tellMost_76.2.2.2.2.2.2.2.2.2.2.1
theorem dX8_tellMost_97 : decode cX8_tellMost 97 = .ok (.aload_n 0, 1) := bX8_tellMost_76.2.2.2.2.2.2.2.2.2.2.2.1
theorem dX8_tellMost_98 : decode cX8_tellMost 98 = .ok (.getfield 27, 3) := bX8_tellMost_76.2.2.2.2.2.2.2.2.2.2.2.2.1
theorem dX8_tellMost_101 : decode cX8_tellMost 101 = .ok (.sipush 128, 3) := bX8_tellMost_76.2.2.2.2.2.2.2.2.2.2.2.2.2.1
theorem dX8_tellMost_104 : decode cX8_tellMost 104 = .ok (.aload_n 0, 1) := bX8_tellMost_76.2.2.2.2.2.2.2.2.2.2.2.2.2.2.1
theorem dX8_tellMost_105 : decode cX8_tellMost 105 = .ok (.getfield 13, 3) := bX8_tellMost_76.2.2.2.2.2.2.2.2.2.2.2.2.2.2.2
theorem bX8_tellMost_108 : (decode cX8_tellMost 108 = .ok (.iconst 1, 1)) ∧ (decode cX8_tellMost 109 = .ok (.iaload, 1)) ∧ (decode cX8_tellMost 110 = .ok (.imul, 1)) ∧ (decode cX8_tellMost 111 = .ok (.iload_n 3, 1)) ∧ (decode cX8_tellMost 112 = .ok (.iadd, 1)) ∧ (decode cX8_tellMost 113 = .ok (.iconst 0, 1)) ∧ (decode cX8_tellMost 114 = .ok (.iastore, 1)) ∧ (decode cX8_tellMost 115 = .ok (.aload_n 0, 1)) ∧ (decode cX8_tellMost 116 = .ok (.getfield 30, 3)) ∧ (decode cX8_tellMost 119 = .ok (.sipush 128, 3)) ∧ (decode cX8_tellMost 122 = .ok (.aload_n 0, 1)) ∧ (decode cX8_tellMost 123 = .ok (.getfield 13, 3)) ∧ (decode cX8_tellMost 126 = .ok (.iconst 1, 1)) ∧ (decode cX8_tellMost 127 = .ok (.iaload, 1)) ∧ (decode cX8_tellMost 128 = .ok (.imul, 1)) ∧ (decode cX8_tellMost 129 = .ok (.iload_n 3, 1)) := by decide +kernel
theorem dX8_tellMost_108 : decode cX8_tellMost 108 = .ok (.iconst 1, 1) := bX8_tellMost_108.1
theorem dX8_tellMost_109 : decode cX8_tellMost 109 = .ok (.iaload, 1) := bX8_tellMost_108.2.1
theorem dX8_tellMost_110 : decode cX8_tellMost 110 = .ok (.imul, 1) := bX8_tellMost_108.2.2.1
theorem dX8_tellMost_111 : decode cX8_tellMost 111 = .ok (.iload_n 3, 1) := bX8_tellMost_108.2.2.2.1
theorem dX8_tellMost_112 : decode cX8_tellMost 112 = .ok (.iadd, 1) := bX8_tellMost_108.2.2.2.2.1
theorem dX8_tellMost_113 : decode cX8_tellMost 113 = .ok (.iconst 0, 1) := bX8_tellMost_108.2.2.2.2.2.1
theorem dX8_tellMost_114 : decode cX8_tellMost 114 = .ok (.iastore, 1) := bX8_tellMost_108.2.2.2.2.2.2.1
theorem dX8_tellMost_115 : decode cX8_tellMost 115 = .ok (.aload_n 0, 1) := bX8_tellMost_108.2.2.2.2.2.2.2.1
theorem dX8_tellMost_116 : decode cX8_tellMost 116 = .ok (.getfield 30, 3) := bX8_tellMost_108.2.2.2.2.2.2.2.2.1
theorem dX8_tellMost_119 : decode cX8_tellMost 119 = .ok (.sipush 128, 3) := bX8_tellMost_108.2.2.2.2.2.2.2.2.2.1
theorem dX8_tellMost_122 : decode cX8_tellMost 122 = .ok (.aload_n 0, 1) := bX8_tellMost_108.2.2.2.2.2.2.2.2.2.2.1
theorem dX8_tellMost_123 : decode cX8_tellMost 123 = .ok (.getfield 13, 3) := bX8_tellMost_108.2.2.2.2.2.2.2.2.2.2.2.1
theorem dX8_tellMost_126 : decode cX8_tellMost 126 = .ok (.iconst 1, 1) := bX8_tellMost_108.2.2.2.2.2.2.2.2.2.2.2.2.1
theorem dX8_tellMost_127 : decode cX8_tellMost 127 = .ok (.iaload, 1) := bX8_tellMost_108.2.2.2.2.2.2.2.2.2.2.2.2.2.1
theorem dX8_tellMost_128 : decode cX8_tellMost 128 = .ok (.imul, 1) := bX8_tellMost_108.2.2.2.2.2.2.2.2.2.2.2.2.2.2.1
theorem dX8_tellMost_129 : decode cX8_tellMost 129 = .ok (.iload_n 3, 1) := bX8_tellMost_108.2.2.2.2.2.2.2.2.2.2.2.2.2.2.2
theorem bX8_tellMost_130 : (decode cX8_tellMost 130 = .ok (.iadd, 1)) ∧ (decode cX8_tellMost 131 = .ok (.iconst 0, 1)) ∧ (decode cX8_tellMost 132 = .ok (.iastore, 1)) ∧ (decode cX8_tellMost 133 = .ok (.iinc 3 1, 3)) ∧ (decode cX8_tellMost 136 = .ok (.goto (-44), 3)) ∧ (decode cX8_tellMost 139 = .ok (.aload_n 0, 1)) ∧ (decode cX8_tellMost 140 = .ok (.getfield 13, 3)) ∧ (decode cX8_tellMost 143 = .ok (.iconst 1, 1)) ∧ (decode cX8_tellMost 144 = .ok (.iaload, 1)) ∧ (decode cX8_tellMost 145 = .ok (.iconst 1, 1)) ∧ (decode cX8_tellMost 146 = .ok (.isub, 1)) ∧ (decode cX8_tellMost 147 = .ok (.istore_n 3, 1)) ∧ (decode cX8_tellMost 148 = .ok (.iload_n 3, 1)) ∧ (decode cX8_tellMost 149 = .ok (.ifCond .lt 252, 3)) ∧ (decode cX8_tellMost 152 = .ok (.iconst 0, 1)) ∧ (decode cX8_tellMost 153 = .ok (.istore 4, 2)) := by decide +kernel
theorem dX8_tellMost_130 : decode cX8_tellMost 130 = .ok (.iadd, 1) := bX8_tellMost_130.1
theorem dX8_tellMost_131 : decode cX8_tellMost 131 = .ok (.iconst 0, 1) := bX8_tellMost_130.2.1
theorem dX8_tellMost_132 : decode cX8_tellMost 132 = .ok (.iastore, 1) := bX8_tellMost_130.2.2.1
theorem dX8_tellMost_133 : decode cX8_tellMost 133 = .ok (.iinc 3 1, 3) := bX8_tellMost_130.2.2.2.1
theorem dX8_tellMost_136 : decode cX8_tellMost 136 = .ok (.goto (-44), 3) := bX8_tellMost_130.2.2.2.2.1
theorem dX8_tellMost_139 : decode cX8_tellMost 139 = .ok (.aload_n 0, 1) := bX8_tellMost_130.2.2.2.2.2.1
theorem dX8_tellMost_140 : decode cX8_tellMost 140 = .ok (.getfield 13, 3) := bX8_tellMost_130.2.2.2.2.2.2.1
theorem dX8_tellMost_143 : decode cX8_tellMost 143 = .ok (.iconst 1, 1) := bX8_tellMost_130.2.2.2.2.2.2.2.1
theorem dX8_tellMost_144 : decode cX8_tellMost 144 = .ok (.iaload, 1) := bX8_tellMost_130.2.2.2.2.2.2.2.2.1
theorem dX8_tellMost_145 : decode cX8_tellMost 145 = .ok (.iconst 1, 1) := bX8_tellMost_130.2.2.2.2.2.2.2.2.2.1
theorem dX8_tellMost_146 : decode cX8_tellMost 146 = .ok (.isub, 1) := bX8_tellMost_130.2.2.2.2.2.2.2.2.2.2.1
theorem dX8_tellMost_147 : decode cX8_tellMost 147 = .ok (.istore_n 3, 1) := bX8_tellMost_130.2.2.2.2.2.2.2.2.2.2.2.1
theorem dX8_tellMost_148 : decode cX8_tellMost 148 = .ok (.iload_n 3, 1) := bX8_tellMost_130.2.2.2.2.2.2.2.2.2.2.2.2.1
theorem dX8_tellMost_149 : decode cX8_tellMost 149 = .ok (.ifCond .lt 252, 3) := bX8_tellMost_130.2.2.2.2.2.2.2.2.2.2.2.2.2.1
theorem dX8_tellMost_152 : decode cX8_tellMost 152 = .ok (.iconst 0, 1) := bX8_tellMost_130.2.2.2.2.2.2.2.2.2.2.2.2.2.2.1
theorem dX8_tellMost_153 : decode cX8_tellMost 153 = .ok (.istore 4, 2) := bX8_tellMost_130.2.2.2.2.2.2.2.2.2.2.2.2.2.2.2
theorem bX8_tellMost_155 : (decode cX8_tellMost 155 = .ok (.iload 4, 2)) ∧ (decode cX8_tellMost 157 = .ok (.iload_n 2, 1)) ∧ (decode cX8_tellMost 158 = .ok (.if_icmp .ge 237, 3)) ∧ (decode cX8_tellMost 161 = .ok (.aload_n 0, 1)) ∧ (decode cX8_tellMost 162 = .ok (.getfield 27, 3)) ∧ (decode cX8_tellMost 165 = .ok (.sipush 128, 3)) ∧ (decode cX8_tellMost 168 = .ok (.iload_n 3, 1)) ∧ (decode cX8_tellMost 169 = .ok (.iconst 1, 1)) ∧ (decode cX8_tellMost 170 = .ok (.iadd, 1)) ∧ (decode cX8_tellMost 171 = .ok (.imul, 1)) ∧ (decode cX8_tellMost 172 = .ok (.iload 4, 2)) ∧ (decode cX8_tellMost 174 = .ok (.iadd, 1)) ∧ (decode cX8_tellMost 175 = .ok (.iaload, 1)) ∧ (decode cX8_tellMost 176 = .ok (.istore 5, 2)) ∧ (decode cX8_tellMost 178 = .ok (.aload_n 0, 1)) ∧ (decode cX8_tellMost 179 = .ok (.iload_n 3, 1)) := by decide +kernel
theorem dX8_tellMost_155 : decode cX8_tellMost 155 = .ok (.iload 4, 2) := bX8_tellMost_155.1
theorem dX8_tellMost_157 : decode cX8_tellMost 157 = .ok (.iload_n 2, 1) := bX8_tellMost_155.2.1
theorem dX8_tellMost_158 : decode cX8_tellMost 158 = .ok (.if_icmp .ge 237, 3) := bX8_tellMost_155.2.2.1
theorem dX8_tellMost_161 : decode cX8_tellMost 161 = .ok (.aload_n 0, 1) := bX8_tellMost_155.2.2.2.1
theorem dX8_tellMost_162 : decode cX8_tellMost 162 = .ok (.getfield 27, 3) := bX8_tellMost_155.2.2.2.2.1
theorem dX8_tellMost_165 : decode cX8_tellMost 165 = .ok (.sipush 128, 3) := bX8_tellMost_155.2.2.2.2.2.1
theorem dX8_tellMost_168 : decode cX8_tellMost 168 = .ok (.iload_n 3, 1) := bX8_tellMost_155.2.2.2.2.2.2.1
theorem dX8_tellMost_169 : decode cX8_tellMost 169 = .ok (.iconst 1, 1) := bX8_tellMost_155.2.2.2.2.2.2.2.1
theorem dX8_tellMost_170 : decode cX8_tellMost 170 = .ok (.iadd, 1) := bX8_tellMost_155.2.2.2.2.2.2.2.2.1
theorem dX8_tellMost_171 : decode cX8_tellMost 171 = .ok (.imul, 1) := bX8_tellMost_155.2.2.2.2.2.2.2.2.2.1
theorem dX8_tellMost_172 : decode cX8_tellMost 172 = .ok (.iload 4, 2) := bX8_tellMost_155.2.2.2.2.2.2.2.2.2.2.1
theorem dX8_tellMost_174 : decode cX8_tellMost 174 = .ok (.iadd, 1) := bX8_tellMost_155.2.2.2.2.2.2.2.2.2.2.2.1
theorem dX8_tellMost_175 : decode cX8_tellMost 175 = .ok (.iaload, 1) := bX8_tellMost_155.2.2.2.2.2.2.2.2.2.2.2.2.1
theorem dX8_tellMost_176 : decode cX8_tellMost 176 = .ok (.istore 5, 2) := bX8_tellMost_155.2.2.2.2.2.2.2.2.2.2.2.2.2.1
theorem dX8_tellMost_178 : decode cX8_tellMost 178 = .ok (.aload_n 0, 1) := bX8_tellMost_155.2.2.2.2.2.2.2.2.2.2.2.2.2.2.1
theorem dX8_tellMost_179 : decode cX8_tellMost 179 = .ok (.iload_n 3, 1) := bX8_tellMost_155.2.2.2.2.2.2.2.2.2.2.2.2.2.2.2
theorem bX8_tellMost_180 : (decode cX8_tellMost 180 = .ok (.invokevirtual 167, 3)) ∧ (decode cX8_tellMost 183 = .ok (.ifCond .eq 21, 3)) ∧ (decode cX8_tellMost 186 = .ok (.aload_n 0, 1)) ∧ (decode cX8_tellMost 187 = .ok (.getfield 30, 3)) ∧ (decode cX8_tellMost 190 = .ok (.sipush 128, 3)) ∧ (decode cX8_tellMost 193 = .ok (.iload_n 3, 1)) ∧ (decode cX8_tellMost 194 = .ok (.iconst 1, 1)) ∧ (decode cX8_tellMost 195 = .ok (.iadd, 1)) ∧ (decode cX8_tellMost 196 = .ok (.imul, 1)) ∧ (decode cX8_tellMost 197 = .ok (.iload 4, 2)) ∧ (decode cX8_tellMost 199 = .ok (.iadd, 1)) ∧ (decode cX8_tellMost 200 = .ok (.iaload, 1)) ∧ (decode cX8_tellMost 201 = .ok (.goto 5, 3)) ∧ (decode cX8_tellMost 204 = .ok (.ldc 202, 2)) ∧ (decode cX8_tellMost 206 = .ok (.istore 6, 2)) ∧ (decode cX8_tellMost 208 = .ok (.iconst 0, 1)) := by decide +kernel
theorem dX8_tellMost_180 : decode cX8_tellMost 180 = .ok (.invokevirtual 167, 3) := bX8_tellMost_180.1
theorem dX8_tellMost_183 : decode cX8_tellMost 183 = .ok (.ifCond .eq 21, 3) := bX8_tellMost_180.2.1
theorem dX8_tellMost_186 : decode cX8_tellMost 186 = .ok (.aload_n 0, 1) := bX8_tellMost_180.2.2.1
theorem dX8_tellMost_187 : decode cX8_tellMost 187 = .ok (.getfield 30, 3) := bX8_tellMost_180.2.2.2.1
theorem dX8_tellMost_190 : decode cX8_tellMost 190 = .ok (.sipush 128, 3) := bX8_tellMost_180.2.2.2.2.1
theorem dX8_tellMost_193 : decode cX8_tellMost 193 = .ok (.iload_n 3, 1) := bX8_tellMost_180.2.2.2.2.2.1
theorem dX8_tellMost_194 : decode cX8_tellMost 194 = .ok (.iconst 1, 1) := bX8_tellMost_180.2.2.2.2.2.2.1
theorem dX8_tellMost_195 : decode cX8_tellMost 195 = .ok (.iadd, 1) := bX8_tellMost_180.2.2.2.2.2.2.2.1
theorem dX8_tellMost_196 : decode cX8_tellMost 196 = .ok (.imul, 1) := bX8_tellMost_180.2.2.2.2.2.2.2.2.1
theorem dX8_tellMost_197 : decode cX8_tellMost 197 = .ok (.iload 4, 2) := bX8_tellMost_180.2.2.2.2.2.2.2.2.2.1
theorem dX8_tellMost_199 : decode cX8_tellMost 199 = .ok (.iadd, 1) := bX8_tellMost_180.2.2.2.2.2.2.2.2.2.2.1
theorem dX8_tellMost_200 : decode cX8_tellMost 200 = .ok (.iaload, 1) := bX8_tellMost_180.2.2.2.2.2.2.2.2.2.2.2.1
theorem dX8_tellMost_201 : decode cX8_tellMost 201 = .ok (.goto 5, 3) := bX8_tellMost_180.2.2.2.2.2.2.2.2.2.2.2.2.1
theorem dX8_tellMost_204 : decode cX8_tellMost 204 = .ok (.ldc 202, 2) := bX8_tellMost_180.2.2.2.2.2.2.2.2.2.2.2.2.2.1
theorem dX8_tellMost_206 : decode cX8_tellMost 206 = .ok (.istore 6, 2) := bX8_tellMost_180.2.2.2.2.2.2.2.2.2.2.2.2.2.2.1
theorem dX8_tellMost_208 : decode cX8_tellMost 208 = .ok (.iconst 0, 1) := bX8_tellMost_180.2.2.2.2.2.2.2.2.2.2.2.2.2.2.2
theorem bX8_tellMost_209 : (decode cX8_tellMost 209 = .ok (.istore 7, 2)) ∧ (decode cX8_tellMost 211 = .ok (.iload 7, 2)) ∧ (decode cX8_tellMost 213 = .ok (.aload_n 0, 1)) ∧ (decode cX8_tellMost 214 = .ok (.getfield 13, 3)) ∧ (decode cX8_tellMost 217 = .ok (.iconst 0, 1)) ∧ (decode cX8_tellMost 218 = .ok (.iaload, 1)) ∧ (decode cX8_tellMost 219 = .ok (.if_icmp .ge 128, 3)) ∧ (decode cX8_tellMost 222 = .ok (.aload_n 0, 1)) ∧ (decode cX8_tellMost 223 = .ok (.getfield 33, 3)) ∧ (decode cX8_tellMost 226 = .ok (.iload_n 3, 1)) ∧ (decode cX8_tellMost 227 = .ok (.iaload, 1)) ∧ (decode cX8_tellMost 228 = .ok (.iload 7, 2)) ∧ (decode cX8_tellMost 230 = .ok (.invokestatic 61, 3)) ∧ (decode cX8_tellMost 233 = .ok (.ifCond .eq 108, 3)) ∧ (decode cX8_tellMost 236 = .ok (.iload 4, 2)) ∧ (decode cX8_tellMost 238 = .ok (.iload 7, 2)) := by decide +kernel
theorem dX8_tellMost_209 : decode cX8_tellMost 209 = .ok (.istore 7, 2) := bX8_tellMost_209.1
theorem dX8_tellMost_211 : decode cX8_tellMost 211 = .ok (.iload 7, 2) := bX8_tellMost_209.2.1
theorem dX8_tellMost_213 : decode cX8_tellMost 213 = .ok (.aload_n 0, 1) := bX8_tellMost_209.2.2.1
theorem dX8_tellMost_214 : decode cX8_tellMost 214 = .ok (.getfield 13, 3) := bX8_tellMost_209.2.2.2.1
theorem dX8_tellMost_217 : decode cX8_tellMost 217 = .ok (.iconst 0, 1) := bX8_tellMost_209.2.2.2.2.1
theorem dX8_tellMost_218 : decode cX8_tellMost 218 = .ok (.iaload, 1) := bX8_tellMost_209.2.2.2.2.2.1
theorem dX8_tellMost_219 : decode cX8_tellMost 219 = .ok (.if_icmp .ge 128, 3) := bX8_tellMost_209.2.2.2.2.2.2.1
theorem dX8_tellMost_222 : decode cX8_tellMost 222 = .ok (.aload_n 0, 1) := bX8_tellMost_209.2.2.2.2.2.2.2.1
theorem dX8_tellMost_223 : decode cX8_tellMost 223 = .ok (.getfield 33, 3) := bX8_tellMost_209.2.2.2.2.2.2.2.2.1
theorem dX8_tellMost_226 : decode cX8_tellMost 226 = .ok (.iload_n 3, 1) := bX8_tellMost_209.2.2.2.2.2.2.2.2.2.1
theorem dX8_tellMost_227 : decode cX8_tellMost 227 = .ok (.iaload, 1) := bX8_tellMost_209.2.2.2.2.2.2.2.2.2.2.1
theorem dX8_tellMost_228 : decode cX8_tellMost 228 = .ok (.iload 7, 2) := bX8_tellMost_209.2.2.2.2.2.2.2.2.2.2.2.1
theorem dX8_tellMost_230 : decode cX8_tellMost 230 = .ok (.invokestatic 61, 3) := bX8_tellMost_209.2.2.2.2.2.2.2.2.2.2.2.2.1
theorem dX8_tellMost_233 : decode cX8_tellMost 233 = .ok (.ifCond .eq 108, 3) := bX8_tellMost_209.2.2.2.2.2.2.2.2.2.2.2.2.2.1
theorem dX8_tellMost_236 : decode cX8_tellMost 236 = .ok (.iload 4, 2) := bX8_tellMost_209.2.2.2.2.2.2.2.2.2.2.2.2.2.2.1
theorem dX8_tellMost_238 : decode cX8_tellMost 238 = .ok (.iload 7, 2) := bX8_tellMost_209.2.2.2.2.2.2.2.2.2.2.2.2.2.2.2
theorem bX8_tellMost_240 : (decode cX8_tellMost 240 = .ok (.invokestatic 61, 3)) ∧ (decode cX8_tellMost 243 = .ok (.ifCond .ne 98, 3)) ∧ (decode cX8_tellMost 246 = .ok (.sipush 128, 3)) ∧ (decode cX8_tellMost 249 = .ok (.iload_n 3, 1)) ∧ (decode cX8_tellMost 250 = .ok (.iconst 1, 1)) ∧ (decode cX8_tellMost 251 = .ok (.iadd, 1)) ∧ (decode cX8_tellMost 252 = .ok (.imul, 1)) ∧ (decode cX8_tellMost 253 = .ok (.iload 4, 2)) ∧ (decode cX8_tellMost 255 = .ok (.iconst 1, 1)) ∧ (decode cX8_tellMost 256 = .ok (.iload 7, 2)) ∧ (decode cX8_tellMost 258 = .ok (.ishl, 1)) ∧ (decode cX8_tellMost 259 = .ok (.ior, 1)) ∧ (decode cX8_tellMost 260 = .ok (.iadd, 1)) ∧ (decode cX8_tellMost 261 = .ok (.istore 8, 2)) ∧ (decode cX8_tellMost 263 = .ok (.iconst 1, 1)) ∧ (decode cX8_tellMost 264 = .ok (.aload_n 0, 1)) := by decide +kernel
theorem dX8_tellMost_240 : decode cX8_tellMost 240 = .ok (.invokestatic 61, 3) := bX8_tellMost_240.1
theorem dX8_tellMost_243 : decode cX8_tellMost 243 = .ok (.ifCond .ne 98, 3) := bX8_tellMost_240.2.1
theorem dX8_tellMost_246 : decode cX8_tellMost 246 = .ok (.sipush 128, 3) := bX8_tellMost_240.2.2.1
theorem dX8_tellMost_249 : decode cX8_tellMost 249 = .ok (.iload_n 3, 1) := bX8_tellMost_240.2.2.2.1
theorem dX8_tellMost_250 : decode cX8_tellMost 250 = .ok (.iconst 1, 1) := bX8_tellMost_240.2.2.2.2.1
theorem dX8_tellMost_251 : decode cX8_tellMost 251 = .ok (.iadd, 1) := bX8_tellMost_240.2.2.2.2.2.1
theorem dX8_tellMost_252 : decode cX8_tellMost 252 = .ok (.imul, 1) := bX8_tellMost_240.2.2.2.2.2.2.1
theorem dX8_tellMost_253 : decode cX8_tellMost 253 = .ok (.iload 4, 2) := bX8_tellMost_240.2.2.2.2.2.2.2.1
theorem dX8_tellMost_255 : decode cX8_tellMost 255 = .ok (.iconst 1, 1) := bX8_tellMost_240.2.2.2.2.2.2.2.2.1
theorem dX8_tellMost_256 : decode cX8_tellMost 256 = .ok (.iload 7, 2) := bX8_tellMost_240.2.2.2.2.2.2.2.2.2.1
theorem dX8_tellMost_258 : decode cX8_tellMost 258 = .ok (.ishl, 1) := bX8_tellMost_240.2.2.2.2.2.2.2.2.2.2.1
theorem dX8_tellMost_259 : decode cX8_tellMost 259 = .ok (.ior, 1) := bX8_tellMost_240.2.2.2.2.2.2.2.2.2.2.2.1
theorem dX8_tellMost_260 : decode cX8_tellMost 260 = .ok (.iadd, 1) := bX8_tellMost_240.2.2.2.2.2.2.2.2.2.2.2.2.1
theorem dX8_tellMost_261 : decode cX8_tellMost 261 = .ok (.istore 8, 2) := bX8_tellMost_240.2.2.2.2.2.2.2.2.2.2.2.2.2.1
theorem dX8_tellMost_263 : decode cX8_tellMost 263 = .ok (.iconst 1, 1) := bX8_tellMost_240.2.2.2.2.2.2.2.2.2.2.2.2.2.2.1
theorem dX8_tellMost_264 : decode cX8_tellMost 264 = .ok (.aload_n 0, 1) := bX8_tellMost_240.2.2.2.2.2.2.2.2.2.2.2.2.2.2.2
theorem bX8_tellMost_265 : (decode cX8_tellMost 265 = .ok (.getfield 27, 3)) ∧ (decode cX8_tellMost 268 = .ok (.iload 8, 2)) ∧ (decode cX8_tellMost 270 = .ok (.iaload, 1)) ∧ (decode cX8_tellMost 271 = .ok (.iadd, 1)) ∧ (decode cX8_tellMost 272 = .ok (.iload 5, 2)) ∧ (decode cX8_tellMost 274 = .ok (.if_icmp .le 15, 3)) ∧ (decode cX8_tellMost 277 = .ok (.iconst 1, 1)) ∧ (decode cX8_tellMost 278 = .ok (.aload_n 0, 1)) ∧ (decode cX8_tellMost 279 = .ok (.getfield 27, 3)) ∧ (decode cX8_tellMost 282 = .ok (.iload 8, 2)) ∧ (decode cX8_tellMost 284 = .ok (.iaload, 1)) ∧ (decode cX8_tellMost 285 = .ok (.iadd, 1)) ∧ (decode cX8_tellMost 286 = .ok (.goto 5, 3)) ∧ (decode cX8_tellMost 289 = .ok (.iload 5, 2)) ∧ (decode cX8_tellMost 291 = .ok (.istore 5, 2)) ∧ (decode cX8_tellMost 293 = .ok (.aload_n 0, 1)) := by decide +kernel
theorem dX8_tellMost_265 : decode cX8_tellMost 265 = .ok (.getfield 27, 3) := bX8_tellMost_265.1
theorem dX8_tellMost_268 : decode cX8_tellMost 268 = .ok (.iload 8, 2) := bX8_tellMost_265.2.1
theorem dX8_tellMost_270 : decode cX8_tellMost 270 = .ok (.iaload, 1) := bX8_tellMost_265.2.2.1
theorem dX8_tellMost_271 : decode cX8_tellMost 271 = .ok (.iadd, 1) := bX8_tellMost_265.2.2.2.1
theorem dX8_tellMost_272 : decode cX8_tellMost 272 = .ok (.iload 5, 2) := bX8_tellMost_265.2.2.2.2.1
theorem dX8_tellMost_274 : decode cX8_tellMost 274 = .ok (.if_icmp .le 15, 3) := bX8_tellMost_265.2.2.2.2.2.1
theorem dX8_tellMost_277 : decode cX8_tellMost 277 = .ok (.iconst 1, 1) := bX8_tellMost_265.2.2.2.2.2.2.1
theorem dX8_tellMost_278 : decode cX8_tellMost 278 = .ok (.aload_n 0, 1) := bX8_tellMost_265.2.2.2.2.2.2.2.1
theorem dX8_tellMost_279 : decode cX8_tellMost 279 = .ok (.getfield 27, 3) := bX8_tellMost_265.2.2.2.2.2.2.2.2.1
theorem dX8_tellMost_282 : decode cX8_tellMost 282 = .ok (.iload 8, 2) := bX8_tellMost_265.2.2.2.2.2.2.2.2.2.1
theorem dX8_tellMost_284 : decode cX8_tellMost 284 = .ok (.iaload, 1) := bX8_tellMost_265.2.2.2.2.2.2.2.2.2.2.1
theorem dX8_tellMost_285 : decode cX8_tellMost 285 = .ok (.iadd, 1) := bX8_tellMost_265.2.2.2.2.2.2.2.2.2.2.2.1
theorem dX8_tellMost_286 : decode cX8_tellMost 286 = .ok (.goto 5, 3) := bX8_tellMost_265.2.2.2.2.2.2.2.2.2.2.2.2.1
theorem dX8_tellMost_289 : decode cX8_tellMost 289 = .ok (.iload 5, 2) := bX8_tellMost_265.2.2.2.2.2.2.2.2.2.2.2.2.2.1
theorem dX8_tellMost_291 : decode cX8_tellMost 291 = .ok (.istore 5, 2) := bX8_tellMost_265.2.2.2.2.2.2.2.2.2.2.2.2.2.2.1
theorem dX8_tellMost_293 : decode cX8_tellMost 293 = .ok (.aload_n 0, 1) := bX8_tellMost_265.2.2.2.2.2.2.2.2.2.2.2.2.2.2.2
theorem bX8_tellMost_294 : (decode cX8_tellMost 294 = .ok (.getfield 13, 3)) ∧ (decode cX8_tellMost 297 = .ok (.bipush 13, 2)) ∧ (decode cX8_tellMost 299 = .ok (.iload 7, 2)) ∧ (decode cX8_tellMost 301 = .ok (.iadd, 1)) ∧ (decode cX8_tellMost 302 = .ok (.iaload, 1)) ∧ (decode cX8_tellMost 303 = .ok (.aload_n 0, 1)) ∧ (decode cX8_tellMost 304 = .ok (.getfield 30, 3)) ∧ (decode cX8_tellMost 307 = .ok (.iload 8, 2)) ∧ (decode cX8_tellMost 309 = .ok (.iaload, 1)) ∧ (decode cX8_tellMost 310 = .ok (.iadd, 1)) ∧ (decode cX8_tellMost 311 = .ok (.iload 6, 2)) ∧ (decode cX8_tellMost 313 = .ok (.if_icmp .ge 24, 3)) ∧ (decode cX8_tellMost 316 = .ok (.aload_n 0, 1)) ∧ (decode cX8_tellMost 317 = .ok (.getfield 13, 3)) ∧ (decode cX8_tellMost 320 = .ok (.bipush 13, 2)) ∧ (decode cX8_tellMost 322 = .ok (.iload 7, 2)) := by decide +kernel
theorem dX8_tellMost_294 : decode cX8_tellMost 294 = .ok (.getfield 13, 3) := bX8_tellMost_294.1
theorem dX8_tellMost_297 : decode cX8_tellMost 297 = .ok (.bipush 13, 2) := bX8_tellMost_294.2.1
theorem dX8_tellMost_299 : decode cX8_tellMost 299 = .ok (.iload 7, 2) := bX8_tellMost_294.2.2.1
theorem dX8_tellMost_301 : decode cX8_tellMost 301 = .ok (.iadd, 1) := bX8_tellMost_294.2.2.2.1
theorem dX8_tellMost_302 : decode cX8_tellMost 302 = .ok (.iaload, 1) := bX8_tellMost_294.2.2.2.2.1
theorem dX8_tellMost_303 : decode cX8_tellMost 303 = .ok (.aload_n 0, 1) := bX8_tellMost_294.2.2.2.2.2.1
theorem dX8_tellMost_304 : decode cX8_tellMost 304 = .ok (.getfield 30, 3) := bX8_tellMost_294.2.2.2.2.2.2.1
theorem dX8_tellMost_307 : decode cX8_tellMost 307 = .ok (.iload 8, 2) := bX8_tellMost_294.2.2.2.2.2.2.2.1
theorem dX8_tellMost_309 : decode cX8_tellMost 309 = .ok (.iaload, 1) := bX8_tellMost_294.2.2.2.2.2.2.2.2.1
theorem dX8_tellMost_310 : decode cX8_tellMost 310 = .ok (.iadd, 1) := bX8_tellMost_294.2.2.2.2.2.2.2.2.2.1
theorem dX8_tellMost_311 : decode cX8_tellMost 311 = .ok (.iload 6, 2) := bX8_tellMost_294.2.2.2.2.2.2.2.2.2.2.1
theorem dX8_tellMost_313 : decode cX8_tellMost 313 = .ok (.if_icmp .ge 24, 3) := bX8_tellMost_294.2.2.2.2.2.2.2.2.2.2.2.1
theorem dX8_tellMost_316 : decode cX8_tellMost 316 = .ok (.aload_n 0, 1) := bX8_tellMost_294.2.2.2.2.2.2.2.2.2.2.2.2.1
theorem dX8_tellMost_317 : decode cX8_tellMost 317 = .ok (.getfield 13, 3) := bX8_tellMost_294.2.2.2.2.2.2.2.2.2.2.2.2.2.1
theorem dX8_tellMost_320 : decode cX8_tellMost 320 = .ok (.bipush 13, 2) := bX8_tellMost_294.2.2.2.2.2.2.2.2.2.2.2.2.2.2.1
theorem dX8_tellMost_322 : decode cX8_tellMost 322 = .ok (.iload 7, 2) := bX8_tellMost_294.2.2.2.2.2.2.2.2.2.2.2.2.2.2.2
theorem bX8_tellMost_324 : (decode cX8_tellMost 324 = .ok (.iadd, 1)) ∧ (decode cX8_tellMost 325 = .ok (.iaload, 1)) ∧ (decode cX8_tellMost 326 = .ok (.aload_n 0, 1)) ∧ (decode cX8_tellMost 327 = .ok (.getfield 30, 3)) ∧ (decode cX8_tellMost 330 = .ok (.iload 8, 2)) ∧ (decode cX8_tellMost 332 = .ok (.iaload, 1)) ∧ (decode cX8_tellMost 333 = .ok (.iadd, 1)) ∧ (decode cX8_tellMost 334 = .ok (.goto 5, 3)) ∧ (decode cX8_tellMost 337 = .ok (.iload 6, 2)) ∧ (decode cX8_tellMost 339 = .ok (.istore 6, 2)) ∧ (decode cX8_tellMost 341 = .ok (.iinc 7 1, 3)) ∧ (decode cX8_tellMost 344 = .ok (.goto (-133), 3)) ∧ (decode cX8_tellMost 347 = .ok (.aload_n 0, 1)) ∧ (decode cX8_tellMost 348 = .ok (.getfield 27, 3)) ∧ (decode cX8_tellMost 351 = .ok (.sipush 128, 3)) ∧ (decode cX8_tellMost 354 = .ok (.iload_n 3, 1)) := by decide +kernel
theorem dX8_tellMost_324 : decode cX8_tellMost 324 = .ok (.iadd, 1) := bX8_tellMost_324.1
theorem dX8_tellMost_325 : decode cX8_tellMost 325 = .ok (.iaload, 1) := bX8_tellMost_324.2.1
theorem dX8_tellMost_326 : decode cX8_tellMost 326 = .ok (.aload_n 0, 1) := bX8_tellMost_324.2.2.1
theorem dX8_tellMost_327 : decode cX8_tellMost 327 = .ok (.getfield 30, 3) := bX8_tellMost_324.2.2.2.1
theorem dX8_tellMost_330 : decode cX8_tellMost 330 = .ok (.iload 8, 2) := bX8_tellMost_324.2.2.2.2.1
theorem dX8_tellMost_332 : decode cX8_tellMost 332 = .ok (.iaload, 1) := bX8_tellMost_324.2.2.2.2.2.1
theorem dX8_tellMost_333 : decode cX8_tellMost 333 = .ok (.iadd, 1) := bX8_tellMost_324.2.2.2.2.2.2.1
theorem dX8_tellMost_334 : decode cX8_tellMost 334 = .ok (.goto 5, 3) := bX8_tellMost_324.2.2.2.2.2.2.2.1
theorem dX8_tellMost_337 : decode cX8_tellMost 337 = .ok (.iload 6, 2) := bX8_tellMost_324.2.2.2.2.2.2.2.2.1
theorem dX8_tellMost_339 : decode cX8_tellMost 339 = .ok (.istore 6, 2) := bX8_tellMost_324.2.2.2.2.2.2.2.2.2.1
theorem dX8_tellMost_341 : decode cX8_tellMost 341 = .ok (.iinc 7 1, 3) := bX8_tellMost_324.2.2.2.2.2.2.2.2.2.2.1
theorem dX8_tellMost_344 : decode cX8_tellMost 344 = .ok (.goto (-133), 3) := bX8_tellMost_324.2.2.2.2.2.2.2.2.2.2.2.1
theorem dX8_tellMost_347 : decode cX8_tellMost 347 = .ok (.aload_n 0, 1) := bX8_tellMost_324.2.2.2.2.2.2.2.2.2.2.2.2.1
theorem dX8_tellMost_348 : decode cX8_tellMost 348 = .ok (.getfield 27, 3) := bX8_tellMost_324.2.2.2.2.2.2.2.2.2.2.2.2.2.1
theorem dX8_tellMost_351 : decode cX8_tellMost 351 = .ok (.sipush 128, 3) := bX8_tellMost_324.2.2.2.2.2.2.2.2.2.2.2.2.2.2.1
theorem dX8_tellMost_354 : decode cX8_tellMost 354 = .ok (.iload_n 3, 1) := bX8_tellMost_324.2.2.2.2.2.2.2.2.2.2.2.2.2.2.2
theorem bX8_tellMost_355 : (decode cX8_tellMost 355 = .ok (.imul, 1)) ∧ (decode cX8_tellMost 356 = .ok (.iload 4, 2)) ∧ (decode cX8_tellMost 358 = .ok (.iadd, 1)) ∧ (decode cX8_tellMost 359 = .ok (.iload 5, 2)) ∧ (decode cX8_tellMost 361 = .ok (.iastore, 1)) ∧ (decode cX8_tellMost 362 = .ok (.aload_n 0, 1)) ∧ (decode cX8_tellMost 363 = .ok (.getfield 30, 3)) ∧ (decode cX8_tellMost 366 = .ok (.sipush 128, 3)) ∧ (decode cX8_tellMost 369 = .ok (.iload_n 3, 1)) ∧ (decode cX8_tellMost 370 = .ok (.imul, 1)) ∧ (decode cX8_tellMost 371 = .ok (.iload 4, 2)) ∧ (decode cX8_tellMost 373 = .ok (.iadd, 1)) ∧ (decode cX8_tellMost 374 = .ok (.iload 6, 2)) ∧ (decode cX8_tellMost 376 = .ok (.ldc 202, 2)) ∧ (decode cX8_tellMost 378 = .ok (.if_icmp .le 8, 3)) ∧ (decode cX8_tellMost 381 = .ok (.ldc 202, 2)) := by decide +kernel
theorem dX8_tellMost_355 : decode cX8_tellMost 355 = .ok (.imul, 1) := bX8_tellMost_355.1
theorem dX8_tellMost_356 : decode cX8_tellMost 356 = .ok (.iload 4, 2) := bX8_tellMost_355.2.1
theorem dX8_tellMost_358 : decode cX8_tellMost 358 = .ok (.iadd, 1) := bX8_tellMost_355.2.2.1
theorem dX8_tellMost_359 : decode cX8_tellMost 359 = .ok (.iload 5, 2) := bX8_tellMost_355.2.2.2.1
theorem dX8_tellMost_361 : decode cX8_tellMost 361 = .ok (.iastore, 1) := bX8_tellMost_355.2.2.2.2.1
theorem dX8_tellMost_362 : decode cX8_tellMost 362 = .ok (.aload_n 0, 1) := bX8_tellMost_355.2.2.2.2.2.1
theorem dX8_tellMost_363 : decode cX8_tellMost 363 = .ok (.getfield 30, 3) := bX8_tellMost_355.2.2.2.2.2.2.1
theorem dX8_tellMost_366 : decode cX8_tellMost 366 = .ok (.sipush 128, 3) := bX8_tellMost_355.2.2.2.2.2.2.2.1
theorem dX8_tellMost_369 : decode cX8_tellMost 369 = .ok (.iload_n 3, 1) := bX8_tellMost_355.2.2.2.2.2.2.2.2.1
theorem dX8_tellMost_370 : decode cX8_tellMost 370 = .ok (.imul, 1) := bX8_tellMost_355.2.2.2.2.2.2.2.2.2.1
theorem dX8_tellMost_371 : decode cX8_tellMost 371 = .ok (.iload 4, 2) := bX8_tellMost_355.2.2.2.2.2.2.2.2.2.2.1
theorem dX8_tellMost_373 : decode cX8_tellMost 373 = .ok (.iadd, 1) := bX8_tellMost_355.2.2.2.2.2.2.2.2.2.2.2.1
theorem dX8_tellMost_374 : decode cX8_tellMost 374 = .ok (.iload 6, 2) := bX8_tellMost_355.2.2.2.2.2.2.2.2.2.2.2.2.1
theorem dX8_tellMost_376 : decode cX8_tellMost 376 = .ok (.ldc 202, 2) := bX8_tellMost_355.2.2.2.2.2.2.2.2.2.2.2.2.2.1
theorem dX8_tellMost_378 : decode cX8_tellMost 378 = .ok (.if_icmp .le 8, 3) := bX8_tellMost_355.2.2.2.2.2.2.2.2.2.2.2.2.2.2.1
theorem dX8_tellMost_381 : decode cX8_tellMost 381 = .ok (.ldc 202, 2) := bX8_tellMost_355.2.2.2.2.2.2.2.2.2.2.2.2.2.2.2
theorem bX8_tellMost_383 : (decode cX8_tellMost 383 = .ok (.goto 5, 3)) ∧ (decode cX8_tellMost 386 = .ok (.iload 6, 2)) ∧ (decode cX8_tellMost 388 = .ok (.iastore, 1)) ∧ (decode cX8_tellMost 389 = .ok (.iinc 4 1, 3)) ∧ (decode cX8_tellMost 392 = .ok (.goto (-237), 3)) ∧ (decode cX8_tellMost 395 = .ok (.iinc 3 (-1), 3)) ∧ (decode cX8_tellMost 398 = .ok (.goto (-250), 3)) ∧ (decode cX8_tellMost 401 = .ok (.return_, 1)) := by decide +kernel
theorem dX8_tellMost_383 : decode cX8_tellMost 383 = .ok (.goto 5, 3) := bX8_tellMost_383.1
theorem dX8_tellMost_386 : decode cX8_tellMost 386 = .ok (.iload 6, 2) := bX8_tellMost_383.2.1
theorem dX8_tellMost_388 : decode cX8_tellMost 388 = .ok (.iastore, 1) := bX8_tellMost_383.2.2.1
theorem dX8_tellMost_389 : decode cX8_tellMost 389 = .ok (.iinc 4 1, 3) := bX8_tellMost_383.2.2.2.1
theorem dX8_tellMost_392 : decode cX8_tellMost 392 = .ok (.goto (-237), 3) := bX8_tellMost_383.2.2.2.2.1
theorem dX8_tellMost_395 : decode cX8_tellMost 395 = .ok (.iinc 3 (-1), 3) := bX8_tellMost_383.2.2.2.2.2.1
theorem dX8_tellMost_398 : decode cX8_tellMost 398 = .ok (.goto (-250), 3) := bX8_tellMost_383.2.2.2.2.2.2.1
theorem dX8_tellMost_401 : decode cX8_tellMost 401 = .ok (.return_, 1) := bX8_tellMost_383.2.2.2.2.2.2.2
theorem bX8_match_0 : (decode cX8_match 0 = .ok (.iload_n 1, 1)) ∧ (decode cX8_match 1 = .ok (.iconst 1, 1)) ∧ (decode cX8_match 2 = .ok (.bipush 60, 2)) ∧ (decode cX8_match 4 = .ok (.invokestatic 44, 3)) ∧ (decode cX8_match 7 = .ok (.ifCond .eq 16, 3)) ∧ (decode cX8_match 10 = .ok (.iload_n 2, 1)) ∧ (decode cX8_match 11 = .ok (.iconst (-1), 1)) ∧ (decode cX8_match 12 = .ok (.if_icmp .eq 19, 3)) ∧ (decode cX8_match 15 = .ok (.aload_n 0, 1)) ∧ (decode cX8_match 16 = .ok (.iload_n 2, 1)) ∧ (decode cX8_match 17 = .ok (.invokevirtual 161, 3)) ∧ (decode cX8_match 20 = .ok (.ifCond .ne 11, 3)) ∧ (decode cX8_match 23 = .ok (.aload_n 0, 1)) ∧ (decode cX8_match 24 = .ok (.invokevirtual 69, 3)) ∧ (decode cX8_match 27 = .ok (.pop, 1)) ∧ (decode cX8_match 28 = .ok (.bipush (-10), 2)) := by decide +kernel
theorem dX8_match_0 : decode cX8_match 0 = .ok (.iload_n 1, 1) := bX8_match_0.1
theorem dX8_match_1 : decode cX8_match 1 = .ok (.iconst 1, 1) := bX8_match_0.2.1
theorem dX8_match_2 : decode cX8_match 2 = .ok (.bipush 60, 2) := bX8_match_0.2.2.1
theorem dX8_match_4 : decode cX8_match 4 = .ok (.invokestatic 44, 3) := bX8_match_0.2.2.2.1
theorem dX8_match_7 : decode cX8_match 7 = .ok (.ifCond .eq 16, 3) := bX8_match_0.2.2.2.2.1
theorem dX8_match_10 : decode cX8_match 10 = .ok (.iload_n 2, 1) := bX8_match_0.2.2.2.2.2.1
theorem dX8_match_11 : decode cX8_match 11 = .ok (.iconst (-1), 1) := bX8_match_0.2.2.2.2.2.2.1
theorem dX8_match_12 : decode cX8_match 12 = .ok (.if_icmp .eq 19, 3) := bX8_match_0.2.2.2.2.2.2.2.1
theorem dX8_match_15 : decode cX8_match 15 = .ok (.aload_n 0, 1) := bX8_match_0.2.2.2.2.2.2.2.2.1
theorem dX8_match_16 : decode cX8_match 16 = .ok (.iload_n 2, 1) := bX8_match_0.2.2.2.2.2.2.2.2.2.1
theorem dX8_match_17 : decode cX8_match 17 = .ok (.invokevirtual 161, 3) := bX8_match_0.2.2.2.2.2.2.2.2.2.2.1
theorem dX8_match_20 : decode cX8_match 20 = .ok (.ifCond .ne 11, 3) := bX8_match_0.2.2.2.2.2.2.2.2.2.2.2.1
theorem dX8_match_23 : decode cX8_match 23 = .ok (.aload_n 0, 1) := bX8_match_0.2.2.2.2.2.2.2.2.2.2.2.2.1
theorem dX8_match_24 : decode cX8_match 24 = .ok (.invokevirtual 69, 3) := bX8_match_0.2.2.2.2.2.2.2.2.2.2.2.2.2.1
theorem dX8_match_27 : decode cX8_match 27 = .ok (.pop, 1) := bX8_match_0.2.2.2.2.2.2.2.2.2.2.2.2.2.2.1
theorem dX8_match_28 : decode cX8_match 28 = .ok (.bipush (-10), 2) := bX8_match_0.2.2.2.2.2.2.2.2.2.2.2.2.2.2.2
theorem bX8_match_30 : (decode cX8_match 30 = .ok (.ireturn, 1)) ∧ (decode cX8_match 31 = .ok (.aload_n 0, 1)) ∧ (decode cX8_match 32 = .ok (.iload_n 1, 1)) ∧ (decode cX8_match 33 = .ok (.invokevirtual 203, 3)) ∧ (decode cX8_match 36 = .ok (.iload_n 2, 1)) ∧ (decode cX8_match 37 = .ok (.iconst (-1), 1)) ∧ (decode cX8_match 38 = .ok (.if_icmp .ne 10, 3)) ∧ (decode cX8_match 41 = .ok (.aload_n 0, 1)) ∧ (decode cX8_match 42 = .ok (.getfield 27, 3)) ∧ (decode cX8_match 45 = .ok (.iconst 0, 1)) ∧ (decode cX8_match 46 = .ok (.iaload, 1)) ∧ (decode cX8_match 47 = .ok (.ireturn, 1)) ∧ (decode cX8_match 48 = .ok (.iconst 0, 1)) ∧ (decode cX8_match 49 = .ok (.istore_n 3, 1)) ∧ (decode cX8_match 50 = .ok (.iconst (-1), 1)) ∧ (decode cX8_match 51 = .ok (.istore 4, 2)) := by decide +kernel
theorem dX8_match_30 : decode cX8_match 30 = .ok (.ireturn, 1) := bX8_match_30.1
theorem dX8_match_31 : decode cX8_match 31 = .ok (.aload_n 0, 1) := bX8_match_30.2.1
theorem dX8_match_32 : decode cX8_match 32 = .ok (.iload_n 1, 1) := bX8_match_30.2.2.1
theorem dX8_match_33 : decode cX8_match 33 = .ok (.invokevirtual 203, 3) := bX8_match_30.2.2.2.1
theorem dX8_match_36 : decode cX8_match 36 = .ok (.iload_n 2, 1) := bX8_match_30.2.2.2.2.1
theorem dX8_match_37 : decode cX8_match 37 = .ok (.iconst (-1), 1) := bX8_match_30.2.2.2.2.2.1
theorem dX8_match_38 : decode cX8_match 38 = .ok (.if_icmp .ne 10, 3) := bX8_match_30.2.2.2.2.2.2.1
theorem dX8_match_41 : decode cX8_match 41 = .ok (.aload_n 0, 1) := bX8_match_30.2.2.2.2.2.2.2.1
theorem dX8_match_42 : decode cX8_match 42 = .ok (.getfield 27, 3) := bX8_match_30.2.2.2.2.2.2.2.2.1
theorem dX8_match_45 : decode cX8_match 45 = .ok (.iconst 0, 1) := bX8_match_30.2.2.2.2.2.2.2.2.2.1
theorem dX8_match_46 : decode cX8_match 46 = .ok (.iaload, 1) := bX8_match_30.2.2.2.2.2.2.2.2.2.2.1
theorem dX8_match_47 : decode cX8_match 47 = .ok (.ireturn, 1) := bX8_match_30.2.2.2.2.2.2.2.2.2.2.2.1
theorem dX8_match_48 : decode cX8_match 48 = .ok (.iconst 0, 1) := bX8_match_30.2.2.2.2.2.2.2.2.2.2.2.2.1
theorem dX8_match_49 : decode cX8_match 49 = .ok (.istore_n 3, 1) := bX8_match_30.2.2.2.2.2.2.2.2.2.2.2.2.2.1
theorem dX8_match_50 : decode cX8_match 50 = .ok (.iconst (-1), 1) := bX8_match_30.2.2.2.2.2.2.2.2.2.2.2.2.2.2.1
theorem dX8_match_51 : decode cX8_match 51 = .ok (.istore 4, 2) := bX8_match_30.2.2.2.2.2.2.2.2.2.2.2.2.2.2.2
theorem bX8_match_53 : (decode cX8_match 53 = .ok (.iconst 0, 1)) ∧ (decode cX8_match 54 = .ok (.istore 5, 2)) ∧ (decode cX8_match 56 = .ok (.iload 5, 2)) ∧ (decode cX8_match 58 = .ok (.iload_n 2, 1)) ∧ (decode cX8_match 59 = .ok (.if_icmp .gt 165, 3)) ∧ (decode cX8_match 62 = .ok (.iconst (-1), 1)) ∧ (decode cX8_match 63 = .ok (.istore 4, 2)) ∧ (decode cX8_match 65 = .ok (.aload_n 0, 1)) ∧ (decode cX8_match 66 = .ok (.getfield 27, 3)) ∧ (decode cX8_match 69 = .ok (.sipush 128, 3)) ∧ (decode cX8_match 72 = .ok (.iload 5, 2)) ∧ (decode cX8_match 74 = .ok (.imul, 1)) ∧ (decode cX8_match 75 = .ok (.iload_n 3, 1)) ∧ (decode cX8_match 76 = .ok (.iadd, 1)) ∧ (decode cX8_match 77 = .ok (.iaload, 1)) ∧ (decode cX8_match 78 = .ok (.istore 6, 2)) := by decide +kernel
theorem dX8_match_53 : decode cX8_match 53 = .ok (.iconst 0, 1) := bX8_match_53.1
theorem dX8_match_54 : decode cX8_match 54 = .ok (.istore 5, 2) := bX8_match_53.2.1
theorem dX8_match_56 : decode cX8_match 56 = .ok (.iload 5, 2) := bX8_match_53.2.2.1
theorem dX8_match_58 : decode cX8_match 58 = .ok (.iload_n 2, 1) := bX8_match_53.2.2.2.1
theorem dX8_match_59 : decode cX8_match 59 = .ok (.if_icmp .gt 165, 3) := bX8_match_53.2.2.2.2.1
theorem dX8_match_62 : decode cX8_match 62 = .ok (.iconst (-1), 1) := bX8_match_53.2.2.2.2.2.1
theorem dX8_match_63 : decode cX8_match 63 = .ok (.istore 4, 2) := bX8_match_53.2.2.2.2.2.2.1
theorem dX8_match_65 : decode cX8_match 65 = .ok (.aload_n 0, 1) := bX8_match_53.2.2.2.2.2.2.2.1
theorem dX8_match_66 : decode cX8_match 66 = .ok (.getfield 27, 3) := bX8_match_53.2.2.2.2.2.2.2.2.1
theorem dX8_match_69 : decode cX8_match 69 = .ok (.sipush 128, 3) := bX8_match_53.2.2.2.2.2.2.2.2.2.1
theorem dX8_match_72 : decode cX8_match 72 = .ok (.iload 5, 2) := bX8_match_53.2.2.2.2.2.2.2.2.2.2.1
theorem dX8_match_74 : decode cX8_match 74 = .ok (.imul, 1) := bX8_match_53.2.2.2.2.2.2.2.2.2.2.2.1
theorem dX8_match_75 : decode cX8_match 75 = .ok (.iload_n 3, 1) := bX8_match_53.2.2.2.2.2.2.2.2.2.2.2.2.1
theorem dX8_match_76 : decode cX8_match 76 = .ok (.iadd, 1) := bX8_match_53.2.2.2.2.2.2.2.2.2.2.2.2.2.1
theorem dX8_match_77 : decode cX8_match 77 = .ok (.iaload, 1) := bX8_match_53.2.2.2.2.2.2.2.2.2.2.2.2.2.2.1
theorem dX8_match_78 : decode cX8_match 78 = .ok (.istore 6, 2) := bX8_match_53.2.2.2.2.2.2.2.2.2.2.2.2.2.2.2
theorem bX8_match_80 : (decode cX8_match 80 = .ok (.aload_n 0, 1)) ∧ (decode cX8_match 81 = .ok (.getfield 13, 3)) ∧ (decode cX8_match 84 = .ok (.iconst 0, 1)) ∧ (decode cX8_match 85 = .ok (.iaload, 1)) ∧ (decode cX8_match 86 = .ok (.iconst 1, 1)) ∧ (decode cX8_match 87 = .ok (.isub, 1)) ∧ (decode cX8_match 88 = .ok (.istore 7, 2)) ∧ (decode cX8_match 90 = .ok (.iload 7, 2)) ∧ (decode cX8_match 92 = .ok (.ifCond .lt 81, 3)) ∧ (decode cX8_match 95 = .ok (.aload_n 0, 1)) ∧ (decode cX8_match 96 = .ok (.getfield 33, 3)) ∧ (decode cX8_match 99 = .ok (.iload 5, 2)) ∧ (decode cX8_match 101 = .ok (.iaload, 1)) ∧ (decode cX8_match 102 = .ok (.iload 7, 2)) ∧ (decode cX8_match 104 = .ok (.invokestatic 61, 3)) ∧ (decode cX8_match 107 = .ok (.ifCond .eq 16, 3)) := by decide +kernel
theorem dX8_match_80 : decode cX8_match 80 = .ok (.aload_n 0, 1) := bX8_match_80.1
theorem dX8_match_81 : decode cX8_match 81 = .ok (.getfield 13, 3) := bX8_match_80.2.1
theorem dX8_match_84 : decode cX8_match 84 = .ok (.iconst 0, 1) := bX8_match_80.2.2.1
theorem dX8_match_85 : decode cX8_match 85 = .ok (.iaload, 1) := bX8_match_80.2.2.2.1
theorem dX8_match_86 : decode cX8_match 86 = .ok (.iconst 1, 1) := bX8_match_80.2.2.2.2.1
theorem dX8_match_87 : decode cX8_match 87 = .ok (.isub, 1) := bX8_match_80.2.2.2.2.2.1
theorem dX8_match_88 : decode cX8_match 88 = .ok (.istore 7, 2) := bX8_match_80.2.2.2.2.2.2.1
theorem dX8_match_90 : decode cX8_match 90 = .ok (.iload 7, 2) := bX8_match_80.2.2.2.2.2.2.2.1
theorem dX8_match_92 : decode cX8_match 92 = .ok (.ifCond .lt 81, 3) := bX8_match_80.2.2.2.2.2.2.2.2.1
theorem dX8_match_95 : decode cX8_match 95 = .ok (.aload_n 0, 1) := bX8_match_80.2.2.2.2.2.2.2.2.2.1
theorem dX8_match_96 : decode cX8_match 96 = .ok (.getfield 33, 3) := bX8_match_80.2.2.2.2.2.2.2.2.2.2.1
theorem dX8_match_99 : decode cX8_match 99 = .ok (.iload 5, 2) := bX8_match_80.2.2.2.2.2.2.2.2.2.2.2.1
theorem dX8_match_101 : decode cX8_match 101 = .ok (.iaload, 1) := bX8_match_80.2.2.2.2.2.2.2.2.2.2.2.2.1
theorem dX8_match_102 : decode cX8_match 102 = .ok (.iload 7, 2) := bX8_match_80.2.2.2.2.2.2.2.2.2.2.2.2.2.1
theorem dX8_match_104 : decode cX8_match 104 = .ok (.invokestatic 61, 3) := bX8_match_80.2.2.2.2.2.2.2.2.2.2.2.2.2.2.1
theorem dX8_match_107 : decode cX8_match 107 = .ok (.ifCond .eq 16, 3) := bX8_match_80.2.2.2.2.2.2.2.2.2.2.2.2.2.2.2
theorem bX8_match_110 : (decode cX8_match 110 = .ok (.iload_n 3, 1)) ∧ (decode cX8_match 111 = .ok (.iload 7, 2)) ∧ (decode cX8_match 113 = .ok (.invokestatic 61, 3)) ∧ (decode cX8_match 116 = .ok (.ifCond .ne 7, 3)) ∧ (decode cX8_match 119 = .ok (.iconst 1, 1)) ∧ (decode cX8_match 120 = .ok (.goto 4, 3)) ∧ (decode cX8_match 123 = .ok (.iconst 0, 1)) ∧ (decode cX8_match 124 = .ok (.istore 8, 2)) ∧ (decode cX8_match 126 = .ok (.iload 8, 2)) ∧ (decode cX8_match 128 = .ok (.ifCond .eq 35, 3)) ∧ (decode cX8_match 131 = .ok (.iconst 1, 1)) ∧ (decode cX8_match 132 = .ok (.aload_n 0, 1)) ∧ (decode cX8_match 133 = .ok (.getfield 27, 3)) ∧ (decode cX8_match 136 = .ok (.sipush 128, 3)) ∧ (decode cX8_match 139 = .ok (.iload 5, 2)) ∧ (decode cX8_match 141 = .ok (.iconst 1, 1)) := by decide +kernel
theorem dX8_match_110 : decode cX8_match 110 = .ok (.iload_n 3, 1) := bX8_match_110.1
theorem dX8_match_111 : decode cX8_match 111 = .ok (.iload 7, 2) := bX8_match_110.2.1
theorem dX8_match_113 : decode cX8_match 113 = .ok (.invokestatic 61, 3) := bX8_match_110.2.2.1
theorem dX8_match_116 : decode cX8_match 116 = .ok (.ifCond .ne 7, 3) := bX8_match_110.2.2.2.1
theorem dX8_match_119 : decode cX8_match 119 = .ok (.iconst 1, 1) := bX8_match_110.2.2.2.2.1
theorem dX8_match_120 : decode cX8_match 120 = .ok (.goto 4, 3) := bX8_match_110.2.2.2.2.2.1
theorem dX8_match_123 : decode cX8_match 123 = .ok (.iconst 0, 1) := bX8_match_110.2.2.2.2.2.2.1
theorem dX8_match_124 : decode cX8_match 124 = .ok (.istore 8, 2) := bX8_match_110.2.2.2.2.2.2.2.1
theorem dX8_match_126 : decode cX8_match 126 = .ok (.iload 8, 2) := bX8_match_110.2.2.2.2.2.2.2.2.1
theorem dX8_match_128 : decode cX8_match 128 = .ok (.ifCond .eq 35, 3) := bX8_match_110.2.2.2.2.2.2.2.2.2.1
theorem dX8_match_131 : decode cX8_match 131 = .ok (.iconst 1, 1) := bX8_match_110.2.2.2.2.2.2.2.2.2.2.1
theorem dX8_match_132 : decode cX8_match 132 = .ok (.aload_n 0, 1) := bX8_match_110.2.2.2.2.2.2.2.2.2.2.2.1
theorem dX8_match_133 : decode cX8_match 133 = .ok (.getfield 27, 3) := bX8_match_110.2.2.2.2.2.2.2.2.2.2.2.2.1
theorem dX8_match_136 : decode cX8_match 136 = .ok (.sipush 128, 3) := bX8_match_110.2.2.2.2.2.2.2.2.2.2.2.2.2.1
theorem dX8_match_139 : decode cX8_match 139 = .ok (.iload 5, 2) := bX8_match_110.2.2.2.2.2.2.2.2.2.2.2.2.2.2.1
theorem dX8_match_141 : decode cX8_match 141 = .ok (.iconst 1, 1) := bX8_match_110.2.2.2.2.2.2.2.2.2.2.2.2.2.2.2
theorem bX8_match_142 : (decode cX8_match 142 = .ok (.iadd, 1)) ∧ (decode cX8_match 143 = .ok (.imul, 1)) ∧ (decode cX8_match 144 = .ok (.iload_n 3, 1)) ∧ (decode cX8_match 145 = .ok (.iconst 1, 1)) ∧ (decode cX8_match 146 = .ok (.iload 7, 2)) ∧ (decode cX8_match 148 = .ok (.ishl, 1)) ∧ (decode cX8_match 149 = .ok (.ior, 1)) ∧ (decode cX8_match 150 = .ok (.iadd, 1)) ∧ (decode cX8_match 151 = .ok (.iaload, 1)) ∧ (decode cX8_match 152 = .ok (.iadd, 1)) ∧ (decode cX8_match 153 = .ok (.iload 6, 2)) ∧ (decode cX8_match 155 = .ok (.if_icmp .ne 8, 3)) ∧ (decode cX8_match 158 = .ok (.iload 7, 2)) ∧ (decode cX8_match 160 = .ok (.goto 5, 3)) ∧ (decode cX8_match 163 = .ok (.iload 4, 2)) ∧ (decode cX8_match 165 = .ok (.istore 4, 2)) := by decide +kernel
theorem dX8_match_142 : decode cX8_match 142 = .ok (.iadd, 1) := bX8_match_142.1
theorem dX8_match_143 : decode cX8_match 143 = .ok (.imul, 1) := bX8_match_142.2.1
theorem dX8_match_144 : decode cX8_match 144 = .ok (.iload_n 3, 1) := bX8_match_142.2.2.1
theorem dX8_match_145 : decode cX8_match 145 = .ok (.iconst 1, 1) := bX8_match_142.2.2.2.1
theorem dX8_match_146 : decode cX8_match 146 = .ok (.iload 7, 2) := bX8_match_142.2.2.2.2.1
theorem dX8_match_148 : decode cX8_match 148 = .ok (.ishl, 1) := bX8_match_142.2.2.2.2.2.1
theorem dX8_match_149 : decode cX8_match 149 = .ok (.ior, 1) := bX8_match_142.2.2.2.2.2.2.1
theorem dX8_match_150 : decode cX8_match 150 = .ok (.iadd, 1) := bX8_match_142.2.2.2.2.2.2.2.1
theorem dX8_match_151 : decode cX8_match 151 = .ok (.iaload, 1) := bX8_match_142.2.2.2.2.2.2.2.2.1
theorem dX8_match_152 : decode cX8_match 152 = .ok (.iadd, 1) := bX8_match_142.2.2.2.2.2.2.2.2.2.1
theorem dX8_match_153 : decode cX8_match 153 = .ok (.iload 6, 2) := bX8_match_142.2.2.2.2.2.2.2.2.2.2.1
theorem dX8_match_155 : decode cX8_match 155 = .ok (.if_icmp .ne 8, 3) := bX8_match_142.2.2.2.2.2.2.2.2.2.2.2.1
theorem dX8_match_158 : decode cX8_match 158 = .ok (.iload 7, 2) := bX8_match_142.2.2.2.2.2.2.2.2.2.2.2.2.1
theorem dX8_match_160 : decode cX8_match 160 = .ok (.goto 5, 3) := bX8_match_142.2.2.2.2.2.2.2.2.2.2.2.2.2.1
theorem dX8_match_163 : decode cX8_match 163 = .ok (.iload 4, 2) := bX8_match_142.2.2.2.2.2.2.2.2.2.2.2.2.2.2.1
theorem dX8_match_165 : decode cX8_match 165 = .ok (.istore 4, 2) := bX8_match_142.2.2.2.2.2.2.2.2.2.2.2.2.2.2.2
theorem bX8_match_167 : (decode cX8_match 167 = .ok (.iinc 7 (-1), 3)) ∧ (decode cX8_match 170 = .ok (.goto (-80), 3)) ∧ (decode cX8_match 173 = .ok (.aload_n 0, 1)) ∧ (decode cX8_match 174 = .ok (.getfield 27, 3)) ∧ (decode cX8_match 177 = .ok (.sipush 128, 3)) ∧ (decode cX8_match 180 = .ok (.iload 5, 2)) ∧ (decode cX8_match 182 = .ok (.iconst 1, 1)) ∧ (decode cX8_match 183 = .ok (.iadd, 1)) ∧ (decode cX8_match 184 = .ok (.imul, 1)) ∧ (decode cX8_match 185 = .ok (.iload_n 3, 1)) ∧ (decode cX8_match 186 = .ok (.iadd, 1)) ∧ (decode cX8_match 187 = .ok (.iaload, 1)) ∧ (decode cX8_match 188 = .ok (.iload 6, 2)) ∧ (decode cX8_match 190 = .ok (.if_icmp .ne 7, 3)) ∧ (decode cX8_match 193 = .ok (.iconst (-1), 1)) ∧ (decode cX8_match 194 = .ok (.goto 5, 3)) := by decide +kernel
theorem dX8_match_167 : decode cX8_match 167 = .ok (.iinc 7 (-1), 3) := bX8_match_167.1
theorem dX8_match_170 : decode cX8_match 170 = .ok (.goto (-80), 3) := bX8_match_167.2.1
theorem dX8_match_173 : decode cX8_match 173 = .ok (.aload_n 0, 1) := bX8_match_167.2.2.1
theorem dX8_match_174 : decode cX8_match 174 = .ok (.getfield 27, 3) := bX8_match_167.2.2.2.1
theorem dX8_match_177 : decode cX8_match 177 = .ok (.sipush 128, 3) := bX8_match_167.2.2.2.2.1
theorem dX8_match_180 : decode cX8_match 180 = .ok (.iload 5, 2) := bX8_match_167.2.2.2.2.2.1
theorem dX8_match_182 : decode cX8_match 182 = .ok (.iconst 1, 1) := bX8_match_167.2.2.2.2.2.2.1
theorem dX8_match_183 : decode cX8_match 183 = .ok (.iadd, 1) := bX8_match_167.2.2.2.2.2.2.2.1
theorem dX8_match_184 : decode cX8_match 184 = .ok (.imul, 1) := bX8_match_167.2.2.2.2.2.2.2.2.1
theorem dX8_match_185 : decode cX8_match 185 = .ok (.iload_n 3, 1) := bX8_match_167.2.2.2.2.2.2.2.2.2.1
theorem dX8_match_186 : decode cX8_match 186 = .ok (.iadd, 1) := bX8_match_167.2.2.2.2.2.2.2.2.2.2.1
theorem dX8_match_187 : decode cX8_match 187 = .ok (.iaload, 1) := bX8_match_167.2.2.2.2.2.2.2.2.2.2.2.1
theorem dX8_match_188 : decode cX8_match 188 = .ok (.iload 6, 2) := bX8_match_167.2.2.2.2.2.2.2.2.2.2.2.2.1
theorem dX8_match_190 : decode cX8_match 190 = .ok (.if_icmp .ne 7, 3) := bX8_match_167.2.2.2.2.2.2.2.2.2.2.2.2.2.1
theorem dX8_match_193 : decode cX8_match 193 = .ok (.iconst (-1), 1) := bX8_match_167.2.2.2.2.2.2.2.2.2.2.2.2.2.2.1
theorem dX8_match_194 : decode cX8_match 194 = .ok (.goto 5, 3) := bX8_match_167.2.2.2.2.2.2.2.2.2.2.2.2.2.2.2
theorem bX8_match_197 : (decode cX8_match 197 = .ok (.iload 4, 2)) ∧ (decode cX8_match 199 = .ok (.istore 4, 2)) ∧ (decode cX8_match 201 = .ok (.iload_n 3, 1)) ∧ (decode cX8_match 202 = .ok (.iload 4, 2)) ∧ (decode cX8_match 204 = .ok (.iconst (-1), 1)) ∧ (decode cX8_match 205 = .ok (.if_icmp .ne 7, 3)) ∧ (decode cX8_match 208 = .ok (.iconst 0, 1)) ∧ (decode cX8_match 209 = .ok (.goto 7, 3)) ∧ (decode cX8_match 212 = .ok (.iconst 1, 1)) ∧ (decode cX8_match 213 = .ok (.iload 4, 2)) ∧ (decode cX8_match 215 = .ok (.ishl, 1)) ∧ (decode cX8_match 216 = .ok (.ior, 1)) ∧ (decode cX8_match 217 = .ok (.istore_n 3, 1)) ∧ (decode cX8_match 218 = .ok (.iinc 5 1, 3)) ∧ (decode cX8_match 221 = .ok (.goto (-165), 3)) ∧ (decode cX8_match 224 = .ok (.iload 4, 2)) := by decide +kernel
theorem dX8_match_197 : decode cX8_match 197 = .ok (.iload 4, 2) := bX8_match_197.1
theorem dX8_match_199 : decode cX8_match 199 = .ok (.istore 4, 2) := bX8_match_197.2.1
theorem dX8_match_201 : decode cX8_match 201 = .ok (.iload_n 3, 1) := bX8_match_197.2.2.1
theorem dX8_match_202 : decode cX8_match 202 = .ok (.iload 4, 2) := bX8_match_197.2.2.2.1
theorem dX8_match_204 : decode cX8_match 204 = .ok (.iconst (-1), 1) := bX8_match_197.2.2.2.2.1
theorem dX8_match_205 : decode cX8_match 205 = .ok (.if_icmp .ne 7, 3) := bX8_match_197.2.2.2.2.2.1
theorem dX8_match_208 : decode cX8_match 208 = .ok (.iconst 0, 1) := bX8_match_197.2.2.2.2.2.2.1
theorem dX8_match_209 : decode cX8_match 209 = .ok (.goto 7, 3) := bX8_match_197.2.2.2.2.2.2.2.1
theorem dX8_match_212 : decode cX8_match 212 = .ok (.iconst 1, 1) := bX8_match_197.2.2.2.2.2.2.2.2.1
theorem dX8_match_213 : decode cX8_match 213 = .ok (.iload 4, 2) := bX8_match_197.2.2.2.2.2.2.2.2.2.1
theorem dX8_match_215 : decode cX8_match 215 = .ok (.ishl, 1) := bX8_match_197.2.2.2.2.2.2.2.2.2.2.1
theorem dX8_match_216 : decode cX8_match 216 = .ok (.ior, 1) := bX8_match_197.2.2.2.2.2.2.2.2.2.2.2.1
theorem dX8_match_217 : decode cX8_match 217 = .ok (.istore_n 3, 1) := bX8_match_197.2.2.2.2.2.2.2.2.2.2.2.2.1
theorem dX8_match_218 : decode cX8_match 218 = .ok (.iinc 5 1, 3) := bX8_match_197.2.2.2.2.2.2.2.2.2.2.2.2.2.1
theorem dX8_match_221 : decode cX8_match 221 = .ok (.goto (-165), 3) := bX8_match_197.2.2.2.2.2.2.2.2.2.2.2.2.2.2.1
theorem dX8_match_224 : decode cX8_match 224 = .ok (.iload 4, 2) := bX8_match_197.2.2.2.2.2.2.2.2.2.2.2.2.2.2.2
theorem dX8_match_226 : decode cX8_match 226 = .ok (.ireturn, 1) := by decide +kernel
theorem bX8_light_0 : (decode cX8_light 0 = .ok (.iload_n 1, 1)) ∧ (decode cX8_light 1 = .ok (.iconst 1, 1)) ∧ (decode cX8_light 2 = .ok (.bipush 60, 2)) ∧ (decode cX8_light 4 = .ok (.invokestatic 44, 3)) ∧ (decode cX8_light 7 = .ok (.ifCond .ne 8, 3)) ∧ (decode cX8_light 10 = .ok (.aload_n 0, 1)) ∧ (decode cX8_light 11 = .ok (.invokevirtual 69, 3)) ∧ (decode cX8_light 14 = .ok (.ireturn, 1)) ∧ (decode cX8_light 15 = .ok (.aload_n 0, 1)) ∧ (decode cX8_light 16 = .ok (.iload_n 1, 1)) ∧ (decode cX8_light 17 = .ok (.invokevirtual 203, 3)) ∧ (decode cX8_light 20 = .ok (.aload_n 0, 1)) ∧ (decode cX8_light 21 = .ok (.getfield 30, 3)) ∧ (decode cX8_light 24 = .ok (.iconst 0, 1)) ∧ (decode cX8_light 25 = .ok (.iaload, 1)) ∧ (decode cX8_light 26 = .ok (.ldc 202, 2)) := by decide +kernel
theorem dX8_light_0 : decode cX8_light 0 = .ok (.iload_n 1, 1) := bX8_light_0.1
theorem dX8_light_1 : decode cX8_light 1 = .ok (.iconst 1, 1) := bX8_light_0.2.1
theorem dX8_light_2 : decode cX8_light 2 = .ok (.bipush 60, 2) := bX8_light_0.2.2.1
theorem dX8_light_4 : decode cX8_light 4 = .ok (.invokestatic 44, 3) := bX8_light_0.2.2.2.1
theorem dX8_light_7 : decode cX8_light 7 = .ok (.ifCond .ne 8, 3) := bX8_light_0.2.2.2.2.1
theorem dX8_light_10 : decode cX8_light 10 = .ok (.aload_n 0, 1) := bX8_light_0.2.2.2.2.2.1
theorem dX8_light_11 : decode cX8_light 11 = .ok (.invokevirtual 69, 3) := bX8_light_0.2.2.2.2.2.2.1
theorem dX8_light_14 : decode cX8_light 14 = .ok (.ireturn, 1) := bX8_light_0.2.2.2.2.2.2.2.1
theorem dX8_light_15 : decode cX8_light 15 = .ok (.aload_n 0, 1) := bX8_light_0.2.2.2.2.2.2.2.2.1
theorem dX8_light_16 : decode cX8_light 16 = .ok (.iload_n 1, 1) := bX8_light_0.2.2.2.2.2.2.2.2.2.1
theorem dX8_light_17 : decode cX8_light 17 = .ok (.invokevirtual 203, 3) := bX8_light_0.2.2.2.2.2.2.2.2.2.2.1
theorem dX8_light_20 : decode cX8_light 20 = .ok (.aload_n 0, 1) := bX8_light_0.2.2.2.2.2.2.2.2.2.2.2.1
theorem dX8_light_21 : decode cX8_light 21 = .ok (.getfield 30, 3) := bX8_light_0.2.2.2.2.2.2.2.2.2.2.2.2.1
theorem dX8_light_24 : decode cX8_light 24 = .ok (.iconst 0, 1) := bX8_light_0.2.2.2.2.2.2.2.2.2.2.2.2.2.1
theorem dX8_light_25 : decode cX8_light 25 = .ok (.iaload, 1) := bX8_light_0.2.2.2.2.2.2.2.2.2.2.2.2.2.2.1
theorem dX8_light_26 : decode cX8_light 26 = .ok (.ldc 202, 2) := bX8_light_0.2.2.2.2.2.2.2.2.2.2.2.2.2.2.2
theorem bX8_light_28 : (decode cX8_light 28 = .ok (.if_icmp .lt 7, 3)) ∧ (decode cX8_light 31 = .ok (.iconst (-1), 1)) ∧ (decode cX8_light 32 = .ok (.goto 9, 3)) ∧ (decode cX8_light 35 = .ok (.aload_n 0, 1)) ∧ (decode cX8_light 36 = .ok (.getfield 30, 3)) ∧ (decode cX8_light 39 = .ok (.iconst 0, 1)) ∧ (decode cX8_light 40 = .ok (.iaload, 1)) ∧ (decode cX8_light 41 = .ok (.ireturn, 1)) := by decide +kernel
theorem dX8_light_28 : decode cX8_light 28 = .ok (.if_icmp .lt 7, 3) := bX8_light_28.1
theorem dX8_light_31 : decode cX8_light 31 = .ok (.iconst (-1), 1) := bX8_light_28.2.1
theorem dX8_light_32 : decode cX8_light 32 = .ok (.goto 9, 3) := bX8_light_28.2.2.1
theorem dX8_light_35 : decode cX8_light 35 = .ok (.aload_n 0, 1) := bX8_light_28.2.2.2.1
theorem dX8_light_36 : decode cX8_light 36 = .ok (.getfield 30, 3) := bX8_light_28.2.2.2.2.1
theorem dX8_light_39 : decode cX8_light 39 = .ok (.iconst 0, 1) := bX8_light_28.2.2.2.2.2.1
theorem dX8_light_40 : decode cX8_light 40 = .ok (.iaload, 1) := bX8_light_28.2.2.2.2.2.2.1
theorem dX8_light_41 : decode cX8_light 41 = .ok (.ireturn, 1) := bX8_light_28.2.2.2.2.2.2.2
theorem bX8_doTwo_0 : (decode cX8_doTwo 0 = .ok (.aload_n 0, 1)) ∧ (decode cX8_doTwo 1 = .ok (.iload_n 1, 1)) ∧ (decode cX8_doTwo 2 = .ok (.iconst 0, 1)) ∧ (decode cX8_doTwo 3 = .ok (.invokevirtual 193, 3)) ∧ (decode cX8_doTwo 6 = .ok (.istore 4, 2)) ∧ (decode cX8_doTwo 8 = .ok (.aload_n 0, 1)) ∧ (decode cX8_doTwo 9 = .ok (.iload_n 2, 1)) ∧ (decode cX8_doTwo 10 = .ok (.iconst 0, 1)) ∧ (decode cX8_doTwo 11 = .ok (.invokevirtual 190, 3)) ∧ (decode cX8_doTwo 14 = .ok (.istore 5, 2)) ∧ (decode cX8_doTwo 16 = .ok (.aload_n 0, 1)) ∧ (decode cX8_doTwo 17 = .ok (.iload_n 3, 1)) ∧ (decode cX8_doTwo 18 = .ok (.iconst 0, 1)) ∧ (decode cX8_doTwo 19 = .ok (.invokevirtual 190, 3)) ∧ (decode cX8_doTwo 22 = .ok (.istore 6, 2)) ∧ (decode cX8_doTwo 24 = .ok (.aload_n 0, 1)) := by decide +kernel
theorem dX8_doTwo_0 : decode cX8_doTwo 0 = .ok (.aload_n 0, 1) := bX8_doTwo_0.1
theorem dX8_doTwo_1 : decode cX8_doTwo 1 = .ok (.iload_n 1, 1) := bX8_doTwo_0.2.1
theorem dX8_doTwo_2 : decode cX8_doTwo 2 = .ok (.iconst 0, 1) := bX8_doTwo_0.2.2.1
theorem dX8_doTwo_3 : decode cX8_doTwo 3 = .ok (.invokevirtual 193, 3) := bX8_doTwo_0.2.2.2.1
theorem dX8_doTwo_6 : decode cX8_doTwo 6 = .ok (.istore 4, 2) := bX8_doTwo_0.2.2.2.2.1
theorem dX8_doTwo_8 : decode cX8_doTwo 8 = .ok (.aload_n 0, 1) := bX8_doTwo_0.2.2.2.2.2.1
theorem dX8_doTwo_9 : decode cX8_doTwo 9 = .ok (.iload_n 2, 1) := bX8_doTwo_0.2.2.2.2.2.2.1
theorem dX8_doTwo_10 : decode cX8_doTwo 10 = .ok (.iconst 0, 1) := bX8_doTwo_0.2.2.2.2.2.2.2.1
theorem dX8_doTwo_11 : decode cX8_doTwo 11 = .ok (.invokevirtual 190, 3) := bX8_doTwo_0.2.2.2.2.2.2.2.2.1
theorem dX8_doTwo_14 : decode cX8_doTwo 14 = .ok (.istore 5, 2) := bX8_doTwo_0.2.2.2.2.2.2.2.2.2.1
theorem dX8_doTwo_16 : decode cX8_doTwo 16 = .ok (.aload_n 0, 1) := bX8_doTwo_0.2.2.2.2.2.2.2.2.2.2.1
theorem dX8_doTwo_17 : decode cX8_doTwo 17 = .ok (.iload_n 3, 1) := bX8_doTwo_0.2.2.2.2.2.2.2.2.2.2.2.1
theorem dX8_doTwo_18 : decode cX8_doTwo 18 = .ok (.iconst 0, 1) := bX8_doTwo_0.2.2.2.2.2.2.2.2.2.2.2.2.1
theorem dX8_doTwo_19 : decode cX8_doTwo 19 = .ok (.invokevirtual 190, 3) := bX8_doTwo_0.2.2.2.2.2.2.2.2.2.2.2.2.2.1
theorem dX8_doTwo_22 : decode cX8_doTwo 22 = .ok (.istore 6, 2) := bX8_doTwo_0.2.2.2.2.2.2.2.2.2.2.2.2.2.2.1
theorem dX8_doTwo_24 : decode cX8_doTwo 24 = .ok (.aload_n 0, 1) := bX8_doTwo_0.2.2.2.2.2.2.2.2.2.2.2.2.2.2.2
theorem bX8_doTwo_25 : (decode cX8_doTwo 25 = .ok (.iload_n 2, 1)) ∧ (decode cX8_doTwo 26 = .ok (.invokevirtual 167, 3)) ∧ (decode cX8_doTwo 29 = .ok (.ifCond .ne 39, 3)) ∧ (decode cX8_doTwo 32 = .ok (.aload_n 0, 1)) ∧ (decode cX8_doTwo 33 = .ok (.iload_n 3, 1)) ∧ (decode cX8_doTwo 34 = .ok (.invokevirtual 167, 3)) ∧ (decode cX8_doTwo 37 = .ok (.ifCond .ne 31, 3)) ∧ (decode cX8_doTwo 40 = .ok (.iload 5, 2)) ∧ (decode cX8_doTwo 42 = .ok (.iload 4, 2)) ∧ (decode cX8_doTwo 44 = .ok (.if_icmp .ge 24, 3)) ∧ (decode cX8_doTwo 47 = .ok (.iload 6, 2)) ∧ (decode cX8_doTwo 49 = .ok (.iload 4, 2)) ∧ (decode cX8_doTwo 51 = .ok (.if_icmp .ge 17, 3)) ∧ (decode cX8_doTwo 54 = .ok (.iload 5, 2)) ∧ (decode cX8_doTwo 56 = .ok (.iload 6, 2)) ∧ (decode cX8_doTwo 58 = .ok (.iadd, 1)) := by decide +kernel
theorem dX8_doTwo_25 : decode cX8_doTwo 25 = .ok (.iload_n 2, 1) := bX8_doTwo_25.1
theorem dX8_doTwo_26 : decode cX8_doTwo 26 = .ok (.invokevirtual 167, 3) := bX8_doTwo_25.2.1
theorem dX8_doTwo_29 : decode cX8_doTwo 29 = .ok (.ifCond .ne 39, 3) := bX8_doTwo_25.2.2.1
theorem dX8_doTwo_32 : decode cX8_doTwo 32 = .ok (.aload_n 0, 1) := bX8_doTwo_25.2.2.2.1
theorem dX8_doTwo_33 : decode cX8_doTwo 33 = .ok (.iload_n 3, 1) := bX8_doTwo_25.2.2.2.2.1
theorem dX8_doTwo_34 : decode cX8_doTwo 34 = .ok (.invokevirtual 167, 3) := bX8_doTwo_25.2.2.2.2.2.1
theorem dX8_doTwo_37 : decode cX8_doTwo 37 = .ok (.ifCond .ne 31, 3) := bX8_doTwo_25.2.2.2.2.2.2.1
theorem dX8_doTwo_40 : decode cX8_doTwo 40 = .ok (.iload 5, 2) := bX8_doTwo_25.2.2.2.2.2.2.2.1
theorem dX8_doTwo_42 : decode cX8_doTwo 42 = .ok (.iload 4, 2) := bX8_doTwo_25.2.2.2.2.2.2.2.2.1
theorem dX8_doTwo_44 : decode cX8_doTwo 44 = .ok (.if_icmp .ge 24, 3) := bX8_doTwo_25.2.2.2.2.2.2.2.2.2.1
theorem dX8_doTwo_47 : decode cX8_doTwo 47 = .ok (.iload 6, 2) := bX8_doTwo_25.2.2.2.2.2.2.2.2.2.2.1
theorem dX8_doTwo_49 : decode cX8_doTwo 49 = .ok (.iload 4, 2) := bX8_doTwo_25.2.2.2.2.2.2.2.2.2.2.2.1
theorem dX8_doTwo_51 : decode cX8_doTwo 51 = .ok (.if_icmp .ge 17, 3) := bX8_doTwo_25.2.2.2.2.2.2.2.2.2.2.2.2.1
theorem dX8_doTwo_54 : decode cX8_doTwo 54 = .ok (.iload 5, 2) := bX8_doTwo_25.2.2.2.2.2.2.2.2.2.2.2.2.2.1
theorem dX8_doTwo_56 : decode cX8_doTwo 56 = .ok (.iload 6, 2) := bX8_doTwo_25.2.2.2.2.2.2.2.2.2.2.2.2.2.2.1
theorem dX8_doTwo_58 : decode cX8_doTwo 58 = .ok (.iadd, 1) := bX8_doTwo_25.2.2.2.2.2.2.2.2.2.2.2.2.2.2.2
theorem bX8_doTwo_59 : (decode cX8_doTwo 59 = .ok (.iload 4, 2)) ∧ (decode cX8_doTwo 61 = .ok (.if_icmp .lt 7, 3)) ∧ (decode cX8_doTwo 64 = .ok (.iconst 1, 1)) ∧ (decode cX8_doTwo 65 = .ok (.goto 4, 3)) ∧ (decode cX8_doTwo 68 = .ok (.iconst 0, 1)) ∧ (decode cX8_doTwo 69 = .ok (.ireturn, 1)) := by decide +kernel
theorem dX8_doTwo_59 : decode cX8_doTwo 59 = .ok (.iload 4, 2) := bX8_doTwo_59.1
theorem dX8_doTwo_61 : decode cX8_doTwo 61 = .ok (.if_icmp .lt 7, 3) := bX8_doTwo_59.2.1
theorem dX8_doTwo_64 : decode cX8_doTwo 64 = .ok (.iconst 1, 1) := bX8_doTwo_59.2.2.1
theorem dX8_doTwo_65 : decode cX8_doTwo 65 = .ok (.goto 4, 3) := bX8_doTwo_59.2.2.2.1
theorem dX8_doTwo_68 : decode cX8_doTwo 68 = .ok (.iconst 0, 1) := bX8_doTwo_59.2.2.2.2.1
theorem dX8_doTwo_69 : decode cX8_doTwo 69 = .ok (.ireturn, 1) := bX8_doTwo_59.2.2.2.2.2
theorem bX8_two_0 : (decode cX8_two 0 = .ok (.aload_n 0, 1)) ∧ (decode cX8_two 1 = .ok (.iload_n 1, 1)) ∧ (decode cX8_two 2 = .ok (.invokevirtual 164, 3)) ∧ (decode cX8_two 5 = .ok (.ifCond .eq 8, 3)) ∧ (decode cX8_two 8 = .ok (.iload_n 2, 1)) ∧ (decode cX8_two 9 = .ok (.iconst (-1), 1)) ∧ (decode cX8_two 10 = .ok (.if_icmp .ge 11, 3)) ∧ (decode cX8_two 13 = .ok (.aload_n 0, 1)) ∧ (decode cX8_two 14 = .ok (.invokevirtual 69, 3)) ∧ (decode cX8_two 17 = .ok (.pop, 1)) ∧ (decode cX8_two 18 = .ok (.bipush (-10), 2)) ∧ (decode cX8_two 20 = .ok (.ireturn, 1)) ∧ (decode cX8_two 21 = .ok (.iconst 0, 1)) ∧ (decode cX8_two 22 = .ok (.istore_n 3, 1)) ∧ (decode cX8_two 23 = .ok (.iconst 0, 1)) ∧ (decode cX8_two 24 = .ok (.istore 4, 2)) := by decide +kernel
theorem dX8_two_0 : decode cX8_two 0 = .ok (.aload_n 0, 1) := bX8_two_0.1
theorem dX8_two_1 : decode cX8_two 1 = .ok (.iload_n 1, 1) := bX8_two_0.2.1
theorem dX8_two_2 : decode cX8_two 2 = .ok (.invokevirtual 164, 3) := bX8_two_0.2.2.1
theorem dX8_two_5 : decode cX8_two 5 = .ok (.ifCond .eq 8, 3) := bX8_two_0.2.2.2.1
theorem dX8_two_8 : decode cX8_two 8 = .ok (.iload_n 2, 1) := bX8_two_0.2.2.2.2.1
theorem dX8_two_9 : decode cX8_two 9 = .ok (.iconst (-1), 1) := bX8_two_0.2.2.2.2.2.1
theorem dX8_two_10 : decode cX8_two 10 = .ok (.if_icmp .ge 11, 3) := bX8_two_0.2.2.2.2.2.2.1
theorem dX8_two_13 : decode cX8_two 13 = .ok (.aload_n 0, 1) := bX8_two_0.2.2.2.2.2.2.2.1
theorem dX8_two_14 : decode cX8_two 14 = .ok (.invokevirtual 69, 3) := bX8_two_0.2.2.2.2.2.2.2.2.1
theorem dX8_two_17 : decode cX8_two 17 = .ok (.pop, 1) := bX8_two_0.2.2.2.2.2.2.2.2.2.1
theorem dX8_two_18 : decode cX8_two 18 = .ok (.bipush (-10), 2) := bX8_two_0.2.2.2.2.2.2.2.2.2.2.1
theorem dX8_two_20 : decode cX8_two 20 = .ok (.ireturn, 1) := bX8_two_0.2.2.2.2.2.2.2.2.2.2.2.1
theorem dX8_two_21 : decode cX8_two 21 = .ok (.iconst 0, 1) := bX8_two_0.2.2.2.2.2.2.2.2.2.2.2.2.1
theorem dX8_two_22 : decode cX8_two 22 = .ok (.istore_n 3, 1) := bX8_two_0.2.2.2.2.2.2.2.2.2.2.2.2.2.1
theorem dX8_two_23 : decode cX8_two 23 = .ok (.iconst 0, 1) := bX8_two_0.2.2.2.2.2.2.2.2.2.2.2.2.2.2.1
theorem dX8_two_24 : decode cX8_two 24 = .ok (.istore 4, 2) := bX8_two_0.2.2.2.2.2.2.2.2.2.2.2.2.2.2.2
theorem bX8_two_26 : (decode cX8_two 26 = .ok (.iload 4, 2)) ∧ (decode cX8_two 28 = .ok (.aload_n 0, 1)) ∧ (decode cX8_two 29 = .ok (.getfield 13, 3)) ∧ (decode cX8_two 32 = .ok (.iconst 1, 1)) ∧ (decode cX8_two 33 = .ok (.iaload, 1)) ∧ (decode cX8_two 34 = .ok (.if_icmp .ge 61, 3)) ∧ (decode cX8_two 37 = .ok (.iload 4, 2)) ∧ (decode cX8_two 39 = .ok (.iconst 1, 1)) ∧ (decode cX8_two 40 = .ok (.iadd, 1)) ∧ (decode cX8_two 41 = .ok (.istore 5, 2)) ∧ (decode cX8_two 43 = .ok (.iload 5, 2)) ∧ (decode cX8_two 45 = .ok (.aload_n 0, 1)) ∧ (decode cX8_two 46 = .ok (.getfield 13, 3)) ∧ (decode cX8_two 49 = .ok (.iconst 1, 1)) ∧ (decode cX8_two 50 = .ok (.iaload, 1)) ∧ (decode cX8_two 51 = .ok (.if_icmp .ge 38, 3)) := by decide +kernel
theorem dX8_two_26 : decode cX8_two 26 = .ok (.iload 4, 2) := bX8_two_26.1
theorem dX8_two_28 : decode cX8_two 28 = .ok (.aload_n 0, 1) := bX8_two_26.2.1
theorem dX8_two_29 : decode cX8_two 29 = .ok (.getfield 13, 3) := bX8_two_26.2.2.1
theorem dX8_two_32 : decode cX8_two 32 = .ok (.iconst 1, 1) := bX8_two_26.2.2.2.1
theorem dX8_two_33 : decode cX8_two 33 = .ok (.iaload, 1) := bX8_two_26.2.2.2.2.1
theorem dX8_two_34 : decode cX8_two 34 = .ok (.if_icmp .ge 61, 3) := bX8_two_26.2.2.2.2.2.1
theorem dX8_two_37 : decode cX8_two 37 = .ok (.iload 4, 2) := bX8_two_26.2.2.2.2.2.2.1
theorem dX8_two_39 : decode cX8_two 39 = .ok (.iconst 1, 1) := bX8_two_26.2.2.2.2.2.2.2.1
theorem dX8_two_40 : decode cX8_two 40 = .ok (.iadd, 1) := bX8_two_26.2.2.2.2.2.2.2.2.1
theorem dX8_two_41 : decode cX8_two 41 = .ok (.istore 5, 2) := bX8_two_26.2.2.2.2.2.2.2.2.2.1
theorem dX8_two_43 : decode cX8_two 43 = .ok (.iload 5, 2) := bX8_two_26.2.2.2.2.2.2.2.2.2.2.1
theorem dX8_two_45 : decode cX8_two 45 = .ok (.aload_n 0, 1) := bX8_two_26.2.2.2.2.2.2.2.2.2.2.2.1
theorem dX8_two_46 : decode cX8_two 46 = .ok (.getfield 13, 3) := bX8_two_26.2.2.2.2.2.2.2.2.2.2.2.2.1
theorem dX8_two_49 : decode cX8_two 49 = .ok (.iconst 1, 1) := bX8_two_26.2.2.2.2.2.2.2.2.2.2.2.2.2.1
theorem dX8_two_50 : decode cX8_two 50 = .ok (.iaload, 1) := bX8_two_26.2.2.2.2.2.2.2.2.2.2.2.2.2.2.1
theorem dX8_two_51 : decode cX8_two 51 = .ok (.if_icmp .ge 38, 3) := bX8_two_26.2.2.2.2.2.2.2.2.2.2.2.2.2.2.2
theorem bX8_two_54 : (decode cX8_two 54 = .ok (.aload_n 0, 1)) ∧ (decode cX8_two 55 = .ok (.iload_n 1, 1)) ∧ (decode cX8_two 56 = .ok (.iload 4, 2)) ∧ (decode cX8_two 58 = .ok (.iload 5, 2)) ∧ (decode cX8_two 60 = .ok (.invokevirtual 206, 3)) ∧ (decode cX8_two 63 = .ok (.ifCond .eq 20, 3)) ∧ (decode cX8_two 66 = .ok (.iload_n 3, 1)) ∧ (decode cX8_two 67 = .ok (.iload_n 2, 1)) ∧ (decode cX8_two 68 = .ok (.if_icmp .ne 12, 3)) ∧ (decode cX8_two 71 = .ok (.bipush 10, 2)) ∧ (decode cX8_two 73 = .ok (.iload 4, 2)) ∧ (decode cX8_two 75 = .ok (.imul, 1)) ∧ (decode cX8_two 76 = .ok (.iload 5, 2)) ∧ (decode cX8_two 78 = .ok (.iadd, 1)) ∧ (decode cX8_two 79 = .ok (.ireturn, 1)) ∧ (decode cX8_two 80 = .ok (.iinc 3 1, 3)) := by decide +kernel
theorem dX8_two_54 : decode cX8_two 54 = .ok (.aload_n 0, 1) := bX8_two_54.1
theorem dX8_two_55 : decode cX8_two 55 = .ok (.iload_n 1, 1) := bX8_two_54.2.1
theorem dX8_two_56 : decode cX8_two 56 = .ok (.iload 4, 2) := bX8_two_54.2.2.1
theorem dX8_two_58 : decode cX8_two 58 = .ok (.iload 5, 2) := bX8_two_54.2.2.2.1
theorem dX8_two_60 : decode cX8_two 60 = .ok (.invokevirtual 206, 3) := bX8_two_54.2.2.2.2.1
theorem dX8_two_63 : decode cX8_two 63 = .ok (.ifCond .eq 20, 3) := bX8_two_54.2.2.2.2.2.1
theorem dX8_two_66 : decode cX8_two 66 = .ok (.iload_n 3, 1) := bX8_two_54.2.2.2.2.2.2.1
theorem dX8_two_67 : decode cX8_two 67 = .ok (.iload_n 2, 1) := bX8_two_54.2.2.2.2.2.2.2.1
theorem dX8_two_68 : decode cX8_two 68 = .ok (.if_icmp .ne 12, 3) := bX8_two_54.2.2.2.2.2.2.2.2.1
theorem dX8_two_71 : decode cX8_two 71 = .ok (.bipush 10, 2) := bX8_two_54.2.2.2.2.2.2.2.2.2.1
theorem dX8_two_73 : decode cX8_two 73 = .ok (.iload 4, 2) := bX8_two_54.2.2.2.2.2.2.2.2.2.2.1
theorem dX8_two_75 : decode cX8_two 75 = .ok (.imul, 1) := bX8_two_54.2.2.2.2.2.2.2.2.2.2.2.1
theorem dX8_two_76 : decode cX8_two 76 = .ok (.iload 5, 2) := bX8_two_54.2.2.2.2.2.2.2.2.2.2.2.2.1
theorem dX8_two_78 : decode cX8_two 78 = .ok (.iadd, 1) := bX8_two_54.2.2.2.2.2.2.2.2.2.2.2.2.2.1
theorem dX8_two_79 : decode cX8_two 79 = .ok (.ireturn, 1) := bX8_two_54.2.2.2.2.2.2.2.2.2.2.2.2.2.2.1
theorem dX8_two_80 : decode cX8_two 80 = .ok (.iinc 3 1, 3) := bX8_two_54.2.2.2.2.2.2.2.2.2.2.2.2.2.2.2
theorem bX8_two_83 : (decode cX8_two 83 = .ok (.iinc 5 1, 3)) ∧ (decode cX8_two 86 = .ok (.goto (-43), 3)) ∧ (decode cX8_two 89 = .ok (.iinc 4 1, 3)) ∧ (decode cX8_two 92 = .ok (.goto (-66), 3)) ∧ (decode cX8_two 95 = .ok (.iload_n 2, 1)) ∧ (decode cX8_two 96 = .ok (.iconst (-1), 1)) ∧ (decode cX8_two 97 = .ok (.if_icmp .ne 7, 3)) ∧ (decode cX8_two 100 = .ok (.iload_n 3, 1)) ∧ (decode cX8_two 101 = .ok (.goto 5, 3)) ∧ (decode cX8_two 104 = .ok (.bipush (-5), 2)) ∧ (decode cX8_two 106 = .ok (.ireturn, 1)) := by decide +kernel
theorem dX8_two_83 : decode cX8_two 83 = .ok (.iinc 5 1, 3) := bX8_two_83.1
theorem dX8_two_86 : decode cX8_two 86 = .ok (.goto (-43), 3) := bX8_two_83.2.1
theorem dX8_two_89 : decode cX8_two 89 = .ok (.iinc 4 1, 3) := bX8_two_83.2.2.1
theorem dX8_two_92 : decode cX8_two 92 = .ok (.goto (-66), 3) := bX8_two_83.2.2.2.1
theorem dX8_two_95 : decode cX8_two 95 = .ok (.iload_n 2, 1) := bX8_two_83.2.2.2.2.1
theorem dX8_two_96 : decode cX8_two 96 = .ok (.iconst (-1), 1) := bX8_two_83.2.2.2.2.2.1
theorem dX8_two_97 : decode cX8_two 97 = .ok (.if_icmp .ne 7, 3) := bX8_two_83.2.2.2.2.2.2.1
theorem dX8_two_100 : decode cX8_two 100 = .ok (.iload_n 3, 1) := bX8_two_83.2.2.2.2.2.2.2.1
theorem dX8_two_101 : decode cX8_two 101 = .ok (.goto 5, 3) := bX8_two_83.2.2.2.2.2.2.2.2.1
theorem dX8_two_104 : decode cX8_two 104 = .ok (.bipush (-5), 2) := bX8_two_83.2.2.2.2.2.2.2.2.2.1
theorem dX8_two_106 : decode cX8_two 106 = .ok (.ireturn, 1) := bX8_two_83.2.2.2.2.2.2.2.2.2.2
theorem bX8_tell4_0 : (decode cX8_tell4 0 = .ok (.iload_n 1, 1)) ∧ (decode cX8_tell4 1 = .ok (.iconst 4, 1)) ∧ (decode cX8_tell4 2 = .ok (.aload_n 0, 1)) ∧ (decode cX8_tell4 3 = .ok (.getfield 13, 3)) ∧ (decode cX8_tell4 6 = .ok (.iload_n 2, 1)) ∧ (decode cX8_tell4 7 = .ok (.iaload, 1)) ∧ (decode cX8_tell4 8 = .ok (.imul, 1)) ∧ (decode cX8_tell4 9 = .ok (.iadd, 1)) ∧ (decode cX8_tell4 10 = .ok (.istore 7, 2)) ∧ (decode cX8_tell4 12 = .ok (.aload_n 0, 1)) ∧ (decode cX8_tell4 13 = .ok (.getfield 13, 3)) ∧ (decode cX8_tell4 16 = .ok (.iload 7, 2)) ∧ (decode cX8_tell4 18 = .ok (.iload_n 3, 1)) ∧ (decode cX8_tell4 19 = .ok (.iastore, 1)) ∧ (decode cX8_tell4 20 = .ok (.aload_n 0, 1)) ∧ (decode cX8_tell4 21 = .ok (.getfield 13, 3)) := by decide +kernel
theorem dX8_tell4_0 : decode cX8_tell4 0 = .ok (.iload_n 1, 1) := bX8_tell4_0.1
theorem dX8_tell4_1 : decode cX8_tell4 1 = .ok (.iconst 4, 1) := bX8_tell4_0.2.1
theorem dX8_tell4_2 : decode cX8_tell4 2 = .ok (.aload_n 0, 1) := bX8_tell4_0.2.2.1
theorem dX8_tell4_3 : decode cX8_tell4 3 = .ok (.getfield 13, 3) := bX8_tell4_0.2.2.2.1
theorem dX8_tell4_6 : decode cX8_tell4 6 = .ok (.iload_n 2, 1) := bX8_tell4_0.2.2.2.2.1
theorem dX8_tell4_7 : decode cX8_tell4 7 = .ok (.iaload, 1) := bX8_tell4_0.2.2.2.2.2.1
theorem dX8_tell4_8 : decode cX8_tell4 8 = .ok (.imul, 1) := bX8_tell4_0.2.2.2.2.2.2.1
theorem dX8_tell4_9 : decode cX8_tell4 9 = .ok (.iadd, 1) := bX8_tell4_0.2.2.2.2.2.2.2.1
theorem dX8_tell4_10 : decode cX8_tell4 10 = .ok (.istore 7, 2) := bX8_tell4_0.2.2.2.2.2.2.2.2.1
theorem dX8_tell4_12 : decode cX8_tell4 12 = .ok (.aload_n 0, 1) := bX8_tell4_0.2.2.2.2.2.2.2.2.2.1
theorem dX8_tell4_13 : decode cX8_tell4 13 = .ok (.getfield 13, 3) := bX8_tell4_0.2.2.2.2.2.2.2.2.2.2.1
theorem dX8_tell4_16 : decode cX8_tell4 16 = .ok (.iload 7, 2) := bX8_tell4_0.2.2.2.2.2.2.2.2.2.2.2.1
theorem dX8_tell4_18 : decode cX8_tell4 18 = .ok (.iload_n 3, 1) := bX8_tell4_0.2.2.2.2.2.2.2.2.2.2.2.2.1
theorem dX8_tell4_19 : decode cX8_tell4 19 = .ok (.iastore, 1) := bX8_tell4_0.2.2.2.2.2.2.2.2.2.2.2.2.2.1
theorem dX8_tell4_20 : decode cX8_tell4 20 = .ok (.aload_n 0, 1) := bX8_tell4_0.2.2.2.2.2.2.2.2.2.2.2.2.2.2.1
theorem dX8_tell4_21 : decode cX8_tell4 21 = .ok (.getfield 13, 3) := bX8_tell4_0.2.2.2.2.2.2.2.2.2.2.2.2.2.2.2
theorem bX8_tell4_24 : (decode cX8_tell4 24 = .ok (.iload 7, 2)) ∧ (decode cX8_tell4 26 = .ok (.iconst 1, 1)) ∧ (decode cX8_tell4 27 = .ok (.iadd, 1)) ∧ (decode cX8_tell4 28 = .ok (.iload 4, 2)) ∧ (decode cX8_tell4 30 = .ok (.iastore, 1)) ∧ (decode cX8_tell4 31 = .ok (.aload_n 0, 1)) ∧ (decode cX8_tell4 32 = .ok (.getfield 13, 3)) ∧ (decode cX8_tell4 35 = .ok (.iload 7, 2)) ∧ (decode cX8_tell4 37 = .ok (.iconst 2, 1)) ∧ (decode cX8_tell4 38 = .ok (.iadd, 1)) ∧ (decode cX8_tell4 39 = .ok (.iload 5, 2)) ∧ (decode cX8_tell4 41 = .ok (.iastore, 1)) ∧ (decode cX8_tell4 42 = .ok (.aload_n 0, 1)) ∧ (decode cX8_tell4 43 = .ok (.getfield 13, 3)) ∧ (decode cX8_tell4 46 = .ok (.iload 7, 2)) ∧ (decode cX8_tell4 48 = .ok (.iconst 3, 1)) := by decide +kernel
theorem dX8_tell4_24 : decode cX8_tell4 24 = .ok (.iload 7, 2) := bX8_tell4_24.1
theorem dX8_tell4_26 : decode cX8_tell4 26 = .ok (.iconst 1, 1) := bX8_tell4_24.2.1
theorem dX8_tell4_27 : decode cX8_tell4 27 = .ok (.iadd, 1) := bX8_tell4_24.2.2.1
theorem dX8_tell4_28 : decode cX8_tell4 28 = .ok (.iload 4, 2) := bX8_tell4_24.2.2.2.1
theorem dX8_tell4_30 : decode cX8_tell4 30 = .ok (.iastore, 1) := bX8_tell4_24.2.2.2.2.1
theorem dX8_tell4_31 : decode cX8_tell4 31 = .ok (.aload_n 0, 1) := bX8_tell4_24.2.2.2.2.2.1
theorem dX8_tell4_32 : decode cX8_tell4 32 = .ok (.getfield 13, 3) := bX8_tell4_24.2.2.2.2.2.2.1
theorem dX8_tell4_35 : decode cX8_tell4 35 = .ok (.iload 7, 2) := bX8_tell4_24.2.2.2.2.2.2.2.1
theorem dX8_tell4_37 : decode cX8_tell4 37 = .ok (.iconst 2, 1) := bX8_tell4_24.2.2.2.2.2.2.2.2.1
theorem dX8_tell4_38 : decode cX8_tell4 38 = .ok (.iadd, 1) := bX8_tell4_24.2.2.2.2.2.2.2.2.2.1
theorem dX8_tell4_39 : decode cX8_tell4 39 = .ok (.iload 5, 2) := bX8_tell4_24.2.2.2.2.2.2.2.2.2.2.1
theorem dX8_tell4_41 : decode cX8_tell4 41 = .ok (.iastore, 1) := bX8_tell4_24.2.2.2.2.2.2.2.2.2.2.2.1
theorem dX8_tell4_42 : decode cX8_tell4 42 = .ok (.aload_n 0, 1) := bX8_tell4_24.2.2.2.2.2.2.2.2.2.2.2.2.1
theorem dX8_tell4_43 : decode cX8_tell4 43 = .ok (.getfield 13, 3) := bX8_tell4_24.2.2.2.2.2.2.2.2.2.2.2.2.2.1
theorem dX8_tell4_46 : decode cX8_tell4 46 = .ok (.iload 7, 2) := bX8_tell4_24.2.2.2.2.2.2.2.2.2.2.2.2.2.2.1
theorem dX8_tell4_48 : decode cX8_tell4 48 = .ok (.iconst 3, 1) := bX8_tell4_24.2.2.2.2.2.2.2.2.2.2.2.2.2.2.2
theorem bX8_tell4_49 : (decode cX8_tell4 49 = .ok (.iadd, 1)) ∧ (decode cX8_tell4 50 = .ok (.iload 6, 2)) ∧ (decode cX8_tell4 52 = .ok (.iastore, 1)) ∧ (decode cX8_tell4 53 = .ok (.aload_n 0, 1)) ∧ (decode cX8_tell4 54 = .ok (.getfield 13, 3)) ∧ (decode cX8_tell4 57 = .ok (.iload_n 2, 1)) ∧ (decode cX8_tell4 58 = .ok (.dup2, 1)) ∧ (decode cX8_tell4 59 = .ok (.iaload, 1)) ∧ (decode cX8_tell4 60 = .ok (.iconst 1, 1)) ∧ (decode cX8_tell4 61 = .ok (.iadd, 1)) ∧ (decode cX8_tell4 62 = .ok (.iastore, 1)) ∧ (decode cX8_tell4 63 = .ok (.aload_n 0, 1)) ∧ (decode cX8_tell4 64 = .ok (.getfield 13, 3)) ∧ (decode cX8_tell4 67 = .ok (.iload_n 2, 1)) ∧ (decode cX8_tell4 68 = .ok (.iaload, 1)) ∧ (decode cX8_tell4 69 = .ok (.ireturn, 1)) := by decide +kernel
theorem dX8_tell4_49 : decode cX8_tell4 49 = .ok (.iadd, 1) := bX8_tell4_49.1
theorem dX8_tell4_50 : decode cX8_tell4 50 = .ok (.iload 6, 2) := bX8_tell4_49.2.1
theorem dX8_tell4_52 : decode cX8_tell4 52 = .ok (.iastore, 1) := bX8_tell4_49.2.2.1
theorem dX8_tell4_53 : decode cX8_tell4 53 = .ok (.aload_n 0, 1) := bX8_tell4_49.2.2.2.1
theorem dX8_tell4_54 : decode cX8_tell4 54 = .ok (.getfield 13, 3) := bX8_tell4_49.2.2.2.2.1
theorem dX8_tell4_57 : decode cX8_tell4 57 = .ok (.iload_n 2, 1) := bX8_tell4_49.2.2.2.2.2.1
theorem dX8_tell4_58 : decode cX8_tell4 58 = .ok (.dup2, 1) := bX8_tell4_49.2.2.2.2.2.2.1
theorem dX8_tell4_59 : decode cX8_tell4 59 = .ok (.iaload, 1) := bX8_tell4_49.2.2.2.2.2.2.2.1
theorem dX8_tell4_60 : decode cX8_tell4 60 = .ok (.iconst 1, 1) := bX8_tell4_49.2.2.2.2.2.2.2.2.1
theorem dX8_tell4_61 : decode cX8_tell4 61 = .ok (.iadd, 1) := bX8_tell4_49.2.2.2.2.2.2.2.2.2.1
theorem dX8_tell4_62 : decode cX8_tell4 62 = .ok (.iastore, 1) := bX8_tell4_49.2.2.2.2.2.2.2.2.2.2.1
theorem dX8_tell4_63 : decode cX8_tell4 63 = .ok (.aload_n 0, 1) := bX8_tell4_49.2.2.2.2.2.2.2.2.2.2.2.1
theorem dX8_tell4_64 : decode cX8_tell4 64 = .ok (.getfield 13, 3) := bX8_tell4_49.2.2.2.2.2.2.2.2.2.2.2.2.1
theorem dX8_tell4_67 : decode cX8_tell4 67 = .ok (.iload_n 2, 1) := bX8_tell4_49.2.2.2.2.2.2.2.2.2.2.2.2.2.1
theorem dX8_tell4_68 : decode cX8_tell4 68 = .ok (.iaload, 1) := bX8_tell4_49.2.2.2.2.2.2.2.2.2.2.2.2.2.2.1
theorem dX8_tell4_69 : decode cX8_tell4 69 = .ok (.ireturn, 1) := bX8_tell4_49.2.2.2.2.2.2.2.2.2.2.2.2.2.2.2
theorem bX8_seen_0 : (decode cX8_seen 0 = .ok (.aload_n 0, 1)) ∧ (decode cX8_seen 1 = .ok (.iload_n 1, 1)) ∧ (decode cX8_seen 2 = .ok (.invokevirtual 161, 3)) ∧ (decode cX8_seen 5 = .ok (.ifCond .eq 33, 3)) ∧ (decode cX8_seen 8 = .ok (.iload_n 2, 1)) ∧ (decode cX8_seen 9 = .ok (.iconst 0, 1)) ∧ (decode cX8_seen 10 = .ok (.bipush 99, 2)) ∧ (decode cX8_seen 12 = .ok (.invokestatic 44, 3)) ∧ (decode cX8_seen 15 = .ok (.ifCond .eq 23, 3)) ∧ (decode cX8_seen 18 = .ok (.iload_n 3, 1)) ∧ (decode cX8_seen 19 = .ok (.iconst 0, 1)) ∧ (decode cX8_seen 20 = .ok (.bipush 60, 2)) ∧ (decode cX8_seen 22 = .ok (.invokestatic 44, 3)) ∧ (decode cX8_seen 25 = .ok (.ifCond .eq 13, 3)) ∧ (decode cX8_seen 28 = .ok (.iload 4, 2)) ∧ (decode cX8_seen 30 = .ok (.iconst 0, 1)) := by decide +kernel
theorem dX8_seen_0 : decode cX8_seen 0 = .ok (.aload_n 0, 1) := bX8_seen_0.1
theorem dX8_seen_1 : decode cX8_seen 1 = .ok (.iload_n 1, 1) := bX8_seen_0.2.1
theorem dX8_seen_2 : decode cX8_seen 2 = .ok (.invokevirtual 161, 3) := bX8_seen_0.2.2.1
theorem dX8_seen_5 : decode cX8_seen 5 = .ok (.ifCond .eq 33, 3) := bX8_seen_0.2.2.2.1
theorem dX8_seen_8 : decode cX8_seen 8 = .ok (.iload_n 2, 1) := bX8_seen_0.2.2.2.2.1
theorem dX8_seen_9 : decode cX8_seen 9 = .ok (.iconst 0, 1) := bX8_seen_0.2.2.2.2.2.1
theorem dX8_seen_10 : decode cX8_seen 10 = .ok (.bipush 99, 2) := bX8_seen_0.2.2.2.2.2.2.1
theorem dX8_seen_12 : decode cX8_seen 12 = .ok (.invokestatic 44, 3) := bX8_seen_0.2.2.2.2.2.2.2.1
theorem dX8_seen_15 : decode cX8_seen 15 = .ok (.ifCond .eq 23, 3) := bX8_seen_0.2.2.2.2.2.2.2.2.1
theorem dX8_seen_18 : decode cX8_seen 18 = .ok (.iload_n 3, 1) := bX8_seen_0.2.2.2.2.2.2.2.2.2.1
theorem dX8_seen_19 : decode cX8_seen 19 = .ok (.iconst 0, 1) := bX8_seen_0.2.2.2.2.2.2.2.2.2.2.1
theorem dX8_seen_20 : decode cX8_seen 20 = .ok (.bipush 60, 2) := bX8_seen_0.2.2.2.2.2.2.2.2.2.2.2.1
theorem dX8_seen_22 : decode cX8_seen 22 = .ok (.invokestatic 44, 3) := bX8_seen_0.2.2.2.2.2.2.2.2.2.2.2.2.1
theorem dX8_seen_25 : decode cX8_seen 25 = .ok (.ifCond .eq 13, 3) := bX8_seen_0.2.2.2.2.2.2.2.2.2.2.2.2.2.1
theorem dX8_seen_28 : decode cX8_seen 28 = .ok (.iload 4, 2) := bX8_seen_0.2.2.2.2.2.2.2.2.2.2.2.2.2.2.1
theorem dX8_seen_30 : decode cX8_seen 30 = .ok (.iconst 0, 1) := bX8_seen_0.2.2.2.2.2.2.2.2.2.2.2.2.2.2.2
theorem bX8_seen_31 : (decode cX8_seen 31 = .ok (.iconst 1, 1)) ∧ (decode cX8_seen 32 = .ok (.invokestatic 44, 3)) ∧ (decode cX8_seen 35 = .ok (.ifCond .ne 8, 3)) ∧ (decode cX8_seen 38 = .ok (.aload_n 0, 1)) ∧ (decode cX8_seen 39 = .ok (.invokevirtual 69, 3)) ∧ (decode cX8_seen 42 = .ok (.ireturn, 1)) ∧ (decode cX8_seen 43 = .ok (.aload_n 0, 1)) ∧ (decode cX8_seen 44 = .ok (.getfield 13, 3)) ∧ (decode cX8_seen 47 = .ok (.iconst 2, 1)) ∧ (decode cX8_seen 48 = .ok (.iaload, 1)) ∧ (decode cX8_seen 49 = .ok (.iconst 5, 1)) ∧ (decode cX8_seen 50 = .ok (.if_icmp .ne 10, 3)) ∧ (decode cX8_seen 53 = .ok (.aload_n 0, 1)) ∧ (decode cX8_seen 54 = .ok (.invokevirtual 73, 3)) ∧ (decode cX8_seen 57 = .ok (.goto 15, 3)) ∧ (decode cX8_seen 60 = .ok (.aload_n 0, 1)) := by decide +kernel
theorem dX8_seen_31 : decode cX8_seen 31 = .ok (.iconst 1, 1) := bX8_seen_31.1
theorem dX8_seen_32 : decode cX8_seen 32 = .ok (.invokestatic 44, 3) := bX8_seen_31.2.1
theorem dX8_seen_35 : decode cX8_seen 35 = .ok (.ifCond .ne 8, 3) := bX8_seen_31.2.2.1
theorem dX8_seen_38 : decode cX8_seen 38 = .ok (.aload_n 0, 1) := bX8_seen_31.2.2.2.1
theorem dX8_seen_39 : decode cX8_seen 39 = .ok (.invokevirtual 69, 3) := bX8_seen_31.2.2.2.2.1
theorem dX8_seen_42 : decode cX8_seen 42 = .ok (.ireturn, 1) := bX8_seen_31.2.2.2.2.2.1
theorem dX8_seen_43 : decode cX8_seen 43 = .ok (.aload_n 0, 1) := bX8_seen_31.2.2.2.2.2.2.1
theorem dX8_seen_44 : decode cX8_seen 44 = .ok (.getfield 13, 3) := bX8_seen_31.2.2.2.2.2.2.2.1
theorem dX8_seen_47 : decode cX8_seen 47 = .ok (.iconst 2, 1) := bX8_seen_31.2.2.2.2.2.2.2.2.1
theorem dX8_seen_48 : decode cX8_seen 48 = .ok (.iaload, 1) := bX8_seen_31.2.2.2.2.2.2.2.2.2.1
theorem dX8_seen_49 : decode cX8_seen 49 = .ok (.iconst 5, 1) := bX8_seen_31.2.2.2.2.2.2.2.2.2.2.1
theorem dX8_seen_50 : decode cX8_seen 50 = .ok (.if_icmp .ne 10, 3) := bX8_seen_31.2.2.2.2.2.2.2.2.2.2.2.1
theorem dX8_seen_53 : decode cX8_seen 53 = .ok (.aload_n 0, 1) := bX8_seen_31.2.2.2.2.2.2.2.2.2.2.2.2.1
theorem dX8_seen_54 : decode cX8_seen 54 = .ok (.invokevirtual 73, 3) := bX8_seen_31.2.2.2.2.2.2.2.2.2.2.2.2.2.1
theorem dX8_seen_57 : decode cX8_seen 57 = .ok (.goto 15, 3) := bX8_seen_31.2.2.2.2.2.2.2.2.2.2.2.2.2.2.1
theorem dX8_seen_60 : decode cX8_seen 60 = .ok (.aload_n 0, 1) := bX8_seen_31.2.2.2.2.2.2.2.2.2.2.2.2.2.2.2
theorem bX8_seen_61 : (decode cX8_seen 61 = .ok (.bipush 50, 2)) ∧ (decode cX8_seen 63 = .ok (.iconst 2, 1)) ∧ (decode cX8_seen 64 = .ok (.iload_n 1, 1)) ∧ (decode cX8_seen 65 = .ok (.iload_n 2, 1)) ∧ (decode cX8_seen 66 = .ok (.iload_n 3, 1)) ∧ (decode cX8_seen 67 = .ok (.iload 4, 2)) ∧ (decode cX8_seen 69 = .ok (.invokevirtual 209, 3)) ∧ (decode cX8_seen 72 = .ok (.ireturn, 1)) := by decide +kernel
theorem dX8_seen_61 : decode cX8_seen 61 = .ok (.bipush 50, 2) := bX8_seen_61.1
theorem dX8_seen_63 : decode cX8_seen 63 = .ok (.iconst 2, 1) := bX8_seen_61.2.1
theorem dX8_seen_64 : decode cX8_seen 64 = .ok (.iload_n 1, 1) := bX8_seen_61.2.2.1
theorem dX8_seen_65 : decode cX8_seen 65 = .ok (.iload_n 2, 1) := bX8_seen_61.2.2.2.1
theorem dX8_seen_66 : decode cX8_seen 66 = .ok (.iload_n 3, 1) := bX8_seen_61.2.2.2.2.1
theorem dX8_seen_67 : decode cX8_seen 67 = .ok (.iload 4, 2) := bX8_seen_61.2.2.2.2.2.1
theorem dX8_seen_69 : decode cX8_seen 69 = .ok (.invokevirtual 209, 3) := bX8_seen_61.2.2.2.2.2.2.1
theorem dX8_seen_72 : decode cX8_seen 72 = .ok (.ireturn, 1) := bX8_seen_61.2.2.2.2.2.2.2
theorem bX8_strengthsOf_0 : (decode cX8_strengthsOf 0 = .ok (.iconst 0, 1)) ∧ (decode cX8_strengthsOf 1 = .ok (.istore_n 2, 1)) ∧ (decode cX8_strengthsOf 2 = .ok (.iconst 1, 1)) ∧ (decode cX8_strengthsOf 3 = .ok (.istore_n 3, 1)) ∧ (decode cX8_strengthsOf 4 = .ok (.iload_n 3, 1)) ∧ (decode cX8_strengthsOf 5 = .ok (.bipush 9, 2)) ∧ (decode cX8_strengthsOf 7 = .ok (.if_icmp .gt 143, 3)) ∧ (decode cX8_strengthsOf 10 = .ok (.iconst 1, 1)) ∧ (decode cX8_strengthsOf 11 = .ok (.istore 4, 2)) ∧ (decode cX8_strengthsOf 13 = .ok (.iconst 0, 1)) ∧ (decode cX8_strengthsOf 14 = .ok (.istore 5, 2)) ∧ (decode cX8_strengthsOf 16 = .ok (.iload 5, 2)) ∧ (decode cX8_strengthsOf 18 = .ok (.aload_n 0, 1)) ∧ (decode cX8_strengthsOf 19 = .ok (.getfield 13, 3)) ∧ (decode cX8_strengthsOf 22 = .ok (.iconst 2, 1)) ∧ (decode cX8_strengthsOf 23 = .ok (.iaload, 1)) := by decide +kernel
theorem dX8_strengthsOf_0 : decode cX8_strengthsOf 0 = .ok (.iconst 0, 1) := bX8_strengthsOf_0.1
theorem dX8_strengthsOf_1 : decode cX8_strengthsOf 1 = .ok (.istore_n 2, 1) := bX8_strengthsOf_0.2.1
theorem dX8_strengthsOf_2 : decode cX8_strengthsOf 2 = .ok (.iconst 1, 1) := bX8_strengthsOf_0.2.2.1
theorem dX8_strengthsOf_3 : decode cX8_strengthsOf 3 = .ok (.istore_n 3, 1) := bX8_strengthsOf_0.2.2.2.1
theorem dX8_strengthsOf_4 : decode cX8_strengthsOf 4 = .ok (.iload_n 3, 1) := bX8_strengthsOf_0.2.2.2.2.1
theorem dX8_strengthsOf_5 : decode cX8_strengthsOf 5 = .ok (.bipush 9, 2) := bX8_strengthsOf_0.2.2.2.2.2.1
theorem dX8_strengthsOf_7 : decode cX8_strengthsOf 7 = .ok (.if_icmp .gt 143, 3) := bX8_strengthsOf_0.2.2.2.2.2.2.1
theorem dX8_strengthsOf_10 : decode cX8_strengthsOf 10 = .ok (.iconst 1, 1) := bX8_strengthsOf_0.2.2.2.2.2.2.2.1
theorem dX8_strengthsOf_11 : decode cX8_strengthsOf 11 = .ok (.istore 4, 2) := bX8_strengthsOf_0.2.2.2.2.2.2.2.2.1
theorem dX8_strengthsOf_13 : decode cX8_strengthsOf 13 = .ok (.iconst 0, 1) := bX8_strengthsOf_0.2.2.2.2.2.2.2.2.2.1
theorem dX8_strengthsOf_14 : decode cX8_strengthsOf 14 = .ok (.istore 5, 2) := bX8_strengthsOf_0.2.2.2.2.2.2.2.2.2.2.1
theorem dX8_strengthsOf_16 : decode cX8_strengthsOf 16 = .ok (.iload 5, 2) := bX8_strengthsOf_0.2.2.2.2.2.2.2.2.2.2.2.1
theorem dX8_strengthsOf_18 : decode cX8_strengthsOf 18 = .ok (.aload_n 0, 1) := bX8_strengthsOf_0.2.2.2.2.2.2.2.2.2.2.2.2.1
theorem dX8_strengthsOf_19 : decode cX8_strengthsOf 19 = .ok (.getfield 13, 3) := bX8_strengthsOf_0.2.2.2.2.2.2.2.2.2.2.2.2.2.1
theorem dX8_strengthsOf_22 : decode cX8_strengthsOf 22 = .ok (.iconst 2, 1) := bX8_strengthsOf_0.2.2.2.2.2.2.2.2.2.2.2.2.2.2.1
theorem dX8_strengthsOf_23 : decode cX8_strengthsOf 23 = .ok (.iaload, 1) := bX8_strengthsOf_0.2.2.2.2.2.2.2.2.2.2.2.2.2.2.2
theorem bX8_strengthsOf_24 : (decode cX8_strengthsOf 24 = .ok (.if_icmp .ge 105, 3)) ∧ (decode cX8_strengthsOf 27 = .ok (.bipush 50, 2)) ∧ (decode cX8_strengthsOf 29 = .ok (.iconst 4, 1)) ∧ (decode cX8_strengthsOf 30 = .ok (.iload 5, 2)) ∧ (decode cX8_strengthsOf 32 = .ok (.imul, 1)) ∧ (decode cX8_strengthsOf 33 = .ok (.iadd, 1)) ∧ (decode cX8_strengthsOf 34 = .ok (.istore 6, 2)) ∧ (decode cX8_strengthsOf 36 = .ok (.aload_n 0, 1)) ∧ (decode cX8_strengthsOf 37 = .ok (.getfield 13, 3)) ∧ (decode cX8_strengthsOf 40 = .ok (.bipush 20, 2)) ∧ (decode cX8_strengthsOf 42 = .ok (.iload_n 1, 1)) ∧ (decode cX8_strengthsOf 43 = .ok (.iadd, 1)) ∧ (decode cX8_strengthsOf 44 = .ok (.iaload, 1)) ∧ (decode cX8_strengthsOf 45 = .ok (.iload_n 3, 1)) ∧ (decode cX8_strengthsOf 46 = .ok (.aload_n 0, 1)) ∧ (decode cX8_strengthsOf 47 = .ok (.getfield 13, 3)) := by decide +kernel
theorem dX8_strengthsOf_24 : decode cX8_strengthsOf 24 = .ok (.if_icmp .ge 105, 3) := bX8_strengthsOf_24.1
theorem dX8_strengthsOf_27 : decode cX8_strengthsOf 27 = .ok (.bipush 50, 2) := bX8_strengthsOf_24.2.1
theorem dX8_strengthsOf_29 : decode cX8_strengthsOf 29 = .ok (.iconst 4, 1) := bX8_strengthsOf_24.2.2.1
theorem dX8_strengthsOf_30 : decode cX8_strengthsOf 30 = .ok (.iload 5, 2) := bX8_strengthsOf_24.2.2.2.1
theorem dX8_strengthsOf_32 : decode cX8_strengthsOf 32 = .ok (.imul, 1) := bX8_strengthsOf_24.2.2.2.2.1
theorem dX8_strengthsOf_33 : decode cX8_strengthsOf 33 = .ok (.iadd, 1) := bX8_strengthsOf_24.2.2.2.2.2.1
theorem dX8_strengthsOf_34 : decode cX8_strengthsOf 34 = .ok (.istore 6, 2) := bX8_strengthsOf_24.2.2.2.2.2.2.1
theorem dX8_strengthsOf_36 : decode cX8_strengthsOf 36 = .ok (.aload_n 0, 1) := bX8_strengthsOf_24.2.2.2.2.2.2.2.1
theorem dX8_strengthsOf_37 : decode cX8_strengthsOf 37 = .ok (.getfield 13, 3) := bX8_strengthsOf_24.2.2.2.2.2.2.2.2.1
theorem dX8_strengthsOf_40 : decode cX8_strengthsOf 40 = .ok (.bipush 20, 2) := bX8_strengthsOf_24.2.2.2.2.2.2.2.2.2.1
theorem dX8_strengthsOf_42 : decode cX8_strengthsOf 42 = .ok (.iload_n 1, 1) := bX8_strengthsOf_24.2.2.2.2.2.2.2.2.2.2.1
theorem dX8_strengthsOf_43 : decode cX8_strengthsOf 43 = .ok (.iadd, 1) := bX8_strengthsOf_24.2.2.2.2.2.2.2.2.2.2.2.1
theorem dX8_strengthsOf_44 : decode cX8_strengthsOf 44 = .ok (.iaload, 1) := bX8_strengthsOf_24.2.2.2.2.2.2.2.2.2.2.2.2.1
theorem dX8_strengthsOf_45 : decode cX8_strengthsOf 45 = .ok (.iload_n 3, 1) := bX8_strengthsOf_24.2.2.2.2.2.2.2.2.2.2.2.2.2.1
theorem dX8_strengthsOf_46 : decode cX8_strengthsOf 46 = .ok (.aload_n 0, 1) := bX8_strengthsOf_24.2.2.2.2.2.2.2.2.2.2.2.2.2.2.1
theorem dX8_strengthsOf_47 : decode cX8_strengthsOf 47 = .ok (.getfield 13, 3) := bX8_strengthsOf_24.2.2.2.2.2.2.2.2.2.2.2.2.2.2.2
theorem bX8_strengthsOf_50 : (decode cX8_strengthsOf 50 = .ok (.iload 6, 2)) ∧ (decode cX8_strengthsOf 52 = .ok (.iconst 1, 1)) ∧ (decode cX8_strengthsOf 53 = .ok (.iadd, 1)) ∧ (decode cX8_strengthsOf 54 = .ok (.iaload, 1)) ∧ (decode cX8_strengthsOf 55 = .ok (.invokestatic 52, 3)) ∧ (decode cX8_strengthsOf 58 = .ok (.aload_n 0, 1)) ∧ (decode cX8_strengthsOf 59 = .ok (.getfield 13, 3)) ∧ (decode cX8_strengthsOf 62 = .ok (.iload 6, 2)) ∧ (decode cX8_strengthsOf 64 = .ok (.iconst 2, 1)) ∧ (decode cX8_strengthsOf 65 = .ok (.iadd, 1)) ∧ (decode cX8_strengthsOf 66 = .ok (.iaload, 1)) ∧ (decode cX8_strengthsOf 67 = .ok (.if_icmp .lt 7, 3)) ∧ (decode cX8_strengthsOf 70 = .ok (.iconst 1, 1)) ∧ (decode cX8_strengthsOf 71 = .ok (.goto 4, 3)) ∧ (decode cX8_strengthsOf 74 = .ok (.iconst 0, 1)) ∧ (decode cX8_strengthsOf 75 = .ok (.istore 7, 2)) := by decide +kernel
theorem dX8_strengthsOf_50 : decode cX8_strengthsOf 50 = .ok (.iload 6, 2) := bX8_strengthsOf_50.1
theorem dX8_strengthsOf_52 : decode cX8_strengthsOf 52 = .ok (.iconst 1, 1) := bX8_strengthsOf_50.2.1
theorem dX8_strengthsOf_53 : decode cX8_strengthsOf 53 = .ok (.iadd, 1) := bX8_strengthsOf_50.2.2.1
theorem dX8_strengthsOf_54 : decode cX8_strengthsOf 54 = .ok (.iaload, 1) := bX8_strengthsOf_50.2.2.2.1
theorem dX8_strengthsOf_55 : decode cX8_strengthsOf 55 = .ok (.invokestatic 52, 3) := bX8_strengthsOf_50.2.2.2.2.1
theorem dX8_strengthsOf_58 : decode cX8_strengthsOf 58 = .ok (.aload_n 0, 1) := bX8_strengthsOf_50.2.2.2.2.2.1
theorem dX8_strengthsOf_59 : decode cX8_strengthsOf 59 = .ok (.getfield 13, 3) := bX8_strengthsOf_50.2.2.2.2.2.2.1
theorem dX8_strengthsOf_62 : decode cX8_strengthsOf 62 = .ok (.iload 6, 2) := bX8_strengthsOf_50.2.2.2.2.2.2.2.1
theorem dX8_strengthsOf_64 : decode cX8_strengthsOf 64 = .ok (.iconst 2, 1) := bX8_strengthsOf_50.2.2.2.2.2.2.2.2.1
theorem dX8_strengthsOf_65 : decode cX8_strengthsOf 65 = .ok (.iadd, 1) := bX8_strengthsOf_50.2.2.2.2.2.2.2.2.2.1
theorem dX8_strengthsOf_66 : decode cX8_strengthsOf 66 = .ok (.iaload, 1) := bX8_strengthsOf_50.2.2.2.2.2.2.2.2.2.2.1
theorem dX8_strengthsOf_67 : decode cX8_strengthsOf 67 = .ok (.if_icmp .lt 7, 3) := bX8_strengthsOf_50.2.2.2.2.2.2.2.2.2.2.2.1
theorem dX8_strengthsOf_70 : decode cX8_strengthsOf 70 = .ok (.iconst 1, 1) := bX8_strengthsOf_50.2.2.2.2.2.2.2.2.2.2.2.2.1
theorem dX8_strengthsOf_71 : decode cX8_strengthsOf 71 = .ok (.goto 4, 3) := bX8_strengthsOf_50.2.2.2.2.2.2.2.2.2.2.2.2.2.1
theorem dX8_strengthsOf_74 : decode cX8_strengthsOf 74 = .ok (.iconst 0, 1) := bX8_strengthsOf_50.2.2.2.2.2.2.2.2.2.2.2.2.2.2.1
theorem dX8_strengthsOf_75 : decode cX8_strengthsOf 75 = .ok (.istore 7, 2) := bX8_strengthsOf_50.2.2.2.2.2.2.2.2.2.2.2.2.2.2.2
theorem bX8_strengthsOf_77 : (decode cX8_strengthsOf 77 = .ok (.iload 4, 2)) ∧ (decode cX8_strengthsOf 79 = .ok (.ifCond .eq 41, 3)) ∧ (decode cX8_strengthsOf 82 = .ok (.aload_n 0, 1)) ∧ (decode cX8_strengthsOf 83 = .ok (.getfield 13, 3)) ∧ (decode cX8_strengthsOf 86 = .ok (.iload 6, 2)) ∧ (decode cX8_strengthsOf 88 = .ok (.iaload, 1)) ∧ (decode cX8_strengthsOf 89 = .ok (.iload_n 1, 1)) ∧ (decode cX8_strengthsOf 90 = .ok (.if_icmp .ne 26, 3)) ∧ (decode cX8_strengthsOf 93 = .ok (.iload 7, 2)) ∧ (decode cX8_strengthsOf 95 = .ok (.aload_n 0, 1)) ∧ (decode cX8_strengthsOf 96 = .ok (.getfield 13, 3)) ∧ (decode cX8_strengthsOf 99 = .ok (.iload 6, 2)) ∧ (decode cX8_strengthsOf 101 = .ok (.iconst 3, 1)) ∧ (decode cX8_strengthsOf 102 = .ok (.iadd, 1)) ∧ (decode cX8_strengthsOf 103 = .ok (.iaload, 1)) ∧ (decode cX8_strengthsOf 104 = .ok (.iconst 1, 1)) := by decide +kernel
theorem dX8_strengthsOf_77 : decode cX8_strengthsOf 77 = .ok (.iload 4, 2) := bX8_strengthsOf_77.1
theorem dX8_strengthsOf_79 : decode cX8_strengthsOf 79 = .ok (.ifCond .eq 41, 3) := bX8_strengthsOf_77.2.1
theorem dX8_strengthsOf_82 : decode cX8_strengthsOf 82 = .ok (.aload_n 0, 1) := bX8_strengthsOf_77.2.2.1
theorem dX8_strengthsOf_83 : decode cX8_strengthsOf 83 = .ok (.getfield 13, 3) := bX8_strengthsOf_77.2.2.2.1
theorem dX8_strengthsOf_86 : decode cX8_strengthsOf 86 = .ok (.iload 6, 2) := bX8_strengthsOf_77.2.2.2.2.1
theorem dX8_strengthsOf_88 : decode cX8_strengthsOf 88 = .ok (.iaload, 1) := bX8_strengthsOf_77.2.2.2.2.2.1
theorem dX8_strengthsOf_89 : decode cX8_strengthsOf 89 = .ok (.iload_n 1, 1) := bX8_strengthsOf_77.2.2.2.2.2.2.1
theorem dX8_strengthsOf_90 : decode cX8_strengthsOf 90 = .ok (.if_icmp .ne 26, 3) := bX8_strengthsOf_77.2.2.2.2.2.2.2.1
theorem dX8_strengthsOf_93 : decode cX8_strengthsOf 93 = .ok (.iload 7, 2) := bX8_strengthsOf_77.2.2.2.2.2.2.2.2.1
theorem dX8_strengthsOf_95 : decode cX8_strengthsOf 95 = .ok (.aload_n 0, 1) := bX8_strengthsOf_77.2.2.2.2.2.2.2.2.2.1
theorem dX8_strengthsOf_96 : decode cX8_strengthsOf 96 = .ok (.getfield 13, 3) := bX8_strengthsOf_77.2.2.2.2.2.2.2.2.2.2.1
theorem dX8_strengthsOf_99 : decode cX8_strengthsOf 99 = .ok (.iload 6, 2) := bX8_strengthsOf_77.2.2.2.2.2.2.2.2.2.2.2.1
theorem dX8_strengthsOf_101 : decode cX8_strengthsOf 101 = .ok (.iconst 3, 1) := bX8_strengthsOf_77.2.2.2.2.2.2.2.2.2.2.2.2.1
theorem dX8_strengthsOf_102 : decode cX8_strengthsOf 102 = .ok (.iadd, 1) := bX8_strengthsOf_77.2.2.2.2.2.2.2.2.2.2.2.2.2.1
theorem dX8_strengthsOf_103 : decode cX8_strengthsOf 103 = .ok (.iaload, 1) := bX8_strengthsOf_77.2.2.2.2.2.2.2.2.2.2.2.2.2.2.1
theorem dX8_strengthsOf_104 : decode cX8_strengthsOf 104 = .ok (.iconst 1, 1) := bX8_strengthsOf_77.2.2.2.2.2.2.2.2.2.2.2.2.2.2.2
theorem bX8_strengthsOf_105 : (decode cX8_strengthsOf 105 = .ok (.if_icmp .ne 7, 3)) ∧ (decode cX8_strengthsOf 108 = .ok (.iconst 1, 1)) ∧ (decode cX8_strengthsOf 109 = .ok (.goto 4, 3)) ∧ (decode cX8_strengthsOf 112 = .ok (.iconst 0, 1)) ∧ (decode cX8_strengthsOf 113 = .ok (.if_icmp .ne 7, 3)) ∧ (decode cX8_strengthsOf 116 = .ok (.iconst 1, 1)) ∧ (decode cX8_strengthsOf 117 = .ok (.goto 4, 3)) ∧ (decode cX8_strengthsOf 120 = .ok (.iconst 0, 1)) ∧ (decode cX8_strengthsOf 121 = .ok (.istore 4, 2)) ∧ (decode cX8_strengthsOf 123 = .ok (.iinc 5 1, 3)) ∧ (decode cX8_strengthsOf 126 = .ok (.goto (-110), 3)) ∧ (decode cX8_strengthsOf 129 = .ok (.iload_n 2, 1)) ∧ (decode cX8_strengthsOf 130 = .ok (.iload 4, 2)) ∧ (decode cX8_strengthsOf 132 = .ok (.ifCond .eq 9, 3)) ∧ (decode cX8_strengthsOf 135 = .ok (.iconst 1, 1)) ∧ (decode cX8_strengthsOf 136 = .ok (.iload_n 3, 1)) := by decide +kernel
theorem dX8_strengthsOf_105 : decode cX8_strengthsOf 105 = .ok (.if_icmp .ne 7, 3) := bX8_strengthsOf_105.1
theorem dX8_strengthsOf_108 : decode cX8_strengthsOf 108 = .ok (.iconst 1, 1) := bX8_strengthsOf_105.2.1
theorem dX8_strengthsOf_109 : decode cX8_strengthsOf 109 = .ok (.goto 4, 3) := bX8_strengthsOf_105.2.2.1
theorem dX8_strengthsOf_112 : decode cX8_strengthsOf 112 = .ok (.iconst 0, 1) := bX8_strengthsOf_105.2.2.2.1
theorem dX8_strengthsOf_113 : decode cX8_strengthsOf 113 = .ok (.if_icmp .ne 7, 3) := bX8_strengthsOf_105.2.2.2.2.1
theorem dX8_strengthsOf_116 : decode cX8_strengthsOf 116 = .ok (.iconst 1, 1) := bX8_strengthsOf_105.2.2.2.2.2.1
theorem dX8_strengthsOf_117 : decode cX8_strengthsOf 117 = .ok (.goto 4, 3) := bX8_strengthsOf_105.2.2.2.2.2.2.1
theorem dX8_strengthsOf_120 : decode cX8_strengthsOf 120 = .ok (.iconst 0, 1) := bX8_strengthsOf_105.2.2.2.2.2.2.2.1
theorem dX8_strengthsOf_121 : decode cX8_strengthsOf 121 = .ok (.istore 4, 2) := bX8_strengthsOf_105.2.2.2.2.2.2.2.2.1
theorem dX8_strengthsOf_123 : decode cX8_strengthsOf 123 = .ok (.iinc 5 1, 3) := bX8_strengthsOf_105.2.2.2.2.2.2.2.2.2.1
theorem dX8_strengthsOf_126 : decode cX8_strengthsOf 126 = .ok (.goto (-110), 3) := bX8_strengthsOf_105.2.2.2.2.2.2.2.2.2.2.1
theorem dX8_strengthsOf_129 : decode cX8_strengthsOf 129 = .ok (.iload_n 2, 1) := bX8_strengthsOf_105.2.2.2.2.2.2.2.2.2.2.2.1
theorem dX8_strengthsOf_130 : decode cX8_strengthsOf 130 = .ok (.iload 4, 2) := bX8_strengthsOf_105.2.2.2.2.2.2.2.2.2.2.2.2.1
theorem dX8_strengthsOf_132 : decode cX8_strengthsOf 132 = .ok (.ifCond .eq 9, 3) := bX8_strengthsOf_105.2.2.2.2.2.2.2.2.2.2.2.2.2.1
theorem dX8_strengthsOf_135 : decode cX8_strengthsOf 135 = .ok (.iconst 1, 1) := bX8_strengthsOf_105.2.2.2.2.2.2.2.2.2.2.2.2.2.2.1
theorem dX8_strengthsOf_136 : decode cX8_strengthsOf 136 = .ok (.iload_n 3, 1) := bX8_strengthsOf_105.2.2.2.2.2.2.2.2.2.2.2.2.2.2.2
theorem bX8_strengthsOf_137 : (decode cX8_strengthsOf 137 = .ok (.ishl, 1)) ∧ (decode cX8_strengthsOf 138 = .ok (.goto 4, 3)) ∧ (decode cX8_strengthsOf 141 = .ok (.iconst 0, 1)) ∧ (decode cX8_strengthsOf 142 = .ok (.ior, 1)) ∧ (decode cX8_strengthsOf 143 = .ok (.istore_n 2, 1)) ∧ (decode cX8_strengthsOf 144 = .ok (.iinc 3 1, 3)) ∧ (decode cX8_strengthsOf 147 = .ok (.goto (-143), 3)) ∧ (decode cX8_strengthsOf 150 = .ok (.iload_n 2, 1)) ∧ (decode cX8_strengthsOf 151 = .ok (.ireturn, 1)) := by decide +kernel
theorem dX8_strengthsOf_137 : decode cX8_strengthsOf 137 = .ok (.ishl, 1) := bX8_strengthsOf_137.1
theorem dX8_strengthsOf_138 : decode cX8_strengthsOf 138 = .ok (.goto 4, 3) := bX8_strengthsOf_137.2.1
theorem dX8_strengthsOf_141 : decode cX8_strengthsOf 141 = .ok (.iconst 0, 1) := bX8_strengthsOf_137.2.2.1
theorem dX8_strengthsOf_142 : decode cX8_strengthsOf 142 = .ok (.ior, 1) := bX8_strengthsOf_137.2.2.2.1
theorem dX8_strengthsOf_143 : decode cX8_strengthsOf 143 = .ok (.istore_n 2, 1) := bX8_strengthsOf_137.2.2.2.2.1
theorem dX8_strengthsOf_144 : decode cX8_strengthsOf 144 = .ok (.iinc 3 1, 3) := bX8_strengthsOf_137.2.2.2.2.2.1
theorem dX8_strengthsOf_147 : decode cX8_strengthsOf 147 = .ok (.goto (-143), 3) := bX8_strengthsOf_137.2.2.2.2.2.2.1
theorem dX8_strengthsOf_150 : decode cX8_strengthsOf 150 = .ok (.iload_n 2, 1) := bX8_strengthsOf_137.2.2.2.2.2.2.2.1
theorem dX8_strengthsOf_151 : decode cX8_strengthsOf 151 = .ok (.ireturn, 1) := bX8_strengthsOf_137.2.2.2.2.2.2.2.2
theorem bX8_strong_0 : (decode cX8_strong 0 = .ok (.aload_n 0, 1)) ∧ (decode cX8_strong 1 = .ok (.iload_n 1, 1)) ∧ (decode cX8_strong 2 = .ok (.invokevirtual 161, 3)) ∧ (decode cX8_strong 5 = .ok (.ifCond .eq 12, 3)) ∧ (decode cX8_strong 8 = .ok (.iload_n 2, 1)) ∧ (decode cX8_strong 9 = .ok (.iconst 0, 1)) ∧ (decode cX8_strong 10 = .ok (.iconst 2, 1)) ∧ (decode cX8_strong 11 = .ok (.invokestatic 44, 3)) ∧ (decode cX8_strong 14 = .ok (.ifCond .ne 8, 3)) ∧ (decode cX8_strong 17 = .ok (.aload_n 0, 1)) ∧ (decode cX8_strong 18 = .ok (.invokevirtual 69, 3)) ∧ (decode cX8_strong 21 = .ok (.ireturn, 1)) ∧ (decode cX8_strong 22 = .ok (.aload_n 0, 1)) ∧ (decode cX8_strong 23 = .ok (.iload_n 1, 1)) ∧ (decode cX8_strong 24 = .ok (.invokevirtual 213, 3)) ∧ (decode cX8_strong 27 = .ok (.istore_n 3, 1)) := by decide +kernel
theorem dX8_strong_0 : decode cX8_strong 0 = .ok (.aload_n 0, 1) := bX8_strong_0.1
theorem dX8_strong_1 : decode cX8_strong 1 = .ok (.iload_n 1, 1) := bX8_strong_0.2.1
theorem dX8_strong_2 : decode cX8_strong 2 = .ok (.invokevirtual 161, 3) := bX8_strong_0.2.2.1
theorem dX8_strong_5 : decode cX8_strong 5 = .ok (.ifCond .eq 12, 3) := bX8_strong_0.2.2.2.1
theorem dX8_strong_8 : decode cX8_strong 8 = .ok (.iload_n 2, 1) := bX8_strong_0.2.2.2.2.1
theorem dX8_strong_9 : decode cX8_strong 9 = .ok (.iconst 0, 1) := bX8_strong_0.2.2.2.2.2.1
theorem dX8_strong_10 : decode cX8_strong 10 = .ok (.iconst 2, 1) := bX8_strong_0.2.2.2.2.2.2.1
theorem dX8_strong_11 : decode cX8_strong 11 = .ok (.invokestatic 44, 3) := bX8_strong_0.2.2.2.2.2.2.2.1
theorem dX8_strong_14 : decode cX8_strong 14 = .ok (.ifCond .ne 8, 3) := bX8_strong_0.2.2.2.2.2.2.2.2.1
theorem dX8_strong_17 : decode cX8_strong 17 = .ok (.aload_n 0, 1) := bX8_strong_0.2.2.2.2.2.2.2.2.2.1
theorem dX8_strong_18 : decode cX8_strong 18 = .ok (.invokevirtual 69, 3) := bX8_strong_0.2.2.2.2.2.2.2.2.2.2.1
theorem dX8_strong_21 : decode cX8_strong 21 = .ok (.ireturn, 1) := bX8_strong_0.2.2.2.2.2.2.2.2.2.2.2.1
theorem dX8_strong_22 : decode cX8_strong 22 = .ok (.aload_n 0, 1) := bX8_strong_0.2.2.2.2.2.2.2.2.2.2.2.2.1
theorem dX8_strong_23 : decode cX8_strong 23 = .ok (.iload_n 1, 1) := bX8_strong_0.2.2.2.2.2.2.2.2.2.2.2.2.2.1
theorem dX8_strong_24 : decode cX8_strong 24 = .ok (.invokevirtual 213, 3) := bX8_strong_0.2.2.2.2.2.2.2.2.2.2.2.2.2.2.1
theorem dX8_strong_27 : decode cX8_strong 27 = .ok (.istore_n 3, 1) := bX8_strong_0.2.2.2.2.2.2.2.2.2.2.2.2.2.2.2
theorem bX8_strong_28 : (decode cX8_strong 28 = .ok (.iconst (-1), 1)) ∧ (decode cX8_strong 29 = .ok (.istore 4, 2)) ∧ (decode cX8_strong 31 = .ok (.iconst (-1), 1)) ∧ (decode cX8_strong 32 = .ok (.istore 5, 2)) ∧ (decode cX8_strong 34 = .ok (.iconst 1, 1)) ∧ (decode cX8_strong 35 = .ok (.istore 6, 2)) ∧ (decode cX8_strong 37 = .ok (.iload 6, 2)) ∧ (decode cX8_strong 39 = .ok (.bipush 9, 2)) ∧ (decode cX8_strong 41 = .ok (.if_icmp .gt 51, 3)) ∧ (decode cX8_strong 44 = .ok (.iload_n 3, 1)) ∧ (decode cX8_strong 45 = .ok (.iload 6, 2)) ∧ (decode cX8_strong 47 = .ok (.invokestatic 61, 3)) ∧ (decode cX8_strong 50 = .ok (.ifCond .eq 14, 3)) ∧ (decode cX8_strong 53 = .ok (.iload 4, 2)) ∧ (decode cX8_strong 55 = .ok (.iconst (-1), 1)) ∧ (decode cX8_strong 56 = .ok (.if_icmp .ne 8, 3)) := by decide +kernel
theorem dX8_strong_28 : decode cX8_strong 28 = .ok (.iconst (-1), 1) := bX8_strong_28.1
theorem dX8_strong_29 : decode cX8_strong 29 = .ok (.istore 4, 2) := bX8_strong_28.2.1
theorem dX8_strong_31 : decode cX8_strong 31 = .ok (.iconst (-1), 1) := bX8_strong_28.2.2.1
theorem dX8_strong_32 : decode cX8_strong 32 = .ok (.istore 5, 2) := bX8_strong_28.2.2.2.1
theorem dX8_strong_34 : decode cX8_strong 34 = .ok (.iconst 1, 1) := bX8_strong_28.2.2.2.2.1
theorem dX8_strong_35 : decode cX8_strong 35 = .ok (.istore 6, 2) := bX8_strong_28.2.2.2.2.2.1
theorem dX8_strong_37 : decode cX8_strong 37 = .ok (.iload 6, 2) := bX8_strong_28.2.2.2.2.2.2.1
theorem dX8_strong_39 : decode cX8_strong 39 = .ok (.bipush 9, 2) := bX8_strong_28.2.2.2.2.2.2.2.1
theorem dX8_strong_41 : decode cX8_strong 41 = .ok (.if_icmp .gt 51, 3) := bX8_strong_28.2.2.2.2.2.2.2.2.1
theorem dX8_strong_44 : decode cX8_strong 44 = .ok (.iload_n 3, 1) := bX8_strong_28.2.2.2.2.2.2.2.2.2.1
theorem dX8_strong_45 : decode cX8_strong 45 = .ok (.iload 6, 2) := bX8_strong_28.2.2.2.2.2.2.2.2.2.2.1
theorem dX8_strong_47 : decode cX8_strong 47 = .ok (.invokestatic 61, 3) := bX8_strong_28.2.2.2.2.2.2.2.2.2.2.2.1
theorem dX8_strong_50 : decode cX8_strong 50 = .ok (.ifCond .eq 14, 3) := bX8_strong_28.2.2.2.2.2.2.2.2.2.2.2.2.1
theorem dX8_strong_53 : decode cX8_strong 53 = .ok (.iload 4, 2) := bX8_strong_28.2.2.2.2.2.2.2.2.2.2.2.2.2.1
theorem dX8_strong_55 : decode cX8_strong 55 = .ok (.iconst (-1), 1) := bX8_strong_28.2.2.2.2.2.2.2.2.2.2.2.2.2.2.1
theorem dX8_strong_56 : decode cX8_strong 56 = .ok (.if_icmp .ne 8, 3) := bX8_strong_28.2.2.2.2.2.2.2.2.2.2.2.2.2.2.2
theorem bX8_strong_59 : (decode cX8_strong 59 = .ok (.iload 6, 2)) ∧ (decode cX8_strong 61 = .ok (.goto 5, 3)) ∧ (decode cX8_strong 64 = .ok (.iload 4, 2)) ∧ (decode cX8_strong 66 = .ok (.istore 4, 2)) ∧ (decode cX8_strong 68 = .ok (.iload_n 3, 1)) ∧ (decode cX8_strong 69 = .ok (.iload 6, 2)) ∧ (decode cX8_strong 71 = .ok (.invokestatic 61, 3)) ∧ (decode cX8_strong 74 = .ok (.ifCond .eq 8, 3)) ∧ (decode cX8_strong 77 = .ok (.iload 6, 2)) ∧ (decode cX8_strong 79 = .ok (.goto 5, 3)) ∧ (decode cX8_strong 82 = .ok (.iload 5, 2)) ∧ (decode cX8_strong 84 = .ok (.istore 5, 2)) ∧ (decode cX8_strong 86 = .ok (.iinc 6 1, 3)) ∧ (decode cX8_strong 89 = .ok (.goto (-52), 3)) ∧ (decode cX8_strong 92 = .ok (.iload_n 2, 1)) ∧ (decode cX8_strong 93 = .ok (.ifCond .ne 10, 3)) := by decide +kernel
theorem dX8_strong_59 : decode cX8_strong 59 = .ok (.iload 6, 2) := bX8_strong_59.1
theorem dX8_strong_61 : decode cX8_strong 61 = .ok (.goto 5, 3) := bX8_strong_59.2.1
theorem dX8_strong_64 : decode cX8_strong 64 = .ok (.iload 4, 2) := bX8_strong_59.2.2.1
theorem dX8_strong_66 : decode cX8_strong 66 = .ok (.istore 4, 2) := bX8_strong_59.2.2.2.1
theorem dX8_strong_68 : decode cX8_strong 68 = .ok (.iload_n 3, 1) := bX8_strong_59.2.2.2.2.1
theorem dX8_strong_69 : decode cX8_strong 69 = .ok (.iload 6, 2) := bX8_strong_59.2.2.2.2.2.1
theorem dX8_strong_71 : decode cX8_strong 71 = .ok (.invokestatic 61, 3) := bX8_strong_59.2.2.2.2.2.2.1
theorem dX8_strong_74 : decode cX8_strong 74 = .ok (.ifCond .eq 8, 3) := bX8_strong_59.2.2.2.2.2.2.2.1
theorem dX8_strong_77 : decode cX8_strong 77 = .ok (.iload 6, 2) := bX8_strong_59.2.2.2.2.2.2.2.2.1
theorem dX8_strong_79 : decode cX8_strong 79 = .ok (.goto 5, 3) := bX8_strong_59.2.2.2.2.2.2.2.2.2.1
theorem dX8_strong_82 : decode cX8_strong 82 = .ok (.iload 5, 2) := bX8_strong_59.2.2.2.2.2.2.2.2.2.2.1
theorem dX8_strong_84 : decode cX8_strong 84 = .ok (.istore 5, 2) := bX8_strong_59.2.2.2.2.2.2.2.2.2.2.2.1
theorem dX8_strong_86 : decode cX8_strong 86 = .ok (.iinc 6 1, 3) := bX8_strong_59.2.2.2.2.2.2.2.2.2.2.2.2.1
theorem dX8_strong_89 : decode cX8_strong 89 = .ok (.goto (-52), 3) := bX8_strong_59.2.2.2.2.2.2.2.2.2.2.2.2.2.1
theorem dX8_strong_92 : decode cX8_strong 92 = .ok (.iload_n 2, 1) := bX8_strong_59.2.2.2.2.2.2.2.2.2.2.2.2.2.2.1
theorem dX8_strong_93 : decode cX8_strong 93 = .ok (.ifCond .ne 10, 3) := bX8_strong_59.2.2.2.2.2.2.2.2.2.2.2.2.2.2.2
theorem bX8_strong_96 : (decode cX8_strong 96 = .ok (.iload_n 3, 1)) ∧ (decode cX8_strong 97 = .ok (.invokestatic 180, 3)) ∧ (decode cX8_strong 100 = .ok (.goto 15, 3)) ∧ (decode cX8_strong 103 = .ok (.iload_n 2, 1)) ∧ (decode cX8_strong 104 = .ok (.iconst 1, 1)) ∧ (decode cX8_strong 105 = .ok (.if_icmp .ne 8, 3)) ∧ (decode cX8_strong 108 = .ok (.iload 4, 2)) ∧ (decode cX8_strong 110 = .ok (.goto 5, 3)) ∧ (decode cX8_strong 113 = .ok (.iload 5, 2)) ∧ (decode cX8_strong 115 = .ok (.ireturn, 1)) := by decide +kernel
theorem dX8_strong_96 : decode cX8_strong 96 = .ok (.iload_n 3, 1) := bX8_strong_96.1
theorem dX8_strong_97 : decode cX8_strong 97 = .ok (.invokestatic 180, 3) := bX8_strong_96.2.1
theorem dX8_strong_100 : decode cX8_strong 100 = .ok (.goto 15, 3) := bX8_strong_96.2.2.1
theorem dX8_strong_103 : decode cX8_strong 103 = .ok (.iload_n 2, 1) := bX8_strong_96.2.2.2.1
theorem dX8_strong_104 : decode cX8_strong 104 = .ok (.iconst 1, 1) := bX8_strong_96.2.2.2.2.1
theorem dX8_strong_105 : decode cX8_strong 105 = .ok (.if_icmp .ne 8, 3) := bX8_strong_96.2.2.2.2.2.1
theorem dX8_strong_108 : decode cX8_strong 108 = .ok (.iload 4, 2) := bX8_strong_96.2.2.2.2.2.2.1
theorem dX8_strong_110 : decode cX8_strong 110 = .ok (.goto 5, 3) := bX8_strong_96.2.2.2.2.2.2.2.1
theorem dX8_strong_113 : decode cX8_strong 113 = .ok (.iload 5, 2) := bX8_strong_96.2.2.2.2.2.2.2.2.1
theorem dX8_strong_115 : decode cX8_strong 115 = .ok (.ireturn, 1) := bX8_strong_96.2.2.2.2.2.2.2.2.2
theorem bX8_tell_0 : (decode cX8_tell 0 = .ok (.aload_n 0, 1)) ∧ (decode cX8_tell 1 = .ok (.iload_n 1, 1)) ∧ (decode cX8_tell 2 = .ok (.invokevirtual 161, 3)) ∧ (decode cX8_tell 5 = .ok (.ifCond .ne 8, 3)) ∧ (decode cX8_tell 8 = .ok (.aload_n 0, 1)) ∧ (decode cX8_tell 9 = .ok (.invokevirtual 69, 3)) ∧ (decode cX8_tell 12 = .ok (.ireturn, 1)) ∧ (decode cX8_tell 13 = .ok (.aload_n 0, 1)) ∧ (decode cX8_tell 14 = .ok (.iload_n 1, 1)) ∧ (decode cX8_tell 15 = .ok (.invokevirtual 213, 3)) ∧ (decode cX8_tell 18 = .ok (.istore_n 2, 1)) ∧ (decode cX8_tell 19 = .ok (.iconst (-1), 1)) ∧ (decode cX8_tell 20 = .ok (.istore_n 3, 1)) ∧ (decode cX8_tell 21 = .ok (.ldc 202, 2)) ∧ (decode cX8_tell 23 = .ok (.istore 4, 2)) ∧ (decode cX8_tell 25 = .ok (.iconst 0, 1)) := by decide +kernel
theorem dX8_tell_0 : decode cX8_tell 0 = .ok (.aload_n 0, 1) := bX8_tell_0.1
theorem dX8_tell_1 : decode cX8_tell 1 = .ok (.iload_n 1, 1) := bX8_tell_0.2.1
theorem dX8_tell_2 : decode cX8_tell 2 = .ok (.invokevirtual 161, 3) := bX8_tell_0.2.2.1
theorem dX8_tell_5 : decode cX8_tell 5 = .ok (.ifCond .ne 8, 3) := bX8_tell_0.2.2.2.1
theorem dX8_tell_8 : decode cX8_tell 8 = .ok (.aload_n 0, 1) := bX8_tell_0.2.2.2.2.1
theorem dX8_tell_9 : decode cX8_tell 9 = .ok (.invokevirtual 69, 3) := bX8_tell_0.2.2.2.2.2.1
theorem dX8_tell_12 : decode cX8_tell 12 = .ok (.ireturn, 1) := bX8_tell_0.2.2.2.2.2.2.1
theorem dX8_tell_13 : decode cX8_tell 13 = .ok (.aload_n 0, 1) := bX8_tell_0.2.2.2.2.2.2.2.1
theorem dX8_tell_14 : decode cX8_tell 14 = .ok (.iload_n 1, 1) := bX8_tell_0.2.2.2.2.2.2.2.2.1
theorem dX8_tell_15 : decode cX8_tell 15 = .ok (.invokevirtual 213, 3) := bX8_tell_0.2.2.2.2.2.2.2.2.2.1
theorem dX8_tell_18 : decode cX8_tell 18 = .ok (.istore_n 2, 1) := bX8_tell_0.2.2.2.2.2.2.2.2.2.2.1
theorem dX8_tell_19 : decode cX8_tell 19 = .ok (.iconst (-1), 1) := bX8_tell_0.2.2.2.2.2.2.2.2.2.2.2.1
theorem dX8_tell_20 : decode cX8_tell 20 = .ok (.istore_n 3, 1) := bX8_tell_0.2.2.2.2.2.2.2.2.2.2.2.2.1
theorem dX8_tell_21 : decode cX8_tell 21 = .ok (.ldc 202, 2) := bX8_tell_0.2.2.2.2.2.2.2.2.2.2.2.2.2.1
theorem dX8_tell_23 : decode cX8_tell 23 = .ok (.istore 4, 2) := bX8_tell_0.2.2.2.2.2.2.2.2.2.2.2.2.2.2.1
theorem dX8_tell_25 : decode cX8_tell 25 = .ok (.iconst 0, 1) := bX8_tell_0.2.2.2.2.2.2.2.2.2.2.2.2.2.2.2
theorem bX8_tell_26 : (decode cX8_tell 26 = .ok (.istore 5, 2)) ∧ (decode cX8_tell 28 = .ok (.iload 5, 2)) ∧ (decode cX8_tell 30 = .ok (.bipush 9, 2)) ∧ (decode cX8_tell 32 = .ok (.if_icmp .gt 153, 3)) ∧ (decode cX8_tell 35 = .ok (.iload_n 2, 1)) ∧ (decode cX8_tell 36 = .ok (.ifCond .eq 149, 3)) ∧ (decode cX8_tell 39 = .ok (.iconst 0, 1)) ∧ (decode cX8_tell 40 = .ok (.istore 6, 2)) ∧ (decode cX8_tell 42 = .ok (.iload 6, 2)) ∧ (decode cX8_tell 44 = .ok (.bipush 60, 2)) ∧ (decode cX8_tell 46 = .ok (.if_icmp .gt 133, 3)) ∧ (decode cX8_tell 49 = .ok (.iconst 0, 1)) ∧ (decode cX8_tell 50 = .ok (.istore 7, 2)) ∧ (decode cX8_tell 52 = .ok (.iconst 1, 1)) ∧ (decode cX8_tell 53 = .ok (.istore 8, 2)) ∧ (decode cX8_tell 55 = .ok (.iload 8, 2)) := by decide +kernel
theorem dX8_tell_26 : decode cX8_tell 26 = .ok (.istore 5, 2) := bX8_tell_26.1
theorem dX8_tell_28 : decode cX8_tell 28 = .ok (.iload 5, 2) := bX8_tell_26.2.1
theorem dX8_tell_30 : decode cX8_tell 30 = .ok (.bipush 9, 2) := bX8_tell_26.2.2.1
theorem dX8_tell_32 : decode cX8_tell 32 = .ok (.if_icmp .gt 153, 3) := bX8_tell_26.2.2.2.1
theorem dX8_tell_35 : decode cX8_tell 35 = .ok (.iload_n 2, 1) := bX8_tell_26.2.2.2.2.1
theorem dX8_tell_36 : decode cX8_tell 36 = .ok (.ifCond .eq 149, 3) := bX8_tell_26.2.2.2.2.2.1
theorem dX8_tell_39 : decode cX8_tell 39 = .ok (.iconst 0, 1) := bX8_tell_26.2.2.2.2.2.2.1
theorem dX8_tell_40 : decode cX8_tell 40 = .ok (.istore 6, 2) := bX8_tell_26.2.2.2.2.2.2.2.1
theorem dX8_tell_42 : decode cX8_tell 42 = .ok (.iload 6, 2) := bX8_tell_26.2.2.2.2.2.2.2.2.1
theorem dX8_tell_44 : decode cX8_tell 44 = .ok (.bipush 60, 2) := bX8_tell_26.2.2.2.2.2.2.2.2.2.1
theorem dX8_tell_46 : decode cX8_tell 46 = .ok (.if_icmp .gt 133, 3) := bX8_tell_26.2.2.2.2.2.2.2.2.2.2.1
theorem dX8_tell_49 : decode cX8_tell 49 = .ok (.iconst 0, 1) := bX8_tell_26.2.2.2.2.2.2.2.2.2.2.2.1
theorem dX8_tell_50 : decode cX8_tell 50 = .ok (.istore 7, 2) := bX8_tell_26.2.2.2.2.2.2.2.2.2.2.2.2.1
theorem dX8_tell_52 : decode cX8_tell 52 = .ok (.iconst 1, 1) := bX8_tell_26.2.2.2.2.2.2.2.2.2.2.2.2.2.1
theorem dX8_tell_53 : decode cX8_tell 53 = .ok (.istore 8, 2) := bX8_tell_26.2.2.2.2.2.2.2.2.2.2.2.2.2.2.1
theorem dX8_tell_55 : decode cX8_tell 55 = .ok (.iload 8, 2) := bX8_tell_26.2.2.2.2.2.2.2.2.2.2.2.2.2.2.2
theorem bX8_tell_57 : (decode cX8_tell 57 = .ok (.bipush 9, 2)) ∧ (decode cX8_tell 59 = .ok (.if_icmp .gt 52, 3)) ∧ (decode cX8_tell 62 = .ok (.iload 7, 2)) ∧ (decode cX8_tell 64 = .ok (.iload_n 2, 1)) ∧ (decode cX8_tell 65 = .ok (.iload 8, 2)) ∧ (decode cX8_tell 67 = .ok (.invokestatic 61, 3)) ∧ (decode cX8_tell 70 = .ok (.ifCond .eq 31, 3)) ∧ (decode cX8_tell 73 = .ok (.aload_n 0, 1)) ∧ (decode cX8_tell 74 = .ok (.getfield 13, 3)) := by decide +kernel
theorem dX8_tell_57 : decode cX8_tell 57 = .ok (.bipush 9, 2) := bX8_tell_57.1
theorem dX8_tell_59 : decode cX8_tell 59 = .ok (.if_icmp .gt 52, 3) := bX8_tell_57.2.1
theorem dX8_tell_62 : decode cX8_tell 62 = .ok (.iload 7, 2) := bX8_tell_57.2.2.1
theorem dX8_tell_64 : decode cX8_tell 64 = .ok (.iload_n 2, 1) := bX8_tell_57.2.2.2.1
theorem dX8_tell_65 : decode cX8_tell 65 = .ok (.iload 8, 2) := bX8_tell_57.2.2.2.2.1
theorem dX8_tell_67 : decode cX8_tell 67 = .ok (.invokestatic 61, 3) := bX8_tell_57.2.2.2.2.2.1
theorem dX8_tell_70 : decode cX8_tell 70 = .ok (.ifCond .eq 31, 3) := bX8_tell_57.2.2.2.2.2.2.1
theorem dX8_tell_73 : decode cX8_tell 73 = .ok (.aload_n 0, 1) := bX8_tell_57.2.2.2.2.2.2.2.1
theorem dX8_tell_74 : decode cX8_tell 74 = .ok (.getfield 13, 3) := bX8_tell_57.2.2.2.2.2.2.2.2
