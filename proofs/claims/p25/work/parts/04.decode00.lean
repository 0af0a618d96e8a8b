theorem bX0_init_0 : (decode cX0_init 0 = .ok (.aload_n 0, 1)) ∧ (decode cX0_init 1 = .ok (.invokespecial 3, 3)) ∧ (decode cX0_init 4 = .ok (.aload_n 0, 1)) ∧ (decode cX0_init 5 = .ok (.bipush 9, 2)) ∧ (decode cX0_init 7 = .ok (.newarray .int, 2)) ∧ (decode cX0_init 9 = .ok (.putfield 9, 3)) ∧ (decode cX0_init 12 = .ok (.return_, 1)) := by decide +kernel
theorem dX0_init_0 : decode cX0_init 0 = .ok (.aload_n 0, 1) := bX0_init_0.1
theorem dX0_init_1 : decode cX0_init 1 = .ok (.invokespecial 3, 3) := bX0_init_0.2.1
theorem dX0_init_4 : decode cX0_init 4 = .ok (.aload_n 0, 1) := bX0_init_0.2.2.1
theorem dX0_init_5 : decode cX0_init 5 = .ok (.bipush 9, 2) := bX0_init_0.2.2.2.1
theorem dX0_init_7 : decode cX0_init 7 = .ok (.newarray .int, 2) := bX0_init_0.2.2.2.2.1
theorem dX0_init_9 : decode cX0_init 9 = .ok (.putfield 9, 3) := bX0_init_0.2.2.2.2.2.1
theorem dX0_init_12 : decode cX0_init 12 = .ok (.return_, 1) := bX0_init_0.2.2.2.2.2.2
theorem bX0_fillByStrength_0 : (decode cX0_fillByStrength 0 = .ok (.aload_n 0, 1)) ∧ (decode cX0_fillByStrength 1 = .ok (.iconst 0, 1)) ∧ (decode cX0_fillByStrength 2 = .ok (.putfield 15, 3)) ∧ (decode cX0_fillByStrength 5 = .ok (.iconst 1, 1)) ∧ (decode cX0_fillByStrength 6 = .ok (.istore 4, 2)) ∧ (decode cX0_fillByStrength 8 = .ok (.iload 4, 2)) ∧ (decode cX0_fillByStrength 10 = .ok (.bipush 9, 2)) ∧ (decode cX0_fillByStrength 12 = .ok (.if_icmp .gt 30, 3)) ∧ (decode cX0_fillByStrength 15 = .ok (.iload_n 2, 1)) ∧ (decode cX0_fillByStrength 16 = .ok (.iload 4, 2)) ∧ (decode cX0_fillByStrength 18 = .ok (.ishr, 1)) ∧ (decode cX0_fillByStrength 19 = .ok (.iconst 1, 1)) ∧ (decode cX0_fillByStrength 20 = .ok (.iand, 1)) ∧ (decode cX0_fillByStrength 21 = .ok (.iconst 1, 1)) ∧ (decode cX0_fillByStrength 22 = .ok (.if_icmp .ne 14, 3)) ∧ (decode cX0_fillByStrength 25 = .ok (.aload_n 0, 1)) := by decide +kernel
theorem dX0_fillByStrength_0 : decode cX0_fillByStrength 0 = .ok (.aload_n 0, 1) := bX0_fillByStrength_0.1
theorem dX0_fillByStrength_1 : decode cX0_fillByStrength 1 = .ok (.iconst 0, 1) := bX0_fillByStrength_0.2.1
theorem dX0_fillByStrength_2 : decode cX0_fillByStrength 2 = .ok (.putfield 15, 3) := bX0_fillByStrength_0.2.2.1
theorem dX0_fillByStrength_5 : decode cX0_fillByStrength 5 = .ok (.iconst 1, 1) := bX0_fillByStrength_0.2.2.2.1
theorem dX0_fillByStrength_6 : decode cX0_fillByStrength 6 = .ok (.istore 4, 2) := bX0_fillByStrength_0.2.2.2.2.1
theorem dX0_fillByStrength_8 : decode cX0_fillByStrength 8 = .ok (.iload 4, 2) := bX0_fillByStrength_0.2.2.2.2.2.1
theorem dX0_fillByStrength_10 : decode cX0_fillByStrength 10 = .ok (.bipush 9, 2) := bX0_fillByStrength_0.2.2.2.2.2.2.1
theorem dX0_fillByStrength_12 : decode cX0_fillByStrength 12 = .ok (.if_icmp .gt 30, 3) := bX0_fillByStrength_0.2.2.2.2.2.2.2.1
theorem dX0_fillByStrength_15 : decode cX0_fillByStrength 15 = .ok (.iload_n 2, 1) := bX0_fillByStrength_0.2.2.2.2.2.2.2.2.1
theorem dX0_fillByStrength_16 : decode cX0_fillByStrength 16 = .ok (.iload 4, 2) := bX0_fillByStrength_0.2.2.2.2.2.2.2.2.2.1
theorem dX0_fillByStrength_18 : decode cX0_fillByStrength 18 = .ok (.ishr, 1) := bX0_fillByStrength_0.2.2.2.2.2.2.2.2.2.2.1
theorem dX0_fillByStrength_19 : decode cX0_fillByStrength 19 = .ok (.iconst 1, 1) := bX0_fillByStrength_0.2.2.2.2.2.2.2.2.2.2.2.1
theorem dX0_fillByStrength_20 : decode cX0_fillByStrength 20 = .ok (.iand, 1) := bX0_fillByStrength_0.2.2.2.2.2.2.2.2.2.2.2.2.1
theorem dX0_fillByStrength_21 : decode cX0_fillByStrength 21 = .ok (.iconst 1, 1) := bX0_fillByStrength_0.2.2.2.2.2.2.2.2.2.2.2.2.2.1
theorem dX0_fillByStrength_22 : decode cX0_fillByStrength 22 = .ok (.if_icmp .ne 14, 3) := bX0_fillByStrength_0.2.2.2.2.2.2.2.2.2.2.2.2.2.2.1
theorem dX0_fillByStrength_25 : decode cX0_fillByStrength 25 = .ok (.aload_n 0, 1) := bX0_fillByStrength_0.2.2.2.2.2.2.2.2.2.2.2.2.2.2.2
theorem bX0_fillByStrength_26 : (decode cX0_fillByStrength 26 = .ok (.iload_n 1, 1)) ∧ (decode cX0_fillByStrength 27 = .ok (.iload 4, 2)) ∧ (decode cX0_fillByStrength 29 = .ok (.iload_n 3, 1)) ∧ (decode cX0_fillByStrength 30 = .ok (.invokestatic 19, 3)) ∧ (decode cX0_fillByStrength 33 = .ok (.invokevirtual 25, 3)) ∧ (decode cX0_fillByStrength 36 = .ok (.iinc 4 1, 3)) ∧ (decode cX0_fillByStrength 39 = .ok (.goto (-31), 3)) ∧ (decode cX0_fillByStrength 42 = .ok (.return_, 1)) := by decide +kernel
theorem dX0_fillByStrength_26 : decode cX0_fillByStrength 26 = .ok (.iload_n 1, 1) := bX0_fillByStrength_26.1
theorem dX0_fillByStrength_27 : decode cX0_fillByStrength 27 = .ok (.iload 4, 2) := bX0_fillByStrength_26.2.1
theorem dX0_fillByStrength_29 : decode cX0_fillByStrength 29 = .ok (.iload_n 3, 1) := bX0_fillByStrength_26.2.2.1
theorem dX0_fillByStrength_30 : decode cX0_fillByStrength 30 = .ok (.invokestatic 19, 3) := bX0_fillByStrength_26.2.2.2.1
theorem dX0_fillByStrength_33 : decode cX0_fillByStrength 33 = .ok (.invokevirtual 25, 3) := bX0_fillByStrength_26.2.2.2.2.1
theorem dX0_fillByStrength_36 : decode cX0_fillByStrength 36 = .ok (.iinc 4 1, 3) := bX0_fillByStrength_26.2.2.2.2.2.1
theorem dX0_fillByStrength_39 : decode cX0_fillByStrength 39 = .ok (.goto (-31), 3) := bX0_fillByStrength_26.2.2.2.2.2.2.1
theorem dX0_fillByStrength_42 : decode cX0_fillByStrength 42 = .ok (.return_, 1) := bX0_fillByStrength_26.2.2.2.2.2.2.2
theorem bX0_fillByThingKind_0 : (decode cX0_fillByThingKind 0 = .ok (.aload_n 0, 1)) ∧ (decode cX0_fillByThingKind 1 = .ok (.iconst 0, 1)) ∧ (decode cX0_fillByThingKind 2 = .ok (.putfield 15, 3)) ∧ (decode cX0_fillByThingKind 5 = .ok (.iconst 0, 1)) ∧ (decode cX0_fillByThingKind 6 = .ok (.istore 4, 2)) ∧ (decode cX0_fillByThingKind 8 = .ok (.iload 4, 2)) ∧ (decode cX0_fillByThingKind 10 = .ok (.bipush 6, 2)) ∧ (decode cX0_fillByThingKind 12 = .ok (.if_icmp .ge 30, 3)) ∧ (decode cX0_fillByThingKind 15 = .ok (.iload_n 1, 1)) ∧ (decode cX0_fillByThingKind 16 = .ok (.iload 4, 2)) ∧ (decode cX0_fillByThingKind 18 = .ok (.ishr, 1)) ∧ (decode cX0_fillByThingKind 19 = .ok (.iconst 1, 1)) ∧ (decode cX0_fillByThingKind 20 = .ok (.iand, 1)) ∧ (decode cX0_fillByThingKind 21 = .ok (.iconst 1, 1)) ∧ (decode cX0_fillByThingKind 22 = .ok (.if_icmp .ne 14, 3)) ∧ (decode cX0_fillByThingKind 25 = .ok (.aload_n 0, 1)) := by decide +kernel
theorem dX0_fillByThingKind_0 : decode cX0_fillByThingKind 0 = .ok (.aload_n 0, 1) := bX0_fillByThingKind_0.1
theorem dX0_fillByThingKind_1 : decode cX0_fillByThingKind 1 = .ok (.iconst 0, 1) := bX0_fillByThingKind_0.2.1
theorem dX0_fillByThingKind_2 : decode cX0_fillByThingKind 2 = .ok (.putfield 15, 3) := bX0_fillByThingKind_0.2.2.1
theorem dX0_fillByThingKind_5 : decode cX0_fillByThingKind 5 = .ok (.iconst 0, 1) := bX0_fillByThingKind_0.2.2.2.1
theorem dX0_fillByThingKind_6 : decode cX0_fillByThingKind 6 = .ok (.istore 4, 2) := bX0_fillByThingKind_0.2.2.2.2.1
theorem dX0_fillByThingKind_8 : decode cX0_fillByThingKind 8 = .ok (.iload 4, 2) := bX0_fillByThingKind_0.2.2.2.2.2.1
theorem dX0_fillByThingKind_10 : decode cX0_fillByThingKind 10 = .ok (.bipush 6, 2) := bX0_fillByThingKind_0.2.2.2.2.2.2.1
theorem dX0_fillByThingKind_12 : decode cX0_fillByThingKind 12 = .ok (.if_icmp .ge 30, 3) := bX0_fillByThingKind_0.2.2.2.2.2.2.2.1
theorem dX0_fillByThingKind_15 : decode cX0_fillByThingKind 15 = .ok (.iload_n 1, 1) := bX0_fillByThingKind_0.2.2.2.2.2.2.2.2.1
theorem dX0_fillByThingKind_16 : decode cX0_fillByThingKind 16 = .ok (.iload 4, 2) := bX0_fillByThingKind_0.2.2.2.2.2.2.2.2.2.1
theorem dX0_fillByThingKind_18 : decode cX0_fillByThingKind 18 = .ok (.ishr, 1) := bX0_fillByThingKind_0.2.2.2.2.2.2.2.2.2.2.1
theorem dX0_fillByThingKind_19 : decode cX0_fillByThingKind 19 = .ok (.iconst 1, 1) := bX0_fillByThingKind_0.2.2.2.2.2.2.2.2.2.2.2.1
theorem dX0_fillByThingKind_20 : decode cX0_fillByThingKind 20 = .ok (.iand, 1) := bX0_fillByThingKind_0.2.2.2.2.2.2.2.2.2.2.2.2.1
theorem dX0_fillByThingKind_21 : decode cX0_fillByThingKind 21 = .ok (.iconst 1, 1) := bX0_fillByThingKind_0.2.2.2.2.2.2.2.2.2.2.2.2.2.1
theorem dX0_fillByThingKind_22 : decode cX0_fillByThingKind 22 = .ok (.if_icmp .ne 14, 3) := bX0_fillByThingKind_0.2.2.2.2.2.2.2.2.2.2.2.2.2.2.1
theorem dX0_fillByThingKind_25 : decode cX0_fillByThingKind 25 = .ok (.aload_n 0, 1) := bX0_fillByThingKind_0.2.2.2.2.2.2.2.2.2.2.2.2.2.2.2
theorem bX0_fillByThingKind_26 : (decode cX0_fillByThingKind 26 = .ok (.iload 4, 2)) ∧ (decode cX0_fillByThingKind 28 = .ok (.iload_n 2, 1)) ∧ (decode cX0_fillByThingKind 29 = .ok (.iload_n 3, 1)) ∧ (decode cX0_fillByThingKind 30 = .ok (.invokestatic 29, 3)) ∧ (decode cX0_fillByThingKind 33 = .ok (.invokevirtual 25, 3)) ∧ (decode cX0_fillByThingKind 36 = .ok (.iinc 4 1, 3)) ∧ (decode cX0_fillByThingKind 39 = .ok (.goto (-31), 3)) ∧ (decode cX0_fillByThingKind 42 = .ok (.return_, 1)) := by decide +kernel
theorem dX0_fillByThingKind_26 : decode cX0_fillByThingKind 26 = .ok (.iload 4, 2) := bX0_fillByThingKind_26.1
theorem dX0_fillByThingKind_28 : decode cX0_fillByThingKind 28 = .ok (.iload_n 2, 1) := bX0_fillByThingKind_26.2.1
theorem dX0_fillByThingKind_29 : decode cX0_fillByThingKind 29 = .ok (.iload_n 3, 1) := bX0_fillByThingKind_26.2.2.1
theorem dX0_fillByThingKind_30 : decode cX0_fillByThingKind 30 = .ok (.invokestatic 29, 3) := bX0_fillByThingKind_26.2.2.2.1
theorem dX0_fillByThingKind_33 : decode cX0_fillByThingKind 33 = .ok (.invokevirtual 25, 3) := bX0_fillByThingKind_26.2.2.2.2.1
theorem dX0_fillByThingKind_36 : decode cX0_fillByThingKind 36 = .ok (.iinc 4 1, 3) := bX0_fillByThingKind_26.2.2.2.2.2.1
theorem dX0_fillByThingKind_39 : decode cX0_fillByThingKind 39 = .ok (.goto (-31), 3) := bX0_fillByThingKind_26.2.2.2.2.2.2.1
theorem dX0_fillByThingKind_42 : decode cX0_fillByThingKind 42 = .ok (.return_, 1) := bX0_fillByThingKind_26.2.2.2.2.2.2.2
theorem bX0_fillByOneKind_0 : (decode cX0_fillByOneKind 0 = .ok (.aload_n 0, 1)) ∧ (decode cX0_fillByOneKind 1 = .ok (.iconst 0, 1)) ∧ (decode cX0_fillByOneKind 2 = .ok (.putfield 15, 3)) ∧ (decode cX0_fillByOneKind 5 = .ok (.iconst 0, 1)) ∧ (decode cX0_fillByOneKind 6 = .ok (.istore 4, 2)) ∧ (decode cX0_fillByOneKind 8 = .ok (.iload 4, 2)) ∧ (decode cX0_fillByOneKind 10 = .ok (.bipush 6, 2)) ∧ (decode cX0_fillByOneKind 12 = .ok (.if_icmp .ge 30, 3)) ∧ (decode cX0_fillByOneKind 15 = .ok (.iload_n 1, 1)) ∧ (decode cX0_fillByOneKind 16 = .ok (.iload 4, 2)) ∧ (decode cX0_fillByOneKind 18 = .ok (.ishr, 1)) ∧ (decode cX0_fillByOneKind 19 = .ok (.iconst 1, 1)) ∧ (decode cX0_fillByOneKind 20 = .ok (.iand, 1)) ∧ (decode cX0_fillByOneKind 21 = .ok (.iconst 1, 1)) ∧ (decode cX0_fillByOneKind 22 = .ok (.if_icmp .ne 14, 3)) ∧ (decode cX0_fillByOneKind 25 = .ok (.aload_n 0, 1)) := by decide +kernel
theorem dX0_fillByOneKind_0 : decode cX0_fillByOneKind 0 = .ok (.aload_n 0, 1) := bX0_fillByOneKind_0.1
theorem dX0_fillByOneKind_1 : decode cX0_fillByOneKind 1 = .ok (.iconst 0, 1) := bX0_fillByOneKind_0.2.1
theorem dX0_fillByOneKind_2 : decode cX0_fillByOneKind 2 = .ok (.putfield 15, 3) := bX0_fillByOneKind_0.2.2.1
theorem dX0_fillByOneKind_5 : decode cX0_fillByOneKind 5 = .ok (.iconst 0, 1) := bX0_fillByOneKind_0.2.2.2.1
theorem dX0_fillByOneKind_6 : decode cX0_fillByOneKind 6 = .ok (.istore 4, 2) := bX0_fillByOneKind_0.2.2.2.2.1
theorem dX0_fillByOneKind_8 : decode cX0_fillByOneKind 8 = .ok (.iload 4, 2) := bX0_fillByOneKind_0.2.2.2.2.2.1
theorem dX0_fillByOneKind_10 : decode cX0_fillByOneKind 10 = .ok (.bipush 6, 2) := bX0_fillByOneKind_0.2.2.2.2.2.2.1
theorem dX0_fillByOneKind_12 : decode cX0_fillByOneKind 12 = .ok (.if_icmp .ge 30, 3) := bX0_fillByOneKind_0.2.2.2.2.2.2.2.1
theorem dX0_fillByOneKind_15 : decode cX0_fillByOneKind 15 = .ok (.iload_n 1, 1) := bX0_fillByOneKind_0.2.2.2.2.2.2.2.2.1
theorem dX0_fillByOneKind_16 : decode cX0_fillByOneKind 16 = .ok (.iload 4, 2) := bX0_fillByOneKind_0.2.2.2.2.2.2.2.2.2.1
theorem dX0_fillByOneKind_18 : decode cX0_fillByOneKind 18 = .ok (.ishr, 1) := bX0_fillByOneKind_0.2.2.2.2.2.2.2.2.2.2.1
theorem dX0_fillByOneKind_19 : decode cX0_fillByOneKind 19 = .ok (.iconst 1, 1) := bX0_fillByOneKind_0.2.2.2.2.2.2.2.2.2.2.2.1
theorem dX0_fillByOneKind_20 : decode cX0_fillByOneKind 20 = .ok (.iand, 1) := bX0_fillByOneKind_0.2.2.2.2.2.2.2.2.2.2.2.2.1
theorem dX0_fillByOneKind_21 : decode cX0_fillByOneKind 21 = .ok (.iconst 1, 1) := bX0_fillByOneKind_0.2.2.2.2.2.2.2.2.2.2.2.2.2.1
theorem dX0_fillByOneKind_22 : decode cX0_fillByOneKind 22 = .ok (.if_icmp .ne 14, 3) := bX0_fillByOneKind_0.2.2.2.2.2.2.2.2.2.2.2.2.2.2.1
theorem dX0_fillByOneKind_25 : decode cX0_fillByOneKind 25 = .ok (.aload_n 0, 1) := bX0_fillByOneKind_0.2.2.2.2.2.2.2.2.2.2.2.2.2.2.2
theorem bX0_fillByOneKind_26 : (decode cX0_fillByOneKind 26 = .ok (.iload 4, 2)) ∧ (decode cX0_fillByOneKind 28 = .ok (.iload_n 2, 1)) ∧ (decode cX0_fillByOneKind 29 = .ok (.iload_n 3, 1)) ∧ (decode cX0_fillByOneKind 30 = .ok (.invokestatic 19, 3)) ∧ (decode cX0_fillByOneKind 33 = .ok (.invokevirtual 25, 3)) ∧ (decode cX0_fillByOneKind 36 = .ok (.iinc 4 1, 3)) ∧ (decode cX0_fillByOneKind 39 = .ok (.goto (-31), 3)) ∧ (decode cX0_fillByOneKind 42 = .ok (.return_, 1)) := by decide +kernel
theorem dX0_fillByOneKind_26 : decode cX0_fillByOneKind 26 = .ok (.iload 4, 2) := bX0_fillByOneKind_26.1
theorem dX0_fillByOneKind_28 : decode cX0_fillByOneKind 28 = .ok (.iload_n 2, 1) := bX0_fillByOneKind_26.2.1
theorem dX0_fillByOneKind_29 : decode cX0_fillByOneKind 29 = .ok (.iload_n 3, 1) := bX0_fillByOneKind_26.2.2.1
theorem dX0_fillByOneKind_30 : decode cX0_fillByOneKind 30 = .ok (.invokestatic 19, 3) := bX0_fillByOneKind_26.2.2.2.1
theorem dX0_fillByOneKind_33 : decode cX0_fillByOneKind 33 = .ok (.invokevirtual 25, 3) := bX0_fillByOneKind_26.2.2.2.2.1
theorem dX0_fillByOneKind_36 : decode cX0_fillByOneKind 36 = .ok (.iinc 4 1, 3) := bX0_fillByOneKind_26.2.2.2.2.2.1
theorem dX0_fillByOneKind_39 : decode cX0_fillByOneKind 39 = .ok (.goto (-31), 3) := bX0_fillByOneKind_26.2.2.2.2.2.2.1
theorem dX0_fillByOneKind_42 : decode cX0_fillByOneKind 42 = .ok (.return_, 1) := bX0_fillByOneKind_26.2.2.2.2.2.2.2
theorem bX0_put_0 : (decode cX0_put 0 = .ok (.aload_n 0, 1)) ∧ (decode cX0_put 1 = .ok (.getfield 15, 3)) ∧ (decode cX0_put 4 = .ok (.bipush 9, 2)) ∧ (decode cX0_put 6 = .ok (.if_icmp .ge 23, 3)) ∧ (decode cX0_put 9 = .ok (.aload_n 0, 1)) ∧ (decode cX0_put 10 = .ok (.getfield 9, 3)) ∧ (decode cX0_put 13 = .ok (.aload_n 0, 1)) ∧ (decode cX0_put 14 = .ok (.getfield 15, 3)) ∧ (decode cX0_put 17 = .ok (.iload_n 1, 1)) ∧ (decode cX0_put 18 = .ok (.iastore, 1)) ∧ (decode cX0_put 19 = .ok (.aload_n 0, 1)) ∧ (decode cX0_put 20 = .ok (.dup, 1)) ∧ (decode cX0_put 21 = .ok (.getfield 15, 3)) ∧ (decode cX0_put 24 = .ok (.iconst 1, 1)) ∧ (decode cX0_put 25 = .ok (.iadd, 1)) ∧ (decode cX0_put 26 = .ok (.putfield 15, 3)) := by decide +kernel
theorem dX0_put_0 : decode cX0_put 0 = .ok (.aload_n 0, 1) := bX0_put_0.1
theorem dX0_put_1 : decode cX0_put 1 = .ok (.getfield 15, 3) := bX0_put_0.2.1
theorem dX0_put_4 : decode cX0_put 4 = .ok (.bipush 9, 2) := bX0_put_0.2.2.1
theorem dX0_put_6 : decode cX0_put 6 = .ok (.if_icmp .ge 23, 3) := bX0_put_0.2.2.2.1
theorem dX0_put_9 : decode cX0_put 9 = .ok (.aload_n 0, 1) := bX0_put_0.2.2.2.2.1
theorem dX0_put_10 : decode cX0_put 10 = .ok (.getfield 9, 3) := bX0_put_0.2.2.2.2.2.1
theorem dX0_put_13 : decode cX0_put 13 = .ok (.aload_n 0, 1) := bX0_put_0.2.2.2.2.2.2.1
theorem dX0_put_14 : decode cX0_put 14 = .ok (.getfield 15, 3) := bX0_put_0.2.2.2.2.2.2.2.1
theorem dX0_put_17 : decode cX0_put 17 = .ok (.iload_n 1, 1) := bX0_put_0.2.2.2.2.2.2.2.2.1
theorem dX0_put_18 : decode cX0_put 18 = .ok (.iastore, 1) := bX0_put_0.2.2.2.2.2.2.2.2.2.1
theorem dX0_put_19 : decode cX0_put 19 = .ok (.aload_n 0, 1) := bX0_put_0.2.2.2.2.2.2.2.2.2.2.1
theorem dX0_put_20 : decode cX0_put 20 = .ok (.dup, 1) := bX0_put_0.2.2.2.2.2.2.2.2.2.2.2.1
theorem dX0_put_21 : decode cX0_put 21 = .ok (.getfield 15, 3) := bX0_put_0.2.2.2.2.2.2.2.2.2.2.2.2.1
theorem dX0_put_24 : decode cX0_put 24 = .ok (.iconst 1, 1) := bX0_put_0.2.2.2.2.2.2.2.2.2.2.2.2.2.1
theorem dX0_put_25 : decode cX0_put 25 = .ok (.iadd, 1) := bX0_put_0.2.2.2.2.2.2.2.2.2.2.2.2.2.2.1
theorem dX0_put_26 : decode cX0_put 26 = .ok (.putfield 15, 3) := bX0_put_0.2.2.2.2.2.2.2.2.2.2.2.2.2.2.2
theorem dX0_put_29 : decode cX0_put 29 = .ok (.return_, 1) := by decide +kernel
theorem bX0_greaterPart_0 : (decode cX0_greaterPart 0 = .ok (.iconst 0, 1)) ∧ (decode cX0_greaterPart 1 = .ok (.istore_n 2, 1)) ∧ (decode cX0_greaterPart 2 = .ok (.iconst 0, 1)) ∧ (decode cX0_greaterPart 3 = .ok (.istore_n 3, 1)) ∧ (decode cX0_greaterPart 4 = .ok (.iload_n 3, 1)) ∧ (decode cX0_greaterPart 5 = .ok (.aload_n 0, 1)) ∧ (decode cX0_greaterPart 6 = .ok (.getfield 15, 3)) ∧ (decode cX0_greaterPart 9 = .ok (.if_icmp .ge 22, 3)) ∧ (decode cX0_greaterPart 12 = .ok (.aload_n 0, 1)) ∧ (decode cX0_greaterPart 13 = .ok (.getfield 9, 3)) ∧ (decode cX0_greaterPart 16 = .ok (.iload_n 3, 1)) ∧ (decode cX0_greaterPart 17 = .ok (.iaload, 1)) ∧ (decode cX0_greaterPart 18 = .ok (.iload_n 1, 1)) ∧ (decode cX0_greaterPart 19 = .ok (.if_icmp .lt 6, 3)) ∧ (decode cX0_greaterPart 22 = .ok (.iinc 2 1, 3)) ∧ (decode cX0_greaterPart 25 = .ok (.iinc 3 1, 3)) := by decide +kernel
theorem dX0_greaterPart_0 : decode cX0_greaterPart 0 = .ok (.iconst 0, 1) := bX0_greaterPart_0.1
theorem dX0_greaterPart_1 : decode cX0_greaterPart 1 = .ok (.istore_n 2, 1) := bX0_greaterPart_0.2.1
theorem dX0_greaterPart_2 : decode cX0_greaterPart 2 = .ok (.iconst 0, 1) := bX0_greaterPart_0.2.2.1
theorem dX0_greaterPart_3 : decode cX0_greaterPart 3 = .ok (.istore_n 3, 1) := bX0_greaterPart_0.2.2.2.1
theorem dX0_greaterPart_4 : decode cX0_greaterPart 4 = .ok (.iload_n 3, 1) := bX0_greaterPart_0.2.2.2.2.1
theorem dX0_greaterPart_5 : decode cX0_greaterPart 5 = .ok (.aload_n 0, 1) := bX0_greaterPart_0.2.2.2.2.2.1
theorem dX0_greaterPart_6 : decode cX0_greaterPart 6 = .ok (.getfield 15, 3) := bX0_greaterPart_0.2.2.2.2.2.2.1
theorem dX0_greaterPart_9 : decode cX0_greaterPart 9 = .ok (.if_icmp .ge 22, 3) := bX0_greaterPart_0.2.2.2.2.2.2.2.1
theorem dX0_greaterPart_12 : decode cX0_greaterPart 12 = .ok (.aload_n 0, 1) := bX0_greaterPart_0.2.2.2.2.2.2.2.2.1
theorem dX0_greaterPart_13 : decode cX0_greaterPart 13 = .ok (.getfield 9, 3) := bX0_greaterPart_0.2.2.2.2.2.2.2.2.2.1
theorem dX0_greaterPart_16 : decode cX0_greaterPart 16 = .ok (.iload_n 3, 1) := bX0_greaterPart_0.2.2.2.2.2.2.2.2.2.2.1
theorem dX0_greaterPart_17 : decode cX0_greaterPart 17 = .ok (.iaload, 1) := bX0_greaterPart_0.2.2.2.2.2.2.2.2.2.2.2.1
theorem dX0_greaterPart_18 : decode cX0_greaterPart 18 = .ok (.iload_n 1, 1) := bX0_greaterPart_0.2.2.2.2.2.2.2.2.2.2.2.2.1
theorem dX0_greaterPart_19 : decode cX0_greaterPart 19 = .ok (.if_icmp .lt 6, 3) := bX0_greaterPart_0.2.2.2.2.2.2.2.2.2.2.2.2.2.1
theorem dX0_greaterPart_22 : decode cX0_greaterPart 22 = .ok (.iinc 2 1, 3) := bX0_greaterPart_0.2.2.2.2.2.2.2.2.2.2.2.2.2.2.1
theorem dX0_greaterPart_25 : decode cX0_greaterPart 25 = .ok (.iinc 3 1, 3) := bX0_greaterPart_0.2.2.2.2.2.2.2.2.2.2.2.2.2.2.2
theorem bX0_greaterPart_28 : (decode cX0_greaterPart 28 = .ok (.goto (-24), 3)) ∧ (decode cX0_greaterPart 31 = .ok (.iload_n 2, 1)) ∧ (decode cX0_greaterPart 32 = .ok (.aload_n 0, 1)) ∧ (decode cX0_greaterPart 33 = .ok (.getfield 15, 3)) ∧ (decode cX0_greaterPart 36 = .ok (.iload_n 2, 1)) ∧ (decode cX0_greaterPart 37 = .ok (.isub, 1)) ∧ (decode cX0_greaterPart 38 = .ok (.invokestatic 32, 3)) ∧ (decode cX0_greaterPart 41 = .ok (.ireturn, 1)) := by decide +kernel
theorem dX0_greaterPart_28 : decode cX0_greaterPart 28 = .ok (.goto (-24), 3) := bX0_greaterPart_28.1
theorem dX0_greaterPart_31 : decode cX0_greaterPart 31 = .ok (.iload_n 2, 1) := bX0_greaterPart_28.2.1
theorem dX0_greaterPart_32 : decode cX0_greaterPart 32 = .ok (.aload_n 0, 1) := bX0_greaterPart_28.2.2.1
theorem dX0_greaterPart_33 : decode cX0_greaterPart 33 = .ok (.getfield 15, 3) := bX0_greaterPart_28.2.2.2.1
theorem dX0_greaterPart_36 : decode cX0_greaterPart 36 = .ok (.iload_n 2, 1) := bX0_greaterPart_28.2.2.2.2.1
theorem dX0_greaterPart_37 : decode cX0_greaterPart 37 = .ok (.isub, 1) := bX0_greaterPart_28.2.2.2.2.2.1
theorem dX0_greaterPart_38 : decode cX0_greaterPart 38 = .ok (.invokestatic 32, 3) := bX0_greaterPart_28.2.2.2.2.2.2.1
theorem dX0_greaterPart_41 : decode cX0_greaterPart 41 = .ok (.ireturn, 1) := bX0_greaterPart_28.2.2.2.2.2.2.2
theorem bX0_mostAlike_0 : (decode cX0_mostAlike 0 = .ok (.iconst 0, 1)) ∧ (decode cX0_mostAlike 1 = .ok (.istore_n 1, 1)) ∧ (decode cX0_mostAlike 2 = .ok (.iconst 0, 1)) ∧ (decode cX0_mostAlike 3 = .ok (.istore_n 2, 1)) ∧ (decode cX0_mostAlike 4 = .ok (.iload_n 2, 1)) ∧ (decode cX0_mostAlike 5 = .ok (.aload_n 0, 1)) ∧ (decode cX0_mostAlike 6 = .ok (.getfield 15, 3)) ∧ (decode cX0_mostAlike 9 = .ok (.if_icmp .ge 54, 3)) ∧ (decode cX0_mostAlike 12 = .ok (.iconst 0, 1)) ∧ (decode cX0_mostAlike 13 = .ok (.istore_n 3, 1)) ∧ (decode cX0_mostAlike 14 = .ok (.iconst 0, 1)) ∧ (decode cX0_mostAlike 15 = .ok (.istore 4, 2)) ∧ (decode cX0_mostAlike 17 = .ok (.iload 4, 2)) ∧ (decode cX0_mostAlike 19 = .ok (.aload_n 0, 1)) ∧ (decode cX0_mostAlike 20 = .ok (.getfield 15, 3)) ∧ (decode cX0_mostAlike 23 = .ok (.if_icmp .ge 28, 3)) := by decide +kernel
theorem dX0_mostAlike_0 : decode cX0_mostAlike 0 = .ok (.iconst 0, 1) := bX0_mostAlike_0.1
theorem dX0_mostAlike_1 : decode cX0_mostAlike 1 = .ok (.istore_n 1, 1) := bX0_mostAlike_0.2.1
theorem dX0_mostAlike_2 : decode cX0_mostAlike 2 = .ok (.iconst 0, 1) := bX0_mostAlike_0.2.2.1
theorem dX0_mostAlike_3 : decode cX0_mostAlike 3 = .ok (.istore_n 2, 1) := bX0_mostAlike_0.2.2.2.1
theorem dX0_mostAlike_4 : decode cX0_mostAlike 4 = .ok (.iload_n 2, 1) := bX0_mostAlike_0.2.2.2.2.1
theorem dX0_mostAlike_5 : decode cX0_mostAlike 5 = .ok (.aload_n 0, 1) := bX0_mostAlike_0.2.2.2.2.2.1
theorem dX0_mostAlike_6 : decode cX0_mostAlike 6 = .ok (.getfield 15, 3) := bX0_mostAlike_0.2.2.2.2.2.2.1
theorem dX0_mostAlike_9 : decode cX0_mostAlike 9 = .ok (.if_icmp .ge 54, 3) := bX0_mostAlike_0.2.2.2.2.2.2.2.1
theorem dX0_mostAlike_12 : decode cX0_mostAlike 12 = .ok (.iconst 0, 1) := bX0_mostAlike_0.2.2.2.2.2.2.2.2.1
theorem dX0_mostAlike_13 : decode cX0_mostAlike 13 = .ok (.istore_n 3, 1) := bX0_mostAlike_0.2.2.2.2.2.2.2.2.2.1
theorem dX0_mostAlike_14 : decode cX0_mostAlike 14 = .ok (.iconst 0, 1) := bX0_mostAlike_0.2.2.2.2.2.2.2.2.2.2.1
theorem dX0_mostAlike_15 : decode cX0_mostAlike 15 = .ok (.istore 4, 2) := bX0_mostAlike_0.2.2.2.2.2.2.2.2.2.2.2.1
theorem dX0_mostAlike_17 : decode cX0_mostAlike 17 = .ok (.iload 4, 2) := bX0_mostAlike_0.2.2.2.2.2.2.2.2.2.2.2.2.1
theorem dX0_mostAlike_19 : decode cX0_mostAlike 19 = .ok (.aload_n 0, 1) := bX0_mostAlike_0.2.2.2.2.2.2.2.2.2.2.2.2.2.1
theorem dX0_mostAlike_20 : decode cX0_mostAlike 20 = .ok (.getfield 15, 3) := bX0_mostAlike_0.2.2.2.2.2.2.2.2.2.2.2.2.2.2.1
theorem dX0_mostAlike_23 : decode cX0_mostAlike 23 = .ok (.if_icmp .ge 28, 3) := bX0_mostAlike_0.2.2.2.2.2.2.2.2.2.2.2.2.2.2.2
theorem bX0_mostAlike_26 : (decode cX0_mostAlike 26 = .ok (.aload_n 0, 1)) ∧ (decode cX0_mostAlike 27 = .ok (.getfield 9, 3)) ∧ (decode cX0_mostAlike 30 = .ok (.iload 4, 2)) ∧ (decode cX0_mostAlike 32 = .ok (.iaload, 1)) ∧ (decode cX0_mostAlike 33 = .ok (.aload_n 0, 1)) ∧ (decode cX0_mostAlike 34 = .ok (.getfield 9, 3)) ∧ (decode cX0_mostAlike 37 = .ok (.iload_n 2, 1)) ∧ (decode cX0_mostAlike 38 = .ok (.iaload, 1)) ∧ (decode cX0_mostAlike 39 = .ok (.if_icmp .ne 6, 3)) ∧ (decode cX0_mostAlike 42 = .ok (.iinc 3 1, 3)) ∧ (decode cX0_mostAlike 45 = .ok (.iinc 4 1, 3)) ∧ (decode cX0_mostAlike 48 = .ok (.goto (-31), 3)) ∧ (decode cX0_mostAlike 51 = .ok (.iload_n 1, 1)) ∧ (decode cX0_mostAlike 52 = .ok (.iload_n 3, 1)) ∧ (decode cX0_mostAlike 53 = .ok (.invokestatic 32, 3)) ∧ (decode cX0_mostAlike 56 = .ok (.istore_n 1, 1)) := by decide +kernel
theorem dX0_mostAlike_26 : decode cX0_mostAlike 26 = .ok (.aload_n 0, 1) := bX0_mostAlike_26.1
theorem dX0_mostAlike_27 : decode cX0_mostAlike 27 = .ok (.getfield 9, 3) := bX0_mostAlike_26.2.1
theorem dX0_mostAlike_30 : decode cX0_mostAlike 30 = .ok (.iload 4, 2) := bX0_mostAlike_26.2.2.1
theorem dX0_mostAlike_32 : decode cX0_mostAlike 32 = .ok (.iaload, 1) := bX0_mostAlike_26.2.2.2.1
theorem dX0_mostAlike_33 : decode cX0_mostAlike 33 = .ok (.aload_n 0, 1) := bX0_mostAlike_26.2.2.2.2.1
theorem dX0_mostAlike_34 : decode cX0_mostAlike 34 = .ok (.getfield 9, 3) := bX0_mostAlike_26.2.2.2.2.2.1
theorem dX0_mostAlike_37 : decode cX0_mostAlike 37 = .ok (.iload_n 2, 1) := bX0_mostAlike_26.2.2.2.2.2.2.1
theorem dX0_mostAlike_38 : decode cX0_mostAlike 38 = .ok (.iaload, 1) := bX0_mostAlike_26.2.2.2.2.2.2.2.1
theorem dX0_mostAlike_39 : decode cX0_mostAlike 39 = .ok (.if_icmp .ne 6, 3) := bX0_mostAlike_26.2.2.2.2.2.2.2.2.1
theorem dX0_mostAlike_42 : decode cX0_mostAlike 42 = .ok (.iinc 3 1, 3) := bX0_mostAlike_26.2.2.2.2.2.2.2.2.2.1
theorem dX0_mostAlike_45 : decode cX0_mostAlike 45 = .ok (.iinc 4 1, 3) := bX0_mostAlike_26.2.2.2.2.2.2.2.2.2.2.1
theorem dX0_mostAlike_48 : decode cX0_mostAlike 48 = .ok (.goto (-31), 3) := bX0_mostAlike_26.2.2.2.2.2.2.2.2.2.2.2.1
theorem dX0_mostAlike_51 : decode cX0_mostAlike 51 = .ok (.iload_n 1, 1) := bX0_mostAlike_26.2.2.2.2.2.2.2.2.2.2.2.2.1
theorem dX0_mostAlike_52 : decode cX0_mostAlike 52 = .ok (.iload_n 3, 1) := bX0_mostAlike_26.2.2.2.2.2.2.2.2.2.2.2.2.2.1
theorem dX0_mostAlike_53 : decode cX0_mostAlike 53 = .ok (.invokestatic 32, 3) := bX0_mostAlike_26.2.2.2.2.2.2.2.2.2.2.2.2.2.2.1
theorem dX0_mostAlike_56 : decode cX0_mostAlike 56 = .ok (.istore_n 1, 1) := bX0_mostAlike_26.2.2.2.2.2.2.2.2.2.2.2.2.2.2.2
theorem bX0_mostAlike_57 : (decode cX0_mostAlike 57 = .ok (.iinc 2 1, 3)) ∧ (decode cX0_mostAlike 60 = .ok (.goto (-56), 3)) ∧ (decode cX0_mostAlike 63 = .ok (.iload_n 1, 1)) ∧ (decode cX0_mostAlike 64 = .ok (.ireturn, 1)) := by decide +kernel
theorem dX0_mostAlike_57 : decode cX0_mostAlike 57 = .ok (.iinc 2 1, 3) := bX0_mostAlike_57.1
theorem dX0_mostAlike_60 : decode cX0_mostAlike 60 = .ok (.goto (-56), 3) := bX0_mostAlike_57.2.1
theorem dX0_mostAlike_63 : decode cX0_mostAlike 63 = .ok (.iload_n 1, 1) := bX0_mostAlike_57.2.2.1
theorem dX0_mostAlike_64 : decode cX0_mostAlike 64 = .ok (.ireturn, 1) := bX0_mostAlike_57.2.2.2
theorem bX1_init_0 : (decode cX1_init 0 = .ok (.aload_n 0, 1)) ∧ (decode cX1_init 1 = .ok (.invokespecial 3, 3)) ∧ (decode cX1_init 4 = .ok (.aload_n 0, 1)) ∧ (decode cX1_init 5 = .ok (.bipush 7, 2)) ∧ (decode cX1_init 7 = .ok (.newarray .int, 2)) ∧ (decode cX1_init 9 = .ok (.putfield 9, 3)) ∧ (decode cX1_init 12 = .ok (.aload_n 0, 1)) ∧ (decode cX1_init 13 = .ok (.sipush 896, 3)) ∧ (decode cX1_init 16 = .ok (.newarray .int, 2)) ∧ (decode cX1_init 18 = .ok (.putfield 15, 3)) ∧ (decode cX1_init 21 = .ok (.return_, 1)) := by decide +kernel
theorem dX1_init_0 : decode cX1_init 0 = .ok (.aload_n 0, 1) := bX1_init_0.1
theorem dX1_init_1 : decode cX1_init 1 = .ok (.invokespecial 3, 3) := bX1_init_0.2.1
theorem dX1_init_4 : decode cX1_init 4 = .ok (.aload_n 0, 1) := bX1_init_0.2.2.1
theorem dX1_init_5 : decode cX1_init 5 = .ok (.bipush 7, 2) := bX1_init_0.2.2.2.1
theorem dX1_init_7 : decode cX1_init 7 = .ok (.newarray .int, 2) := bX1_init_0.2.2.2.2.1
theorem dX1_init_9 : decode cX1_init 9 = .ok (.putfield 9, 3) := bX1_init_0.2.2.2.2.2.1
theorem dX1_init_12 : decode cX1_init 12 = .ok (.aload_n 0, 1) := bX1_init_0.2.2.2.2.2.2.1
theorem dX1_init_13 : decode cX1_init 13 = .ok (.sipush 896, 3) := bX1_init_0.2.2.2.2.2.2.2.1
theorem dX1_init_16 : decode cX1_init 16 = .ok (.newarray .int, 2) := bX1_init_0.2.2.2.2.2.2.2.2.1
theorem dX1_init_18 : decode cX1_init 18 = .ok (.putfield 15, 3) := bX1_init_0.2.2.2.2.2.2.2.2.2.1
theorem dX1_init_21 : decode cX1_init 21 = .ok (.return_, 1) := bX1_init_0.2.2.2.2.2.2.2.2.2.2
theorem bX1_fill_0 : (decode cX1_fill 0 = .ok (.aload_n 0, 1)) ∧ (decode cX1_fill 1 = .ok (.aload_n 1, 1)) ∧ (decode cX1_fill 2 = .ok (.getfield 18, 3)) ∧ (decode cX1_fill 5 = .ok (.putfield 24, 3)) ∧ (decode cX1_fill 8 = .ok (.aload_n 0, 1)) ∧ (decode cX1_fill 9 = .ok (.getfield 24, 3)) ∧ (decode cX1_fill 12 = .ok (.iconst 1, 1)) ∧ (decode cX1_fill 13 = .ok (.isub, 1)) ∧ (decode cX1_fill 14 = .ok (.istore_n 3, 1)) ∧ (decode cX1_fill 15 = .ok (.iload_n 3, 1)) ∧ (decode cX1_fill 16 = .ok (.ifCond .lt 61, 3)) ∧ (decode cX1_fill 19 = .ok (.aload_n 0, 1)) ∧ (decode cX1_fill 20 = .ok (.getfield 9, 3)) ∧ (decode cX1_fill 23 = .ok (.iload_n 3, 1)) ∧ (decode cX1_fill 24 = .ok (.aload_n 1, 1)) ∧ (decode cX1_fill 25 = .ok (.iload_n 3, 1)) := by decide +kernel
theorem dX1_fill_0 : decode cX1_fill 0 = .ok (.aload_n 0, 1) := bX1_fill_0.1
theorem dX1_fill_1 : decode cX1_fill 1 = .ok (.aload_n 1, 1) := bX1_fill_0.2.1
theorem dX1_fill_2 : decode cX1_fill 2 = .ok (.getfield 18, 3) := bX1_fill_0.2.2.1
theorem dX1_fill_5 : decode cX1_fill 5 = .ok (.putfield 24, 3) := bX1_fill_0.2.2.2.1
theorem dX1_fill_8 : decode cX1_fill 8 = .ok (.aload_n 0, 1) := bX1_fill_0.2.2.2.2.1
theorem dX1_fill_9 : decode cX1_fill 9 = .ok (.getfield 24, 3) := bX1_fill_0.2.2.2.2.2.1
theorem dX1_fill_12 : decode cX1_fill 12 = .ok (.iconst 1, 1) := bX1_fill_0.2.2.2.2.2.2.1
theorem dX1_fill_13 : decode cX1_fill 13 = .ok (.isub, 1) := bX1_fill_0.2.2.2.2.2.2.2.1
theorem dX1_fill_14 : decode cX1_fill 14 = .ok (.istore_n 3, 1) := bX1_fill_0.2.2.2.2.2.2.2.2.1
theorem dX1_fill_15 : decode cX1_fill 15 = .ok (.iload_n 3, 1) := bX1_fill_0.2.2.2.2.2.2.2.2.2.1
theorem dX1_fill_16 : decode cX1_fill 16 = .ok (.ifCond .lt 61, 3) := bX1_fill_0.2.2.2.2.2.2.2.2.2.2.1
theorem dX1_fill_19 : decode cX1_fill 19 = .ok (.aload_n 0, 1) := bX1_fill_0.2.2.2.2.2.2.2.2.2.2.2.1
theorem dX1_fill_20 : decode cX1_fill 20 = .ok (.getfield 9, 3) := bX1_fill_0.2.2.2.2.2.2.2.2.2.2.2.2.1
theorem dX1_fill_23 : decode cX1_fill 23 = .ok (.iload_n 3, 1) := bX1_fill_0.2.2.2.2.2.2.2.2.2.2.2.2.2.1
theorem dX1_fill_24 : decode cX1_fill 24 = .ok (.aload_n 1, 1) := bX1_fill_0.2.2.2.2.2.2.2.2.2.2.2.2.2.2.1
theorem dX1_fill_25 : decode cX1_fill 25 = .ok (.iload_n 3, 1) := bX1_fill_0.2.2.2.2.2.2.2.2.2.2.2.2.2.2.2
theorem bX1_fill_26 : (decode cX1_fill 26 = .ok (.iload_n 2, 1)) ∧ (decode cX1_fill 27 = .ok (.invokevirtual 25, 3)) ∧ (decode cX1_fill 30 = .ok (.iastore, 1)) ∧ (decode cX1_fill 31 = .ok (.iconst 0, 1)) ∧ (decode cX1_fill 32 = .ok (.istore 4, 2)) ∧ (decode cX1_fill 34 = .ok (.iload 4, 2)) ∧ (decode cX1_fill 36 = .ok (.iconst 1, 1)) ∧ (decode cX1_fill 37 = .ok (.aload_n 1, 1)) ∧ (decode cX1_fill 38 = .ok (.getfield 29, 3)) ∧ (decode cX1_fill 41 = .ok (.ishl, 1)) ∧ (decode cX1_fill 42 = .ok (.if_icmp .ge 29, 3)) ∧ (decode cX1_fill 45 = .ok (.aload_n 0, 1)) ∧ (decode cX1_fill 46 = .ok (.getfield 15, 3)) ∧ (decode cX1_fill 49 = .ok (.iload_n 3, 1)) ∧ (decode cX1_fill 50 = .ok (.sipush 128, 3)) ∧ (decode cX1_fill 53 = .ok (.imul, 1)) := by decide +kernel
theorem dX1_fill_26 : decode cX1_fill 26 = .ok (.iload_n 2, 1) := bX1_fill_26.1
theorem dX1_fill_27 : decode cX1_fill 27 = .ok (.invokevirtual 25, 3) := bX1_fill_26.2.1
theorem dX1_fill_30 : decode cX1_fill 30 = .ok (.iastore, 1) := bX1_fill_26.2.2.1
theorem dX1_fill_31 : decode cX1_fill 31 = .ok (.iconst 0, 1) := bX1_fill_26.2.2.2.1
theorem dX1_fill_32 : decode cX1_fill 32 = .ok (.istore 4, 2) := bX1_fill_26.2.2.2.2.1
theorem dX1_fill_34 : decode cX1_fill 34 = .ok (.iload 4, 2) := bX1_fill_26.2.2.2.2.2.1
theorem dX1_fill_36 : decode cX1_fill 36 = .ok (.iconst 1, 1) := bX1_fill_26.2.2.2.2.2.2.1
theorem dX1_fill_37 : decode cX1_fill 37 = .ok (.aload_n 1, 1) := bX1_fill_26.2.2.2.2.2.2.2.1
theorem dX1_fill_38 : decode cX1_fill 38 = .ok (.getfield 29, 3) := bX1_fill_26.2.2.2.2.2.2.2.2.1
theorem dX1_fill_41 : decode cX1_fill 41 = .ok (.ishl, 1) := bX1_fill_26.2.2.2.2.2.2.2.2.2.1
theorem dX1_fill_42 : decode cX1_fill 42 = .ok (.if_icmp .ge 29, 3) := bX1_fill_26.2.2.2.2.2.2.2.2.2.2.1
theorem dX1_fill_45 : decode cX1_fill 45 = .ok (.aload_n 0, 1) := bX1_fill_26.2.2.2.2.2.2.2.2.2.2.2.1
theorem dX1_fill_46 : decode cX1_fill 46 = .ok (.getfield 15, 3) := bX1_fill_26.2.2.2.2.2.2.2.2.2.2.2.2.1
theorem dX1_fill_49 : decode cX1_fill 49 = .ok (.iload_n 3, 1) := bX1_fill_26.2.2.2.2.2.2.2.2.2.2.2.2.2.1
theorem dX1_fill_50 : decode cX1_fill 50 = .ok (.sipush 128, 3) := bX1_fill_26.2.2.2.2.2.2.2.2.2.2.2.2.2.2.1
theorem dX1_fill_53 : decode cX1_fill 53 = .ok (.imul, 1) := bX1_fill_26.2.2.2.2.2.2.2.2.2.2.2.2.2.2.2
theorem bX1_fill_54 : (decode cX1_fill 54 = .ok (.iload 4, 2)) ∧ (decode cX1_fill 56 = .ok (.iadd, 1)) ∧ (decode cX1_fill 57 = .ok (.aload_n 0, 1)) ∧ (decode cX1_fill 58 = .ok (.iload_n 3, 1)) ∧ (decode cX1_fill 59 = .ok (.iload 4, 2)) ∧ (decode cX1_fill 61 = .ok (.invokevirtual 32, 3)) ∧ (decode cX1_fill 64 = .ok (.iastore, 1)) ∧ (decode cX1_fill 65 = .ok (.iinc 4 1, 3)) ∧ (decode cX1_fill 68 = .ok (.goto (-34), 3)) ∧ (decode cX1_fill 71 = .ok (.iinc 3 (-1), 3)) ∧ (decode cX1_fill 74 = .ok (.goto (-59), 3)) ∧ (decode cX1_fill 77 = .ok (.return_, 1)) := by decide +kernel
theorem dX1_fill_54 : decode cX1_fill 54 = .ok (.iload 4, 2) := bX1_fill_54.1
theorem dX1_fill_56 : decode cX1_fill 56 = .ok (.iadd, 1) := bX1_fill_54.2.1
theorem dX1_fill_57 : decode cX1_fill 57 = .ok (.aload_n 0, 1) := bX1_fill_54.2.2.1
theorem dX1_fill_58 : decode cX1_fill 58 = .ok (.iload_n 3, 1) := bX1_fill_54.2.2.2.1
theorem dX1_fill_59 : decode cX1_fill 59 = .ok (.iload 4, 2) := bX1_fill_54.2.2.2.2.1
theorem dX1_fill_61 : decode cX1_fill 61 = .ok (.invokevirtual 32, 3) := bX1_fill_54.2.2.2.2.2.1
theorem dX1_fill_64 : decode cX1_fill 64 = .ok (.iastore, 1) := bX1_fill_54.2.2.2.2.2.2.1
theorem dX1_fill_65 : decode cX1_fill 65 = .ok (.iinc 4 1, 3) := bX1_fill_54.2.2.2.2.2.2.2.1
theorem dX1_fill_68 : decode cX1_fill 68 = .ok (.goto (-34), 3) := bX1_fill_54.2.2.2.2.2.2.2.2.1
theorem dX1_fill_71 : decode cX1_fill 71 = .ok (.iinc 3 (-1), 3) := bX1_fill_54.2.2.2.2.2.2.2.2.2.1
theorem dX1_fill_74 : decode cX1_fill 74 = .ok (.goto (-59), 3) := bX1_fill_54.2.2.2.2.2.2.2.2.2.2.1
theorem dX1_fill_77 : decode cX1_fill 77 = .ok (.return_, 1) := bX1_fill_54.2.2.2.2.2.2.2.2.2.2.2
theorem bX1_best_0 : (decode cX1_best 0 = .ok (.aload_n 0, 1)) ∧ (decode cX1_best 1 = .ok (.iload_n 1, 1)) ∧ (decode cX1_best 2 = .ok (.iconst 1, 1)) ∧ (decode cX1_best 3 = .ok (.iadd, 1)) ∧ (decode cX1_best 4 = .ok (.iload_n 2, 1)) ∧ (decode cX1_best 5 = .ok (.invokevirtual 35, 3)) ∧ (decode cX1_best 8 = .ok (.istore_n 3, 1)) ∧ (decode cX1_best 9 = .ok (.aload_n 0, 1)) ∧ (decode cX1_best 10 = .ok (.getfield 9, 3)) ∧ (decode cX1_best 13 = .ok (.iload_n 1, 1)) ∧ (decode cX1_best 14 = .ok (.iaload, 1)) ∧ (decode cX1_best 15 = .ok (.iload_n 2, 1)) ∧ (decode cX1_best 16 = .ok (.iand, 1)) ∧ (decode cX1_best 17 = .ok (.istore 4, 2)) ∧ (decode cX1_best 19 = .ok (.iconst 0, 1)) ∧ (decode cX1_best 20 = .ok (.istore 5, 2)) := by decide +kernel
theorem dX1_best_0 : decode cX1_best 0 = .ok (.aload_n 0, 1) := bX1_best_0.1
theorem dX1_best_1 : decode cX1_best 1 = .ok (.iload_n 1, 1) := bX1_best_0.2.1
theorem dX1_best_2 : decode cX1_best 2 = .ok (.iconst 1, 1) := bX1_best_0.2.2.1
theorem dX1_best_3 : decode cX1_best 3 = .ok (.iadd, 1) := bX1_best_0.2.2.2.1
theorem dX1_best_4 : decode cX1_best 4 = .ok (.iload_n 2, 1) := bX1_best_0.2.2.2.2.1
theorem dX1_best_5 : decode cX1_best 5 = .ok (.invokevirtual 35, 3) := bX1_best_0.2.2.2.2.2.1
theorem dX1_best_8 : decode cX1_best 8 = .ok (.istore_n 3, 1) := bX1_best_0.2.2.2.2.2.2.1
theorem dX1_best_9 : decode cX1_best 9 = .ok (.aload_n 0, 1) := bX1_best_0.2.2.2.2.2.2.2.1
theorem dX1_best_10 : decode cX1_best 10 = .ok (.getfield 9, 3) := bX1_best_0.2.2.2.2.2.2.2.2.1
theorem dX1_best_13 : decode cX1_best 13 = .ok (.iload_n 1, 1) := bX1_best_0.2.2.2.2.2.2.2.2.2.1
theorem dX1_best_14 : decode cX1_best 14 = .ok (.iaload, 1) := bX1_best_0.2.2.2.2.2.2.2.2.2.2.1
theorem dX1_best_15 : decode cX1_best 15 = .ok (.iload_n 2, 1) := bX1_best_0.2.2.2.2.2.2.2.2.2.2.2.1
theorem dX1_best_16 : decode cX1_best 16 = .ok (.iand, 1) := bX1_best_0.2.2.2.2.2.2.2.2.2.2.2.2.1
theorem dX1_best_17 : decode cX1_best 17 = .ok (.istore 4, 2) := bX1_best_0.2.2.2.2.2.2.2.2.2.2.2.2.2.1
theorem dX1_best_19 : decode cX1_best 19 = .ok (.iconst 0, 1) := bX1_best_0.2.2.2.2.2.2.2.2.2.2.2.2.2.2.1
theorem dX1_best_20 : decode cX1_best 20 = .ok (.istore 5, 2) := bX1_best_0.2.2.2.2.2.2.2.2.2.2.2.2.2.2.2
theorem bX1_best_22 : (decode cX1_best 22 = .ok (.iload 5, 2)) ∧ (decode cX1_best 24 = .ok (.bipush 7, 2)) ∧ (decode cX1_best 26 = .ok (.if_icmp .ge 43, 3)) ∧ (decode cX1_best 29 = .ok (.iload 4, 2)) ∧ (decode cX1_best 31 = .ok (.iload 5, 2)) ∧ (decode cX1_best 33 = .ok (.ishr, 1)) ∧ (decode cX1_best 34 = .ok (.iconst 1, 1)) ∧ (decode cX1_best 35 = .ok (.iand, 1)) ∧ (decode cX1_best 36 = .ok (.iconst 1, 1)) ∧ (decode cX1_best 37 = .ok (.if_icmp .ne 26, 3)) ∧ (decode cX1_best 40 = .ok (.aload_n 0, 1)) ∧ (decode cX1_best 41 = .ok (.iload_n 1, 1)) ∧ (decode cX1_best 42 = .ok (.iconst 1, 1)) ∧ (decode cX1_best 43 = .ok (.iadd, 1)) ∧ (decode cX1_best 44 = .ok (.iload_n 2, 1)) ∧ (decode cX1_best 45 = .ok (.iconst 1, 1)) := by decide +kernel
theorem dX1_best_22 : decode cX1_best 22 = .ok (.iload 5, 2) := bX1_best_22.1
theorem dX1_best_24 : decode cX1_best 24 = .ok (.bipush 7, 2) := bX1_best_22.2.1
theorem dX1_best_26 : decode cX1_best 26 = .ok (.if_icmp .ge 43, 3) := bX1_best_22.2.2.1
theorem dX1_best_29 : decode cX1_best 29 = .ok (.iload 4, 2) := bX1_best_22.2.2.2.1
theorem dX1_best_31 : decode cX1_best 31 = .ok (.iload 5, 2) := bX1_best_22.2.2.2.2.1
theorem dX1_best_33 : decode cX1_best 33 = .ok (.ishr, 1) := bX1_best_22.2.2.2.2.2.1
theorem dX1_best_34 : decode cX1_best 34 = .ok (.iconst 1, 1) := bX1_best_22.2.2.2.2.2.2.1
theorem dX1_best_35 : decode cX1_best 35 = .ok (.iand, 1) := bX1_best_22.2.2.2.2.2.2.2.1
theorem dX1_best_36 : decode cX1_best 36 = .ok (.iconst 1, 1) := bX1_best_22.2.2.2.2.2.2.2.2.1
theorem dX1_best_37 : decode cX1_best 37 = .ok (.if_icmp .ne 26, 3) := bX1_best_22.2.2.2.2.2.2.2.2.2.1
theorem dX1_best_40 : decode cX1_best 40 = .ok (.aload_n 0, 1) := bX1_best_22.2.2.2.2.2.2.2.2.2.2.1
theorem dX1_best_41 : decode cX1_best 41 = .ok (.iload_n 1, 1) := bX1_best_22.2.2.2.2.2.2.2.2.2.2.2.1
theorem dX1_best_42 : decode cX1_best 42 = .ok (.iconst 1, 1) := bX1_best_22.2.2.2.2.2.2.2.2.2.2.2.2.1
theorem dX1_best_43 : decode cX1_best 43 = .ok (.iadd, 1) := bX1_best_22.2.2.2.2.2.2.2.2.2.2.2.2.2.1
theorem dX1_best_44 : decode cX1_best 44 = .ok (.iload_n 2, 1) := bX1_best_22.2.2.2.2.2.2.2.2.2.2.2.2.2.2.1
theorem dX1_best_45 : decode cX1_best 45 = .ok (.iconst 1, 1) := bX1_best_22.2.2.2.2.2.2.2.2.2.2.2.2.2.2.2
theorem bX1_best_46 : (decode cX1_best 46 = .ok (.iload 5, 2)) ∧ (decode cX1_best 48 = .ok (.ishl, 1)) ∧ (decode cX1_best 49 = .ok (.iconst (-1), 1)) ∧ (decode cX1_best 50 = .ok (.ixor, 1)) ∧ (decode cX1_best 51 = .ok (.iand, 1)) ∧ (decode cX1_best 52 = .ok (.invokevirtual 35, 3)) ∧ (decode cX1_best 55 = .ok (.iload_n 3, 1)) ∧ (decode cX1_best 56 = .ok (.if_icmp .ne 7, 3)) ∧ (decode cX1_best 59 = .ok (.iload_n 3, 1)) ∧ (decode cX1_best 60 = .ok (.iconst 1, 1)) ∧ (decode cX1_best 61 = .ok (.iadd, 1)) ∧ (decode cX1_best 62 = .ok (.ireturn, 1)) ∧ (decode cX1_best 63 = .ok (.iinc 5 1, 3)) ∧ (decode cX1_best 66 = .ok (.goto (-44), 3)) ∧ (decode cX1_best 69 = .ok (.iload_n 3, 1)) ∧ (decode cX1_best 70 = .ok (.ireturn, 1)) := by decide +kernel
theorem dX1_best_46 : decode cX1_best 46 = .ok (.iload 5, 2) := bX1_best_46.1
theorem dX1_best_48 : decode cX1_best 48 = .ok (.ishl, 1) := bX1_best_46.2.1
theorem dX1_best_49 : decode cX1_best 49 = .ok (.iconst (-1), 1) := bX1_best_46.2.2.1
theorem dX1_best_50 : decode cX1_best 50 = .ok (.ixor, 1) := bX1_best_46.2.2.2.1
theorem dX1_best_51 : decode cX1_best 51 = .ok (.iand, 1) := bX1_best_46.2.2.2.2.1
theorem dX1_best_52 : decode cX1_best 52 = .ok (.invokevirtual 35, 3) := bX1_best_46.2.2.2.2.2.1
theorem dX1_best_55 : decode cX1_best 55 = .ok (.iload_n 3, 1) := bX1_best_46.2.2.2.2.2.2.1
theorem dX1_best_56 : decode cX1_best 56 = .ok (.if_icmp .ne 7, 3) := bX1_best_46.2.2.2.2.2.2.2.1
theorem dX1_best_59 : decode cX1_best 59 = .ok (.iload_n 3, 1) := bX1_best_46.2.2.2.2.2.2.2.2.1
theorem dX1_best_60 : decode cX1_best 60 = .ok (.iconst 1, 1) := bX1_best_46.2.2.2.2.2.2.2.2.2.1
theorem dX1_best_61 : decode cX1_best 61 = .ok (.iadd, 1) := bX1_best_46.2.2.2.2.2.2.2.2.2.2.1
theorem dX1_best_62 : decode cX1_best 62 = .ok (.ireturn, 1) := bX1_best_46.2.2.2.2.2.2.2.2.2.2.2.1
theorem dX1_best_63 : decode cX1_best 63 = .ok (.iinc 5 1, 3) := bX1_best_46.2.2.2.2.2.2.2.2.2.2.2.2.1
theorem dX1_best_66 : decode cX1_best 66 = .ok (.goto (-44), 3) := bX1_best_46.2.2.2.2.2.2.2.2.2.2.2.2.2.1
theorem dX1_best_69 : decode cX1_best 69 = .ok (.iload_n 3, 1) := bX1_best_46.2.2.2.2.2.2.2.2.2.2.2.2.2.2.1
theorem dX1_best_70 : decode cX1_best 70 = .ok (.ireturn, 1) := bX1_best_46.2.2.2.2.2.2.2.2.2.2.2.2.2.2.2
theorem bX1_most_0 : (decode cX1_most 0 = .ok (.iload_n 1, 1)) ∧ (decode cX1_most 1 = .ok (.aload_n 0, 1)) ∧ (decode cX1_most 2 = .ok (.getfield 24, 3)) ∧ (decode cX1_most 5 = .ok (.if_icmp .ge 18, 3)) ∧ (decode cX1_most 8 = .ok (.aload_n 0, 1)) ∧ (decode cX1_most 9 = .ok (.getfield 15, 3)) ∧ (decode cX1_most 12 = .ok (.iload_n 1, 1)) ∧ (decode cX1_most 13 = .ok (.sipush 128, 3)) ∧ (decode cX1_most 16 = .ok (.imul, 1)) ∧ (decode cX1_most 17 = .ok (.iload_n 2, 1)) ∧ (decode cX1_most 18 = .ok (.iadd, 1)) ∧ (decode cX1_most 19 = .ok (.iaload, 1)) ∧ (decode cX1_most 20 = .ok (.goto 4, 3)) ∧ (decode cX1_most 23 = .ok (.iconst 0, 1)) ∧ (decode cX1_most 24 = .ok (.ireturn, 1)) := by decide +kernel
theorem dX1_most_0 : decode cX1_most 0 = .ok (.iload_n 1, 1) := bX1_most_0.1
theorem dX1_most_1 : decode cX1_most 1 = .ok (.aload_n 0, 1) := bX1_most_0.2.1
theorem dX1_most_2 : decode cX1_most 2 = .ok (.getfield 24, 3) := bX1_most_0.2.2.1
theorem dX1_most_5 : decode cX1_most 5 = .ok (.if_icmp .ge 18, 3) := bX1_most_0.2.2.2.1
theorem dX1_most_8 : decode cX1_most 8 = .ok (.aload_n 0, 1) := bX1_most_0.2.2.2.2.1
theorem dX1_most_9 : decode cX1_most 9 = .ok (.getfield 15, 3) := bX1_most_0.2.2.2.2.2.1
theorem dX1_most_12 : decode cX1_most 12 = .ok (.iload_n 1, 1) := bX1_most_0.2.2.2.2.2.2.1
theorem dX1_most_13 : decode cX1_most 13 = .ok (.sipush 128, 3) := bX1_most_0.2.2.2.2.2.2.2.1
theorem dX1_most_16 : decode cX1_most 16 = .ok (.imul, 1) := bX1_most_0.2.2.2.2.2.2.2.2.1
theorem dX1_most_17 : decode cX1_most 17 = .ok (.iload_n 2, 1) := bX1_most_0.2.2.2.2.2.2.2.2.2.1
theorem dX1_most_18 : decode cX1_most 18 = .ok (.iadd, 1) := bX1_most_0.2.2.2.2.2.2.2.2.2.2.1
theorem dX1_most_19 : decode cX1_most 19 = .ok (.iaload, 1) := bX1_most_0.2.2.2.2.2.2.2.2.2.2.2.1
theorem dX1_most_20 : decode cX1_most 20 = .ok (.goto 4, 3) := bX1_most_0.2.2.2.2.2.2.2.2.2.2.2.2.1
theorem dX1_most_23 : decode cX1_most 23 = .ok (.iconst 0, 1) := bX1_most_0.2.2.2.2.2.2.2.2.2.2.2.2.2.1
theorem dX1_most_24 : decode cX1_most 24 = .ok (.ireturn, 1) := bX1_most_0.2.2.2.2.2.2.2.2.2.2.2.2.2.2
theorem bX1_firstThingOf_0 : (decode cX1_firstThingOf 0 = .ok (.iload_n 2, 1)) ∧ (decode cX1_firstThingOf 1 = .ok (.istore_n 3, 1)) ∧ (decode cX1_firstThingOf 2 = .ok (.iconst (-1), 1)) ∧ (decode cX1_firstThingOf 3 = .ok (.istore 4, 2)) ∧ (decode cX1_firstThingOf 5 = .ok (.iconst 0, 1)) ∧ (decode cX1_firstThingOf 6 = .ok (.istore 5, 2)) ∧ (decode cX1_firstThingOf 8 = .ok (.iload 5, 2)) ∧ (decode cX1_firstThingOf 10 = .ok (.iload_n 1, 1)) ∧ (decode cX1_firstThingOf 11 = .ok (.if_icmp .gt 33, 3)) ∧ (decode cX1_firstThingOf 14 = .ok (.aload_n 0, 1)) ∧ (decode cX1_firstThingOf 15 = .ok (.iload 5, 2)) ∧ (decode cX1_firstThingOf 17 = .ok (.iload_n 3, 1)) ∧ (decode cX1_firstThingOf 18 = .ok (.invokevirtual 38, 3)) ∧ (decode cX1_firstThingOf 21 = .ok (.istore 4, 2)) ∧ (decode cX1_firstThingOf 23 = .ok (.iload 4, 2)) ∧ (decode cX1_firstThingOf 25 = .ok (.iconst (-1), 1)) := by decide +kernel
theorem dX1_firstThingOf_0 : decode cX1_firstThingOf 0 = .ok (.iload_n 2, 1) := bX1_firstThingOf_0.1
theorem dX1_firstThingOf_1 : decode cX1_firstThingOf 1 = .ok (.istore_n 3, 1) := bX1_firstThingOf_0.2.1
theorem dX1_firstThingOf_2 : decode cX1_firstThingOf 2 = .ok (.iconst (-1), 1) := bX1_firstThingOf_0.2.2.1
theorem dX1_firstThingOf_3 : decode cX1_firstThingOf 3 = .ok (.istore 4, 2) := bX1_firstThingOf_0.2.2.2.1
theorem dX1_firstThingOf_5 : decode cX1_firstThingOf 5 = .ok (.iconst 0, 1) := bX1_firstThingOf_0.2.2.2.2.1
theorem dX1_firstThingOf_6 : decode cX1_firstThingOf 6 = .ok (.istore 5, 2) := bX1_firstThingOf_0.2.2.2.2.2.1
theorem dX1_firstThingOf_8 : decode cX1_firstThingOf 8 = .ok (.iload 5, 2) := bX1_firstThingOf_0.2.2.2.2.2.2.1
theorem dX1_firstThingOf_10 : decode cX1_firstThingOf 10 = .ok (.iload_n 1, 1) := bX1_firstThingOf_0.2.2.2.2.2.2.2.1
theorem dX1_firstThingOf_11 : decode cX1_firstThingOf 11 = .ok (.if_icmp .gt 33, 3) := bX1_firstThingOf_0.2.2.2.2.2.2.2.2.1
theorem dX1_firstThingOf_14 : decode cX1_firstThingOf 14 = .ok (.aload_n 0, 1) := bX1_firstThingOf_0.2.2.2.2.2.2.2.2.2.1
theorem dX1_firstThingOf_15 : decode cX1_firstThingOf 15 = .ok (.iload 5, 2) := bX1_firstThingOf_0.2.2.2.2.2.2.2.2.2.2.1
theorem dX1_firstThingOf_17 : decode cX1_firstThingOf 17 = .ok (.iload_n 3, 1) := bX1_firstThingOf_0.2.2.2.2.2.2.2.2.2.2.2.1
theorem dX1_firstThingOf_18 : decode cX1_firstThingOf 18 = .ok (.invokevirtual 38, 3) := bX1_firstThingOf_0.2.2.2.2.2.2.2.2.2.2.2.2.1
theorem dX1_firstThingOf_21 : decode cX1_firstThingOf 21 = .ok (.istore 4, 2) := bX1_firstThingOf_0.2.2.2.2.2.2.2.2.2.2.2.2.2.1
theorem dX1_firstThingOf_23 : decode cX1_firstThingOf 23 = .ok (.iload 4, 2) := bX1_firstThingOf_0.2.2.2.2.2.2.2.2.2.2.2.2.2.2.1
theorem dX1_firstThingOf_25 : decode cX1_firstThingOf 25 = .ok (.iconst (-1), 1) := bX1_firstThingOf_0.2.2.2.2.2.2.2.2.2.2.2.2.2.2.2
theorem bX1_firstThingOf_26 : (decode cX1_firstThingOf 26 = .ok (.if_icmp .eq 12, 3)) ∧ (decode cX1_firstThingOf 29 = .ok (.iload_n 3, 1)) ∧ (decode cX1_firstThingOf 30 = .ok (.iconst 1, 1)) ∧ (decode cX1_firstThingOf 31 = .ok (.iload 4, 2)) ∧ (decode cX1_firstThingOf 33 = .ok (.ishl, 1)) ∧ (decode cX1_firstThingOf 34 = .ok (.iconst (-1), 1)) ∧ (decode cX1_firstThingOf 35 = .ok (.ixor, 1)) ∧ (decode cX1_firstThingOf 36 = .ok (.iand, 1)) ∧ (decode cX1_firstThingOf 37 = .ok (.istore_n 3, 1)) ∧ (decode cX1_firstThingOf 38 = .ok (.iinc 5 1, 3)) ∧ (decode cX1_firstThingOf 41 = .ok (.goto (-33), 3)) ∧ (decode cX1_firstThingOf 44 = .ok (.iload 4, 2)) ∧ (decode cX1_firstThingOf 46 = .ok (.ireturn, 1)) := by decide +kernel
theorem dX1_firstThingOf_26 : decode cX1_firstThingOf 26 = .ok (.if_icmp .eq 12, 3) := bX1_firstThingOf_26.1
theorem dX1_firstThingOf_29 : decode cX1_firstThingOf 29 = .ok (.iload_n 3, 1) := bX1_firstThingOf_26.2.1
theorem dX1_firstThingOf_30 : decode cX1_firstThingOf 30 = .ok (.iconst 1, 1) := bX1_firstThingOf_26.2.2.1
theorem dX1_firstThingOf_31 : decode cX1_firstThingOf 31 = .ok (.iload 4, 2) := bX1_firstThingOf_26.2.2.2.1
theorem dX1_firstThingOf_33 : decode cX1_firstThingOf 33 = .ok (.ishl, 1) := bX1_firstThingOf_26.2.2.2.2.1
theorem dX1_firstThingOf_34 : decode cX1_firstThingOf 34 = .ok (.iconst (-1), 1) := bX1_firstThingOf_26.2.2.2.2.2.1
theorem dX1_firstThingOf_35 : decode cX1_firstThingOf 35 = .ok (.ixor, 1) := bX1_firstThingOf_26.2.2.2.2.2.2.1
theorem dX1_firstThingOf_36 : decode cX1_firstThingOf 36 = .ok (.iand, 1) := bX1_firstThingOf_26.2.2.2.2.2.2.2.1
theorem dX1_firstThingOf_37 : decode cX1_firstThingOf 37 = .ok (.istore_n 3, 1) := bX1_firstThingOf_26.2.2.2.2.2.2.2.2.1
theorem dX1_firstThingOf_38 : decode cX1_firstThingOf 38 = .ok (.iinc 5 1, 3) := bX1_firstThingOf_26.2.2.2.2.2.2.2.2.2.1
theorem dX1_firstThingOf_41 : decode cX1_firstThingOf 41 = .ok (.goto (-33), 3) := bX1_firstThingOf_26.2.2.2.2.2.2.2.2.2.2.1
theorem dX1_firstThingOf_44 : decode cX1_firstThingOf 44 = .ok (.iload 4, 2) := bX1_firstThingOf_26.2.2.2.2.2.2.2.2.2.2.2.1
theorem dX1_firstThingOf_46 : decode cX1_firstThingOf 46 = .ok (.ireturn, 1) := bX1_firstThingOf_26.2.2.2.2.2.2.2.2.2.2.2.2
theorem bX1_firstThing_0 : (decode cX1_firstThing 0 = .ok (.aload_n 0, 1)) ∧ (decode cX1_firstThing 1 = .ok (.iload_n 1, 1)) ∧ (decode cX1_firstThing 2 = .ok (.iload_n 2, 1)) ∧ (decode cX1_firstThing 3 = .ok (.invokevirtual 35, 3)) ∧ (decode cX1_firstThing 6 = .ok (.istore_n 3, 1)) ∧ (decode cX1_firstThing 7 = .ok (.aload_n 0, 1)) ∧ (decode cX1_firstThing 8 = .ok (.iload_n 1, 1)) ∧ (decode cX1_firstThing 9 = .ok (.iconst 1, 1)) ∧ (decode cX1_firstThing 10 = .ok (.iadd, 1)) ∧ (decode cX1_firstThing 11 = .ok (.iload_n 2, 1)) ∧ (decode cX1_firstThing 12 = .ok (.invokevirtual 35, 3)) ∧ (decode cX1_firstThing 15 = .ok (.iload_n 3, 1)) ∧ (decode cX1_firstThing 16 = .ok (.if_icmp .ne 5, 3)) ∧ (decode cX1_firstThing 19 = .ok (.iconst (-1), 1)) ∧ (decode cX1_firstThing 20 = .ok (.ireturn, 1)) ∧ (decode cX1_firstThing 21 = .ok (.aload_n 0, 1)) := by decide +kernel
theorem dX1_firstThing_0 : decode cX1_firstThing 0 = .ok (.aload_n 0, 1) := bX1_firstThing_0.1
theorem dX1_firstThing_1 : decode cX1_firstThing 1 = .ok (.iload_n 1, 1) := bX1_firstThing_0.2.1
theorem dX1_firstThing_2 : decode cX1_firstThing 2 = .ok (.iload_n 2, 1) := bX1_firstThing_0.2.2.1
theorem dX1_firstThing_3 : decode cX1_firstThing 3 = .ok (.invokevirtual 35, 3) := bX1_firstThing_0.2.2.2.1
theorem dX1_firstThing_6 : decode cX1_firstThing 6 = .ok (.istore_n 3, 1) := bX1_firstThing_0.2.2.2.2.1
theorem dX1_firstThing_7 : decode cX1_firstThing 7 = .ok (.aload_n 0, 1) := bX1_firstThing_0.2.2.2.2.2.1
theorem dX1_firstThing_8 : decode cX1_firstThing 8 = .ok (.iload_n 1, 1) := bX1_firstThing_0.2.2.2.2.2.2.1
theorem dX1_firstThing_9 : decode cX1_firstThing 9 = .ok (.iconst 1, 1) := bX1_firstThing_0.2.2.2.2.2.2.2.1
theorem dX1_firstThing_10 : decode cX1_firstThing 10 = .ok (.iadd, 1) := bX1_firstThing_0.2.2.2.2.2.2.2.2.1
theorem dX1_firstThing_11 : decode cX1_firstThing 11 = .ok (.iload_n 2, 1) := bX1_firstThing_0.2.2.2.2.2.2.2.2.2.1
theorem dX1_firstThing_12 : decode cX1_firstThing 12 = .ok (.invokevirtual 35, 3) := bX1_firstThing_0.2.2.2.2.2.2.2.2.2.2.1
theorem dX1_firstThing_15 : decode cX1_firstThing 15 = .ok (.iload_n 3, 1) := bX1_firstThing_0.2.2.2.2.2.2.2.2.2.2.2.1
theorem dX1_firstThing_16 : decode cX1_firstThing 16 = .ok (.if_icmp .ne 5, 3) := bX1_firstThing_0.2.2.2.2.2.2.2.2.2.2.2.2.1
theorem dX1_firstThing_19 : decode cX1_firstThing 19 = .ok (.iconst (-1), 1) := bX1_firstThing_0.2.2.2.2.2.2.2.2.2.2.2.2.2.1
theorem dX1_firstThing_20 : decode cX1_firstThing 20 = .ok (.ireturn, 1) := bX1_firstThing_0.2.2.2.2.2.2.2.2.2.2.2.2.2.2.1
theorem dX1_firstThing_21 : decode cX1_firstThing 21 = .ok (.aload_n 0, 1) := bX1_firstThing_0.2.2.2.2.2.2.2.2.2.2.2.2.2.2.2
theorem bX1_firstThing_22 : (decode cX1_firstThing 22 = .ok (.getfield 9, 3)) ∧ (decode cX1_firstThing 25 = .ok (.iload_n 1, 1)) ∧ (decode cX1_firstThing 26 = .ok (.iaload, 1)) ∧ (decode cX1_firstThing 27 = .ok (.iload_n 2, 1)) ∧ (decode cX1_firstThing 28 = .ok (.iand, 1)) ∧ (decode cX1_firstThing 29 = .ok (.istore 4, 2)) ∧ (decode cX1_firstThing 31 = .ok (.iconst 0, 1)) ∧ (decode cX1_firstThing 32 = .ok (.istore 5, 2)) ∧ (decode cX1_firstThing 34 = .ok (.iload 5, 2)) ∧ (decode cX1_firstThing 36 = .ok (.bipush 7, 2)) ∧ (decode cX1_firstThing 38 = .ok (.if_icmp .ge 44, 3)) ∧ (decode cX1_firstThing 41 = .ok (.iload 4, 2)) ∧ (decode cX1_firstThing 43 = .ok (.iload 5, 2)) ∧ (decode cX1_firstThing 45 = .ok (.ishr, 1)) ∧ (decode cX1_firstThing 46 = .ok (.iconst 1, 1)) ∧ (decode cX1_firstThing 47 = .ok (.iand, 1)) := by decide +kernel
theorem dX1_firstThing_22 : decode cX1_firstThing 22 = .ok (.getfield 9, 3) := bX1_firstThing_22.1
theorem dX1_firstThing_25 : decode cX1_firstThing 25 = .ok (.iload_n 1, 1) := bX1_firstThing_22.2.1
theorem dX1_firstThing_26 : decode cX1_firstThing 26 = .ok (.iaload, 1) := bX1_firstThing_22.2.2.1
theorem dX1_firstThing_27 : decode cX1_firstThing 27 = .ok (.iload_n 2, 1) := bX1_firstThing_22.2.2.2.1
theorem dX1_firstThing_28 : decode cX1_firstThing 28 = .ok (.iand, 1) := bX1_firstThing_22.2.2.2.2.1
theorem dX1_firstThing_29 : decode cX1_firstThing 29 = .ok (.istore 4, 2) := bX1_firstThing_22.2.2.2.2.2.1
theorem dX1_firstThing_31 : decode cX1_firstThing 31 = .ok (.iconst 0, 1) := bX1_firstThing_22.2.2.2.2.2.2.1
theorem dX1_firstThing_32 : decode cX1_firstThing 32 = .ok (.istore 5, 2) := bX1_firstThing_22.2.2.2.2.2.2.2.1
theorem dX1_firstThing_34 : decode cX1_firstThing 34 = .ok (.iload 5, 2) := bX1_firstThing_22.2.2.2.2.2.2.2.2.1
theorem dX1_firstThing_36 : decode cX1_firstThing 36 = .ok (.bipush 7, 2) := bX1_firstThing_22.2.2.2.2.2.2.2.2.2.1
theorem dX1_firstThing_38 : decode cX1_firstThing 38 = .ok (.if_icmp .ge 44, 3) := bX1_firstThing_22.2.2.2.2.2.2.2.2.2.2.1
theorem dX1_firstThing_41 : decode cX1_firstThing 41 = .ok (.iload 4, 2) := bX1_firstThing_22.2.2.2.2.2.2.2.2.2.2.2.1
theorem dX1_firstThing_43 : decode cX1_firstThing 43 = .ok (.iload 5, 2) := bX1_firstThing_22.2.2.2.2.2.2.2.2.2.2.2.2.1
theorem dX1_firstThing_45 : decode cX1_firstThing 45 = .ok (.ishr, 1) := bX1_firstThing_22.2.2.2.2.2.2.2.2.2.2.2.2.2.1
theorem dX1_firstThing_46 : decode cX1_firstThing 46 = .ok (.iconst 1, 1) := bX1_firstThing_22.2.2.2.2.2.2.2.2.2.2.2.2.2.2.1
theorem dX1_firstThing_47 : decode cX1_firstThing 47 = .ok (.iand, 1) := bX1_firstThing_22.2.2.2.2.2.2.2.2.2.2.2.2.2.2.2
theorem bX1_firstThing_48 : (decode cX1_firstThing 48 = .ok (.iconst 1, 1)) ∧ (decode cX1_firstThing 49 = .ok (.if_icmp .ne 27, 3)) ∧ (decode cX1_firstThing 52 = .ok (.aload_n 0, 1)) ∧ (decode cX1_firstThing 53 = .ok (.iload_n 1, 1)) ∧ (decode cX1_firstThing 54 = .ok (.iconst 1, 1)) ∧ (decode cX1_firstThing 55 = .ok (.iadd, 1)) ∧ (decode cX1_firstThing 56 = .ok (.iload_n 2, 1)) ∧ (decode cX1_firstThing 57 = .ok (.iconst 1, 1)) ∧ (decode cX1_firstThing 58 = .ok (.iload 5, 2)) ∧ (decode cX1_firstThing 60 = .ok (.ishl, 1)) ∧ (decode cX1_firstThing 61 = .ok (.iconst (-1), 1)) ∧ (decode cX1_firstThing 62 = .ok (.ixor, 1)) ∧ (decode cX1_firstThing 63 = .ok (.iand, 1)) ∧ (decode cX1_firstThing 64 = .ok (.invokevirtual 35, 3)) ∧ (decode cX1_firstThing 67 = .ok (.iconst 1, 1)) ∧ (decode cX1_firstThing 68 = .ok (.iadd, 1)) := by decide +kernel
theorem dX1_firstThing_48 : decode cX1_firstThing 48 = .ok (.iconst 1, 1) := bX1_firstThing_48.1
theorem dX1_firstThing_49 : decode cX1_firstThing 49 = .ok (.if_icmp .ne 27, 3) := bX1_firstThing_48.2.1
theorem dX1_firstThing_52 : decode cX1_firstThing 52 = .ok (.aload_n 0, 1) := bX1_firstThing_48.2.2.1
theorem dX1_firstThing_53 : decode cX1_firstThing 53 = .ok (.iload_n 1, 1) := bX1_firstThing_48.2.2.2.1
theorem dX1_firstThing_54 : decode cX1_firstThing 54 = .ok (.iconst 1, 1) := bX1_firstThing_48.2.2.2.2.1
theorem dX1_firstThing_55 : decode cX1_firstThing 55 = .ok (.iadd, 1) := bX1_firstThing_48.2.2.2.2.2.1
theorem dX1_firstThing_56 : decode cX1_firstThing 56 = .ok (.iload_n 2, 1) := bX1_firstThing_48.2.2.2.2.2.2.1
theorem dX1_firstThing_57 : decode cX1_firstThing 57 = .ok (.iconst 1, 1) := bX1_firstThing_48.2.2.2.2.2.2.2.1
theorem dX1_firstThing_58 : decode cX1_firstThing 58 = .ok (.iload 5, 2) := bX1_firstThing_48.2.2.2.2.2.2.2.2.1
theorem dX1_firstThing_60 : decode cX1_firstThing 60 = .ok (.ishl, 1) := bX1_firstThing_48.2.2.2.2.2.2.2.2.2.1
theorem dX1_firstThing_61 : decode cX1_firstThing 61 = .ok (.iconst (-1), 1) := bX1_firstThing_48.2.2.2.2.2.2.2.2.2.2.1
theorem dX1_firstThing_62 : decode cX1_firstThing 62 = .ok (.ixor, 1) := bX1_firstThing_48.2.2.2.2.2.2.2.2.2.2.2.1
theorem dX1_firstThing_63 : decode cX1_firstThing 63 = .ok (.iand, 1) := bX1_firstThing_48.2.2.2.2.2.2.2.2.2.2.2.2.1
theorem dX1_firstThing_64 : decode cX1_firstThing 64 = .ok (.invokevirtual 35, 3) := bX1_firstThing_48.2.2.2.2.2.2.2.2.2.2.2.2.2.1
theorem dX1_firstThing_67 : decode cX1_firstThing 67 = .ok (.iconst 1, 1) := bX1_firstThing_48.2.2.2.2.2.2.2.2.2.2.2.2.2.2.1
theorem dX1_firstThing_68 : decode cX1_firstThing 68 = .ok (.iadd, 1) := bX1_firstThing_48.2.2.2.2.2.2.2.2.2.2.2.2.2.2.2
theorem bX1_firstThing_69 : (decode cX1_firstThing 69 = .ok (.iload_n 3, 1)) ∧ (decode cX1_firstThing 70 = .ok (.if_icmp .ne 6, 3)) ∧ (decode cX1_firstThing 73 = .ok (.iload 5, 2)) ∧ (decode cX1_firstThing 75 = .ok (.ireturn, 1)) ∧ (decode cX1_firstThing 76 = .ok (.iinc 5 1, 3)) ∧ (decode cX1_firstThing 79 = .ok (.goto (-45), 3)) ∧ (decode cX1_firstThing 82 = .ok (.iconst (-1), 1)) ∧ (decode cX1_firstThing 83 = .ok (.ireturn, 1)) := by decide +kernel
theorem dX1_firstThing_69 : decode cX1_firstThing 69 = .ok (.iload_n 3, 1) := bX1_firstThing_69.1
theorem dX1_firstThing_70 : decode cX1_firstThing 70 = .ok (.if_icmp .ne 6, 3) := bX1_firstThing_69.2.1
theorem dX1_firstThing_73 : decode cX1_firstThing 73 = .ok (.iload 5, 2) := bX1_firstThing_69.2.2.1
theorem dX1_firstThing_75 : decode cX1_firstThing 75 = .ok (.ireturn, 1) := bX1_firstThing_69.2.2.2.1
theorem dX1_firstThing_76 : decode cX1_firstThing 76 = .ok (.iinc 5 1, 3) := bX1_firstThing_69.2.2.2.2.1
theorem dX1_firstThing_79 : decode cX1_firstThing 79 = .ok (.goto (-45), 3) := bX1_firstThing_69.2.2.2.2.2.1
theorem dX1_firstThing_82 : decode cX1_firstThing 82 = .ok (.iconst (-1), 1) := bX1_firstThing_69.2.2.2.2.2.2.1
theorem dX1_firstThing_83 : decode cX1_firstThing 83 = .ok (.ireturn, 1) := bX1_firstThing_69.2.2.2.2.2.2.2
theorem bX2_init_0 : (decode cX2_init 0 = .ok (.aload_n 0, 1)) ∧ (decode cX2_init 1 = .ok (.invokespecial 3, 3)) ∧ (decode cX2_init 4 = .ok (.aload_n 0, 1)) ∧ (decode cX2_init 5 = .ok (.bipush 7, 2)) ∧ (decode cX2_init 7 = .ok (.newarray .int, 2)) ∧ (decode cX2_init 9 = .ok (.putfield 9, 3)) ∧ (decode cX2_init 12 = .ok (.aload_n 0, 1)) ∧ (decode cX2_init 13 = .ok (.bipush 7, 2)) ∧ (decode cX2_init 15 = .ok (.newarray .int, 2)) ∧ (decode cX2_init 17 = .ok (.putfield 15, 3)) ∧ (decode cX2_init 20 = .ok (.iconst 0, 1)) ∧ (decode cX2_init 21 = .ok (.istore_n 1, 1)) ∧ (decode cX2_init 22 = .ok (.iload_n 1, 1)) ∧ (decode cX2_init 23 = .ok (.bipush 7, 2)) ∧ (decode cX2_init 25 = .ok (.if_icmp .ge 16, 3)) ∧ (decode cX2_init 28 = .ok (.aload_n 0, 1)) := by decide +kernel
theorem dX2_init_0 : decode cX2_init 0 = .ok (.aload_n 0, 1) := bX2_init_0.1
theorem dX2_init_1 : decode cX2_init 1 = .ok (.invokespecial 3, 3) := bX2_init_0.2.1
theorem dX2_init_4 : decode cX2_init 4 = .ok (.aload_n 0, 1) := bX2_init_0.2.2.1
theorem dX2_init_5 : decode cX2_init 5 = .ok (.bipush 7, 2) := bX2_init_0.2.2.2.1
theorem dX2_init_7 : decode cX2_init 7 = .ok (.newarray .int, 2) := bX2_init_0.2.2.2.2.1
theorem dX2_init_9 : decode cX2_init 9 = .ok (.putfield 9, 3) := bX2_init_0.2.2.2.2.2.1
theorem dX2_init_12 : decode cX2_init 12 = .ok (.aload_n 0, 1) := bX2_init_0.2.2.2.2.2.2.1
theorem dX2_init_13 : decode cX2_init 13 = .ok (.bipush 7, 2) := bX2_init_0.2.2.2.2.2.2.2.1
theorem dX2_init_15 : decode cX2_init 15 = .ok (.newarray .int, 2) := bX2_init_0.2.2.2.2.2.2.2.2.1
theorem dX2_init_17 : decode cX2_init 17 = .ok (.putfield 15, 3) := bX2_init_0.2.2.2.2.2.2.2.2.2.1
theorem dX2_init_20 : decode cX2_init 20 = .ok (.iconst 0, 1) := bX2_init_0.2.2.2.2.2.2.2.2.2.2.1
theorem dX2_init_21 : decode cX2_init 21 = .ok (.istore_n 1, 1) := bX2_init_0.2.2.2.2.2.2.2.2.2.2.2.1
theorem dX2_init_22 : decode cX2_init 22 = .ok (.iload_n 1, 1) := bX2_init_0.2.2.2.2.2.2.2.2.2.2.2.2.1
theorem dX2_init_23 : decode cX2_init 23 = .ok (.bipush 7, 2) := bX2_init_0.2.2.2.2.2.2.2.2.2.2.2.2.2.1
theorem dX2_init_25 : decode cX2_init 25 = .ok (.if_icmp .ge 16, 3) := bX2_init_0.2.2.2.2.2.2.2.2.2.2.2.2.2.2.1
theorem dX2_init_28 : decode cX2_init 28 = .ok (.aload_n 0, 1) := bX2_init_0.2.2.2.2.2.2.2.2.2.2.2.2.2.2.2
theorem bX2_init_29 : (decode cX2_init 29 = .ok (.getfield 15, 3)) ∧ (decode cX2_init 32 = .ok (.iload_n 1, 1)) ∧ (decode cX2_init 33 = .ok (.iconst (-1), 1)) ∧ (decode cX2_init 34 = .ok (.iastore, 1)) ∧ (decode cX2_init 35 = .ok (.iinc 1 1, 3)) ∧ (decode cX2_init 38 = .ok (.goto (-16), 3)) ∧ (decode cX2_init 41 = .ok (.return_, 1)) := by decide +kernel
theorem dX2_init_29 : decode cX2_init 29 = .ok (.getfield 15, 3) := bX2_init_29.1
theorem dX2_init_32 : decode cX2_init 32 = .ok (.iload_n 1, 1) := bX2_init_29.2.1
theorem dX2_init_33 : decode cX2_init 33 = .ok (.iconst (-1), 1) := bX2_init_29.2.2.1
theorem dX2_init_34 : decode cX2_init 34 = .ok (.iastore, 1) := bX2_init_29.2.2.2.1
theorem dX2_init_35 : decode cX2_init 35 = .ok (.iinc 1 1, 3) := bX2_init_29.2.2.2.2.1
theorem dX2_init_38 : decode cX2_init 38 = .ok (.goto (-16), 3) := bX2_init_29.2.2.2.2.2.1
theorem dX2_init_41 : decode cX2_init 41 = .ok (.return_, 1) := bX2_init_29.2.2.2.2.2.2
theorem bX2_copyFrom_0 : (decode cX2_copyFrom 0 = .ok (.iconst 0, 1)) ∧ (decode cX2_copyFrom 1 = .ok (.istore_n 2, 1)) ∧ (decode cX2_copyFrom 2 = .ok (.iload_n 2, 1)) ∧ (decode cX2_copyFrom 3 = .ok (.bipush 7, 2)) ∧ (decode cX2_copyFrom 5 = .ok (.if_icmp .ge 33, 3)) ∧ (decode cX2_copyFrom 8 = .ok (.aload_n 0, 1)) ∧ (decode cX2_copyFrom 9 = .ok (.getfield 9, 3)) ∧ (decode cX2_copyFrom 12 = .ok (.iload_n 2, 1)) ∧ (decode cX2_copyFrom 13 = .ok (.aload_n 1, 1)) ∧ (decode cX2_copyFrom 14 = .ok (.getfield 9, 3)) ∧ (decode cX2_copyFrom 17 = .ok (.iload_n 2, 1)) ∧ (decode cX2_copyFrom 18 = .ok (.iaload, 1)) ∧ (decode cX2_copyFrom 19 = .ok (.iastore, 1)) ∧ (decode cX2_copyFrom 20 = .ok (.aload_n 0, 1)) ∧ (decode cX2_copyFrom 21 = .ok (.getfield 15, 3)) ∧ (decode cX2_copyFrom 24 = .ok (.iload_n 2, 1)) := by decide +kernel
theorem dX2_copyFrom_0 : decode cX2_copyFrom 0 = .ok (.iconst 0, 1) := bX2_copyFrom_0.1
theorem dX2_copyFrom_1 : decode cX2_copyFrom 1 = .ok (.istore_n 2, 1) := bX2_copyFrom_0.2.1
theorem dX2_copyFrom_2 : decode cX2_copyFrom 2 = .ok (.iload_n 2, 1) := bX2_copyFrom_0.2.2.1
theorem dX2_copyFrom_3 : decode cX2_copyFrom 3 = .ok (.bipush 7, 2) := bX2_copyFrom_0.2.2.2.1
theorem dX2_copyFrom_5 : decode cX2_copyFrom 5 = .ok (.if_icmp .ge 33, 3) := bX2_copyFrom_0.2.2.2.2.1
theorem dX2_copyFrom_8 : decode cX2_copyFrom 8 = .ok (.aload_n 0, 1) := bX2_copyFrom_0.2.2.2.2.2.1
theorem dX2_copyFrom_9 : decode cX2_copyFrom 9 = .ok (.getfield 9, 3) := bX2_copyFrom_0.2.2.2.2.2.2.1
theorem dX2_copyFrom_12 : decode cX2_copyFrom 12 = .ok (.iload_n 2, 1) := bX2_copyFrom_0.2.2.2.2.2.2.2.1
theorem dX2_copyFrom_13 : decode cX2_copyFrom 13 = .ok (.aload_n 1, 1) := bX2_copyFrom_0.2.2.2.2.2.2.2.2.1
theorem dX2_copyFrom_14 : decode cX2_copyFrom 14 = .ok (.getfield 9, 3) := bX2_copyFrom_0.2.2.2.2.2.2.2.2.2.1
theorem dX2_copyFrom_17 : decode cX2_copyFrom 17 = .ok (.iload_n 2, 1) := bX2_copyFrom_0.2.2.2.2.2.2.2.2.2.2.1
theorem dX2_copyFrom_18 : decode cX2_copyFrom 18 = .ok (.iaload, 1) := bX2_copyFrom_0.2.2.2.2.2.2.2.2.2.2.2.1
theorem dX2_copyFrom_19 : decode cX2_copyFrom 19 = .ok (.iastore, 1) := bX2_copyFrom_0.2.2.2.2.2.2.2.2.2.2.2.2.1
theorem dX2_copyFrom_20 : decode cX2_copyFrom 20 = .ok (.aload_n 0, 1) := bX2_copyFrom_0.2.2.2.2.2.2.2.2.2.2.2.2.2.1
theorem dX2_copyFrom_21 : decode cX2_copyFrom 21 = .ok (.getfield 15, 3) := bX2_copyFrom_0.2.2.2.2.2.2.2.2.2.2.2.2.2.2.1
theorem dX2_copyFrom_24 : decode cX2_copyFrom 24 = .ok (.iload_n 2, 1) := bX2_copyFrom_0.2.2.2.2.2.2.2.2.2.2.2.2.2.2.2
theorem bX2_copyFrom_25 : (decode cX2_copyFrom 25 = .ok (.aload_n 1, 1)) ∧ (decode cX2_copyFrom 26 = .ok (.getfield 15, 3)) ∧ (decode cX2_copyFrom 29 = .ok (.iload_n 2, 1)) ∧ (decode cX2_copyFrom 30 = .ok (.iaload, 1)) ∧ (decode cX2_copyFrom 31 = .ok (.iastore, 1)) ∧ (decode cX2_copyFrom 32 = .ok (.iinc 2 1, 3)) ∧ (decode cX2_copyFrom 35 = .ok (.goto (-33), 3)) ∧ (decode cX2_copyFrom 38 = .ok (.aload_n 0, 1)) ∧ (decode cX2_copyFrom 39 = .ok (.aload_n 1, 1)) ∧ (decode cX2_copyFrom 40 = .ok (.getfield 18, 3)) ∧ (decode cX2_copyFrom 43 = .ok (.putfield 18, 3)) ∧ (decode cX2_copyFrom 46 = .ok (.aload_n 0, 1)) ∧ (decode cX2_copyFrom 47 = .ok (.aload_n 1, 1)) ∧ (decode cX2_copyFrom 48 = .ok (.getfield 22, 3)) ∧ (decode cX2_copyFrom 51 = .ok (.putfield 22, 3)) ∧ (decode cX2_copyFrom 54 = .ok (.return_, 1)) := by decide +kernel
theorem dX2_copyFrom_25 : decode cX2_copyFrom 25 = .ok (.aload_n 1, 1) := bX2_copyFrom_25.1
theorem dX2_copyFrom_26 : decode cX2_copyFrom 26 = .ok (.getfield 15, 3) := bX2_copyFrom_25.2.1
theorem dX2_copyFrom_29 : decode cX2_copyFrom 29 = .ok (.iload_n 2, 1) := bX2_copyFrom_25.2.2.1
theorem dX2_copyFrom_30 : decode cX2_copyFrom 30 = .ok (.iaload, 1) := bX2_copyFrom_25.2.2.2.1
theorem dX2_copyFrom_31 : decode cX2_copyFrom 31 = .ok (.iastore, 1) := bX2_copyFrom_25.2.2.2.2.1
theorem dX2_copyFrom_32 : decode cX2_copyFrom 32 = .ok (.iinc 2 1, 3) := bX2_copyFrom_25.2.2.2.2.2.1
theorem dX2_copyFrom_35 : decode cX2_copyFrom 35 = .ok (.goto (-33), 3) := bX2_copyFrom_25.2.2.2.2.2.2.1
theorem dX2_copyFrom_38 : decode cX2_copyFrom 38 = .ok (.aload_n 0, 1) := bX2_copyFrom_25.2.2.2.2.2.2.2.1
theorem dX2_copyFrom_39 : decode cX2_copyFrom 39 = .ok (.aload_n 1, 1) := bX2_copyFrom_25.2.2.2.2.2.2.2.2.1
theorem dX2_copyFrom_40 : decode cX2_copyFrom 40 = .ok (.getfield 18, 3) := bX2_copyFrom_25.2.2.2.2.2.2.2.2.2.1
theorem dX2_copyFrom_43 : decode cX2_copyFrom 43 = .ok (.putfield 18, 3) := bX2_copyFrom_25.2.2.2.2.2.2.2.2.2.2.1
theorem dX2_copyFrom_46 : decode cX2_copyFrom 46 = .ok (.aload_n 0, 1) := bX2_copyFrom_25.2.2.2.2.2.2.2.2.2.2.2.1
theorem dX2_copyFrom_47 : decode cX2_copyFrom 47 = .ok (.aload_n 1, 1) := bX2_copyFrom_25.2.2.2.2.2.2.2.2.2.2.2.2.1
theorem dX2_copyFrom_48 : decode cX2_copyFrom 48 = .ok (.getfield 22, 3) := bX2_copyFrom_25.2.2.2.2.2.2.2.2.2.2.2.2.2.1
theorem dX2_copyFrom_51 : decode cX2_copyFrom 51 = .ok (.putfield 22, 3) := bX2_copyFrom_25.2.2.2.2.2.2.2.2.2.2.2.2.2.2.1
theorem dX2_copyFrom_54 : decode cX2_copyFrom 54 = .ok (.return_, 1) := bX2_copyFrom_25.2.2.2.2.2.2.2.2.2.2.2.2.2.2.2
theorem bX2_isHere_0 : (decode cX2_isHere 0 = .ok (.aload_n 0, 1)) ∧ (decode cX2_isHere 1 = .ok (.getfield 18, 3)) ∧ (decode cX2_isHere 4 = .ok (.iload_n 1, 1)) ∧ (decode cX2_isHere 5 = .ok (.ishr, 1)) ∧ (decode cX2_isHere 6 = .ok (.iconst 1, 1)) ∧ (decode cX2_isHere 7 = .ok (.iand, 1)) ∧ (decode cX2_isHere 8 = .ok (.iconst 1, 1)) ∧ (decode cX2_isHere 9 = .ok (.if_icmp .ne 7, 3)) ∧ (decode cX2_isHere 12 = .ok (.iconst 1, 1)) ∧ (decode cX2_isHere 13 = .ok (.goto 4, 3)) ∧ (decode cX2_isHere 16 = .ok (.iconst 0, 1)) ∧ (decode cX2_isHere 17 = .ok (.ireturn, 1)) := by decide +kernel
theorem dX2_isHere_0 : decode cX2_isHere 0 = .ok (.aload_n 0, 1) := bX2_isHere_0.1
theorem dX2_isHere_1 : decode cX2_isHere 1 = .ok (.getfield 18, 3) := bX2_isHere_0.2.1
theorem dX2_isHere_4 : decode cX2_isHere 4 = .ok (.iload_n 1, 1) := bX2_isHere_0.2.2.1
theorem dX2_isHere_5 : decode cX2_isHere 5 = .ok (.ishr, 1) := bX2_isHere_0.2.2.2.1
theorem dX2_isHere_6 : decode cX2_isHere 6 = .ok (.iconst 1, 1) := bX2_isHere_0.2.2.2.2.1
theorem dX2_isHere_7 : decode cX2_isHere 7 = .ok (.iand, 1) := bX2_isHere_0.2.2.2.2.2.1
theorem dX2_isHere_8 : decode cX2_isHere 8 = .ok (.iconst 1, 1) := bX2_isHere_0.2.2.2.2.2.2.1
theorem dX2_isHere_9 : decode cX2_isHere 9 = .ok (.if_icmp .ne 7, 3) := bX2_isHere_0.2.2.2.2.2.2.2.1
theorem dX2_isHere_12 : decode cX2_isHere 12 = .ok (.iconst 1, 1) := bX2_isHere_0.2.2.2.2.2.2.2.2.1
theorem dX2_isHere_13 : decode cX2_isHere 13 = .ok (.goto 4, 3) := bX2_isHere_0.2.2.2.2.2.2.2.2.2.1
theorem dX2_isHere_16 : decode cX2_isHere 16 = .ok (.iconst 0, 1) := bX2_isHere_0.2.2.2.2.2.2.2.2.2.2.1
theorem dX2_isHere_17 : decode cX2_isHere 17 = .ok (.ireturn, 1) := bX2_isHere_0.2.2.2.2.2.2.2.2.2.2.2
theorem bX2_countHere_0 : (decode cX2_countHere 0 = .ok (.aload_n 0, 1)) ∧ (decode cX2_countHere 1 = .ok (.getfield 18, 3)) ∧ (decode cX2_countHere 4 = .ok (.invokestatic 25, 3)) ∧ (decode cX2_countHere 7 = .ok (.ireturn, 1)) := by decide +kernel
theorem dX2_countHere_0 : decode cX2_countHere 0 = .ok (.aload_n 0, 1) := bX2_countHere_0.1
theorem dX2_countHere_1 : decode cX2_countHere 1 = .ok (.getfield 18, 3) := bX2_countHere_0.2.1
theorem dX2_countHere_4 : decode cX2_countHere 4 = .ok (.invokestatic 25, 3) := bX2_countHere_0.2.2.1
theorem dX2_countHere_7 : decode cX2_countHere 7 = .ok (.ireturn, 1) := bX2_countHere_0.2.2.2
theorem bX2_lose_0 : (decode cX2_lose 0 = .ok (.aload_n 0, 1)) ∧ (decode cX2_lose 1 = .ok (.dup, 1)) ∧ (decode cX2_lose 2 = .ok (.getfield 18, 3)) ∧ (decode cX2_lose 5 = .ok (.iconst 1, 1)) ∧ (decode cX2_lose 6 = .ok (.iload_n 1, 1)) ∧ (decode cX2_lose 7 = .ok (.ishl, 1)) ∧ (decode cX2_lose 8 = .ok (.iconst (-1), 1)) ∧ (decode cX2_lose 9 = .ok (.ixor, 1)) ∧ (decode cX2_lose 10 = .ok (.iand, 1)) ∧ (decode cX2_lose 11 = .ok (.putfield 18, 3)) ∧ (decode cX2_lose 14 = .ok (.aload_n 0, 1)) ∧ (decode cX2_lose 15 = .ok (.getfield 15, 3)) ∧ (decode cX2_lose 18 = .ok (.iload_n 1, 1)) ∧ (decode cX2_lose 19 = .ok (.iconst (-1), 1)) ∧ (decode cX2_lose 20 = .ok (.iastore, 1)) ∧ (decode cX2_lose 21 = .ok (.return_, 1)) := by decide +kernel
theorem dX2_lose_0 : decode cX2_lose 0 = .ok (.aload_n 0, 1) := bX2_lose_0.1
theorem dX2_lose_1 : decode cX2_lose 1 = .ok (.dup, 1) := bX2_lose_0.2.1
theorem dX2_lose_2 : decode cX2_lose 2 = .ok (.getfield 18, 3) := bX2_lose_0.2.2.1
theorem dX2_lose_5 : decode cX2_lose 5 = .ok (.iconst 1, 1) := bX2_lose_0.2.2.2.1
theorem dX2_lose_6 : decode cX2_lose 6 = .ok (.iload_n 1, 1) := bX2_lose_0.2.2.2.2.1
theorem dX2_lose_7 : decode cX2_lose 7 = .ok (.ishl, 1) := bX2_lose_0.2.2.2.2.2.1
theorem dX2_lose_8 : decode cX2_lose 8 = .ok (.iconst (-1), 1) := bX2_lose_0.2.2.2.2.2.2.1
theorem dX2_lose_9 : decode cX2_lose 9 = .ok (.ixor, 1) := bX2_lose_0.2.2.2.2.2.2.2.1
theorem dX2_lose_10 : decode cX2_lose 10 = .ok (.iand, 1) := bX2_lose_0.2.2.2.2.2.2.2.2.1
theorem dX2_lose_11 : decode cX2_lose 11 = .ok (.putfield 18, 3) := bX2_lose_0.2.2.2.2.2.2.2.2.2.1
theorem dX2_lose_14 : decode cX2_lose 14 = .ok (.aload_n 0, 1) := bX2_lose_0.2.2.2.2.2.2.2.2.2.2.1
theorem dX2_lose_15 : decode cX2_lose 15 = .ok (.getfield 15, 3) := bX2_lose_0.2.2.2.2.2.2.2.2.2.2.2.1
theorem dX2_lose_18 : decode cX2_lose 18 = .ok (.iload_n 1, 1) := bX2_lose_0.2.2.2.2.2.2.2.2.2.2.2.2.1
theorem dX2_lose_19 : decode cX2_lose 19 = .ok (.iconst (-1), 1) := bX2_lose_0.2.2.2.2.2.2.2.2.2.2.2.2.2.1
theorem dX2_lose_20 : decode cX2_lose 20 = .ok (.iastore, 1) := bX2_lose_0.2.2.2.2.2.2.2.2.2.2.2.2.2.2.1
theorem dX2_lose_21 : decode cX2_lose 21 = .ok (.return_, 1) := bX2_lose_0.2.2.2.2.2.2.2.2.2.2.2.2.2.2.2
theorem bX2_growOlder_0 : (decode cX2_growOlder 0 = .ok (.aload_n 0, 1)) ∧ (decode cX2_growOlder 1 = .ok (.getfield 9, 3)) ∧ (decode cX2_growOlder 4 = .ok (.iload_n 1, 1)) ∧ (decode cX2_growOlder 5 = .ok (.bipush 99, 2)) ∧ (decode cX2_growOlder 7 = .ok (.aload_n 0, 1)) ∧ (decode cX2_growOlder 8 = .ok (.getfield 9, 3)) ∧ (decode cX2_growOlder 11 = .ok (.iload_n 1, 1)) ∧ (decode cX2_growOlder 12 = .ok (.iaload, 1)) ∧ (decode cX2_growOlder 13 = .ok (.iconst 1, 1)) ∧ (decode cX2_growOlder 14 = .ok (.iadd, 1)) ∧ (decode cX2_growOlder 15 = .ok (.invokestatic 31, 3)) ∧ (decode cX2_growOlder 18 = .ok (.iastore, 1)) ∧ (decode cX2_growOlder 19 = .ok (.return_, 1)) := by decide +kernel
theorem dX2_growOlder_0 : decode cX2_growOlder 0 = .ok (.aload_n 0, 1) := bX2_growOlder_0.1
theorem dX2_growOlder_1 : decode cX2_growOlder 1 = .ok (.getfield 9, 3) := bX2_growOlder_0.2.1
theorem dX2_growOlder_4 : decode cX2_growOlder 4 = .ok (.iload_n 1, 1) := bX2_growOlder_0.2.2.1
theorem dX2_growOlder_5 : decode cX2_growOlder 5 = .ok (.bipush 99, 2) := bX2_growOlder_0.2.2.2.1
theorem dX2_growOlder_7 : decode cX2_growOlder 7 = .ok (.aload_n 0, 1) := bX2_growOlder_0.2.2.2.2.1
theorem dX2_growOlder_8 : decode cX2_growOlder 8 = .ok (.getfield 9, 3) := bX2_growOlder_0.2.2.2.2.2.1
theorem dX2_growOlder_11 : decode cX2_growOlder 11 = .ok (.iload_n 1, 1) := bX2_growOlder_0.2.2.2.2.2.2.1
theorem dX2_growOlder_12 : decode cX2_growOlder 12 = .ok (.iaload, 1) := bX2_growOlder_0.2.2.2.2.2.2.2.1
theorem dX2_growOlder_13 : decode cX2_growOlder 13 = .ok (.iconst 1, 1) := bX2_growOlder_0.2.2.2.2.2.2.2.2.1
theorem dX2_growOlder_14 : decode cX2_growOlder 14 = .ok (.iadd, 1) := bX2_growOlder_0.2.2.2.2.2.2.2.2.2.1
theorem dX2_growOlder_15 : decode cX2_growOlder 15 = .ok (.invokestatic 31, 3) := bX2_growOlder_0.2.2.2.2.2.2.2.2.2.2.1
theorem dX2_growOlder_18 : decode cX2_growOlder 18 = .ok (.iastore, 1) := bX2_growOlder_0.2.2.2.2.2.2.2.2.2.2.2.1
theorem dX2_growOlder_19 : decode cX2_growOlder 19 = .ok (.return_, 1) := bX2_growOlder_0.2.2.2.2.2.2.2.2.2.2.2.2
theorem bX3_init_0 : (decode cX3_init 0 = .ok (.aload_n 0, 1)) ∧ (decode cX3_init 1 = .ok (.invokespecial 3, 3)) ∧ (decode cX3_init 4 = .ok (.aload_n 0, 1)) ∧ (decode cX3_init 5 = .ok (.sipush 150, 3)) ∧ (decode cX3_init 8 = .ok (.newarray .int, 2)) ∧ (decode cX3_init 10 = .ok (.putfield 9, 3)) ∧ (decode cX3_init 13 = .ok (.aload_n 0, 1)) ∧ (decode cX3_init 14 = .ok (.new 15, 3)) ∧ (decode cX3_init 17 = .ok (.dup, 1)) ∧ (decode cX3_init 18 = .ok (.invokespecial 17, 3)) ∧ (decode cX3_init 21 = .ok (.putfield 18, 3)) ∧ (decode cX3_init 24 = .ok (.return_, 1)) := by decide +kernel
theorem dX3_init_0 : decode cX3_init 0 = .ok (.aload_n 0, 1) := bX3_init_0.1
theorem dX3_init_1 : decode cX3_init 1 = .ok (.invokespecial 3, 3) := bX3_init_0.2.1
theorem dX3_init_4 : decode cX3_init 4 = .ok (.aload_n 0, 1) := bX3_init_0.2.2.1
theorem dX3_init_5 : decode cX3_init 5 = .ok (.sipush 150, 3) := bX3_init_0.2.2.2.1
theorem dX3_init_8 : decode cX3_init 8 = .ok (.newarray .int, 2) := bX3_init_0.2.2.2.2.1
theorem dX3_init_10 : decode cX3_init 10 = .ok (.putfield 9, 3) := bX3_init_0.2.2.2.2.2.1
theorem dX3_init_13 : decode cX3_init 13 = .ok (.aload_n 0, 1) := bX3_init_0.2.2.2.2.2.2.1
theorem dX3_init_14 : decode cX3_init 14 = .ok (.new 15, 3) := bX3_init_0.2.2.2.2.2.2.2.1
theorem dX3_init_17 : decode cX3_init 17 = .ok (.dup, 1) := bX3_init_0.2.2.2.2.2.2.2.2.1
theorem dX3_init_18 : decode cX3_init 18 = .ok (.invokespecial 17, 3) := bX3_init_0.2.2.2.2.2.2.2.2.2.1
theorem dX3_init_21 : decode cX3_init 21 = .ok (.putfield 18, 3) := bX3_init_0.2.2.2.2.2.2.2.2.2.2.1
theorem dX3_init_24 : decode cX3_init 24 = .ok (.return_, 1) := bX3_init_0.2.2.2.2.2.2.2.2.2.2.2
theorem bX3_append_0 : (decode cX3_append 0 = .ok (.aload_n 0, 1)) ∧ (decode cX3_append 1 = .ok (.getfield 9, 3)) ∧ (decode cX3_append 4 = .ok (.aload_n 0, 1)) ∧ (decode cX3_append 5 = .ok (.getfield 22, 3)) ∧ (decode cX3_append 8 = .ok (.iload_n 1, 1)) ∧ (decode cX3_append 9 = .ok (.iastore, 1)) ∧ (decode cX3_append 10 = .ok (.aload_n 0, 1)) ∧ (decode cX3_append 11 = .ok (.dup, 1)) ∧ (decode cX3_append 12 = .ok (.getfield 22, 3)) ∧ (decode cX3_append 15 = .ok (.iconst 1, 1)) ∧ (decode cX3_append 16 = .ok (.iadd, 1)) ∧ (decode cX3_append 17 = .ok (.putfield 22, 3)) ∧ (decode cX3_append 20 = .ok (.aload_n 0, 1)) ∧ (decode cX3_append 21 = .ok (.getfield 22, 3)) ∧ (decode cX3_append 24 = .ok (.ireturn, 1)) := by decide +kernel
theorem dX3_append_0 : decode cX3_append 0 = .ok (.aload_n 0, 1) := bX3_append_0.1
theorem dX3_append_1 : decode cX3_append 1 = .ok (.getfield 9, 3) := bX3_append_0.2.1
theorem dX3_append_4 : decode cX3_append 4 = .ok (.aload_n 0, 1) := bX3_append_0.2.2.1
theorem dX3_append_5 : decode cX3_append 5 = .ok (.getfield 22, 3) := bX3_append_0.2.2.2.1
theorem dX3_append_8 : decode cX3_append 8 = .ok (.iload_n 1, 1) := bX3_append_0.2.2.2.2.1
theorem dX3_append_9 : decode cX3_append 9 = .ok (.iastore, 1) := bX3_append_0.2.2.2.2.2.1
theorem dX3_append_10 : decode cX3_append 10 = .ok (.aload_n 0, 1) := bX3_append_0.2.2.2.2.2.2.1
theorem dX3_append_11 : decode cX3_append 11 = .ok (.dup, 1) := bX3_append_0.2.2.2.2.2.2.2.1
theorem dX3_append_12 : decode cX3_append 12 = .ok (.getfield 22, 3) := bX3_append_0.2.2.2.2.2.2.2.2.1
theorem dX3_append_15 : decode cX3_append 15 = .ok (.iconst 1, 1) := bX3_append_0.2.2.2.2.2.2.2.2.2.1
theorem dX3_append_16 : decode cX3_append 16 = .ok (.iadd, 1) := bX3_append_0.2.2.2.2.2.2.2.2.2.2.1
theorem dX3_append_17 : decode cX3_append 17 = .ok (.putfield 22, 3) := bX3_append_0.2.2.2.2.2.2.2.2.2.2.2.1
theorem dX3_append_20 : decode cX3_append 20 = .ok (.aload_n 0, 1) := bX3_append_0.2.2.2.2.2.2.2.2.2.2.2.2.1
theorem dX3_append_21 : decode cX3_append 21 = .ok (.getfield 22, 3) := bX3_append_0.2.2.2.2.2.2.2.2.2.2.2.2.2.1
theorem dX3_append_24 : decode cX3_append 24 = .ok (.ireturn, 1) := bX3_append_0.2.2.2.2.2.2.2.2.2.2.2.2.2.2
theorem bX3_readItems_0 : (decode cX3_readItems 0 = .ok (.aload_n 0, 1)) ∧ (decode cX3_readItems 1 = .ok (.iconst 0, 1)) ∧ (decode cX3_readItems 2 = .ok (.putfield 26, 3)) ∧ (decode cX3_readItems 5 = .ok (.aload_n 0, 1)) ∧ (decode cX3_readItems 6 = .ok (.getfield 18, 3)) ∧ (decode cX3_readItems 9 = .ok (.invokevirtual 29, 3)) ∧ (decode cX3_readItems 12 = .ok (.iconst 0, 1)) ∧ (decode cX3_readItems 13 = .ok (.istore_n 1, 1)) ∧ (decode cX3_readItems 14 = .ok (.iload_n 1, 1)) ∧ (decode cX3_readItems 15 = .ok (.sipush 150, 3)) ∧ (decode cX3_readItems 18 = .ok (.if_icmp .gt 52, 3)) ∧ (decode cX3_readItems 21 = .ok (.aload_n 0, 1)) ∧ (decode cX3_readItems 22 = .ok (.invokevirtual 32, 3)) ∧ (decode cX3_readItems 25 = .ok (.aload_n 0, 1)) ∧ (decode cX3_readItems 26 = .ok (.getfield 35, 3)) ∧ (decode cX3_readItems 29 = .ok (.ifCond .ne 9, 3)) := by decide +kernel
theorem dX3_readItems_0 : decode cX3_readItems 0 = .ok (.aload_n 0, 1) := bX3_readItems_0.1
theorem dX3_readItems_1 : decode cX3_readItems 1 = .ok (.iconst 0, 1) := bX3_readItems_0.2.1
theorem dX3_readItems_2 : decode cX3_readItems 2 = .ok (.putfield 26, 3) := bX3_readItems_0.2.2.1
theorem dX3_readItems_5 : decode cX3_readItems 5 = .ok (.aload_n 0, 1) := bX3_readItems_0.2.2.2.1
theorem dX3_readItems_6 : decode cX3_readItems 6 = .ok (.getfield 18, 3) := bX3_readItems_0.2.2.2.2.1
theorem dX3_readItems_9 : decode cX3_readItems 9 = .ok (.invokevirtual 29, 3) := bX3_readItems_0.2.2.2.2.2.1
theorem dX3_readItems_12 : decode cX3_readItems 12 = .ok (.iconst 0, 1) := bX3_readItems_0.2.2.2.2.2.2.1
theorem dX3_readItems_13 : decode cX3_readItems 13 = .ok (.istore_n 1, 1) := bX3_readItems_0.2.2.2.2.2.2.2.1
theorem dX3_readItems_14 : decode cX3_readItems 14 = .ok (.iload_n 1, 1) := bX3_readItems_0.2.2.2.2.2.2.2.2.1
theorem dX3_readItems_15 : decode cX3_readItems 15 = .ok (.sipush 150, 3) := bX3_readItems_0.2.2.2.2.2.2.2.2.2.1
theorem dX3_readItems_18 : decode cX3_readItems 18 = .ok (.if_icmp .gt 52, 3) := bX3_readItems_0.2.2.2.2.2.2.2.2.2.2.1
theorem dX3_readItems_21 : decode cX3_readItems 21 = .ok (.aload_n 0, 1) := bX3_readItems_0.2.2.2.2.2.2.2.2.2.2.2.1
theorem dX3_readItems_22 : decode cX3_readItems 22 = .ok (.invokevirtual 32, 3) := bX3_readItems_0.2.2.2.2.2.2.2.2.2.2.2.2.1
theorem dX3_readItems_25 : decode cX3_readItems 25 = .ok (.aload_n 0, 1) := bX3_readItems_0.2.2.2.2.2.2.2.2.2.2.2.2.2.1
theorem dX3_readItems_26 : decode cX3_readItems 26 = .ok (.getfield 35, 3) := bX3_readItems_0.2.2.2.2.2.2.2.2.2.2.2.2.2.2.1
theorem dX3_readItems_29 : decode cX3_readItems 29 = .ok (.ifCond .ne 9, 3) := bX3_readItems_0.2.2.2.2.2.2.2.2.2.2.2.2.2.2.2
theorem bX3_readItems_32 : (decode cX3_readItems 32 = .ok (.iload_n 1, 1)) ∧ (decode cX3_readItems 33 = .ok (.ifCond .le 5, 3)) ∧ (decode cX3_readItems 36 = .ok (.iload_n 1, 1)) ∧ (decode cX3_readItems 37 = .ok (.ireturn, 1)) ∧ (decode cX3_readItems 38 = .ok (.aload_n 0, 1)) ∧ (decode cX3_readItems 39 = .ok (.iload_n 1, 1)) ∧ (decode cX3_readItems 40 = .ok (.ifCond .ne 7, 3)) ∧ (decode cX3_readItems 43 = .ok (.iconst 1, 1)) ∧ (decode cX3_readItems 44 = .ok (.goto 4, 3)) ∧ (decode cX3_readItems 47 = .ok (.iconst 0, 1)) ∧ (decode cX3_readItems 48 = .ok (.invokevirtual 38, 3)) ∧ (decode cX3_readItems 51 = .ok (.ifCond .eq 19, 3)) ∧ (decode cX3_readItems 54 = .ok (.aload_n 0, 1)) ∧ (decode cX3_readItems 55 = .ok (.invokevirtual 42, 3)) ∧ (decode cX3_readItems 58 = .ok (.ifCond .ne 6, 3)) ∧ (decode cX3_readItems 61 = .ok (.goto 9, 3)) := by decide +kernel
theorem dX3_readItems_32 : decode cX3_readItems 32 = .ok (.iload_n 1, 1) := bX3_readItems_32.1
theorem dX3_readItems_33 : decode cX3_readItems 33 = .ok (.ifCond .le 5, 3) := bX3_readItems_32.2.1
theorem dX3_readItems_36 : decode cX3_readItems 36 = .ok (.iload_n 1, 1) := bX3_readItems_32.2.2.1
theorem dX3_readItems_37 : decode cX3_readItems 37 = .ok (.ireturn, 1) := bX3_readItems_32.2.2.2.1
theorem dX3_readItems_38 : decode cX3_readItems 38 = .ok (.aload_n 0, 1) := bX3_readItems_32.2.2.2.2.1
theorem dX3_readItems_39 : decode cX3_readItems 39 = .ok (.iload_n 1, 1) := bX3_readItems_32.2.2.2.2.2.1
theorem dX3_readItems_40 : decode cX3_readItems 40 = .ok (.ifCond .ne 7, 3) := bX3_readItems_32.2.2.2.2.2.2.1
theorem dX3_readItems_43 : decode cX3_readItems 43 = .ok (.iconst 1, 1) := bX3_readItems_32.2.2.2.2.2.2.2.1
theorem dX3_readItems_44 : decode cX3_readItems 44 = .ok (.goto 4, 3) := bX3_readItems_32.2.2.2.2.2.2.2.2.1
theorem dX3_readItems_47 : decode cX3_readItems 47 = .ok (.iconst 0, 1) := bX3_readItems_32.2.2.2.2.2.2.2.2.2.1
theorem dX3_readItems_48 : decode cX3_readItems 48 = .ok (.invokevirtual 38, 3) := bX3_readItems_32.2.2.2.2.2.2.2.2.2.2.1
theorem dX3_readItems_51 : decode cX3_readItems 51 = .ok (.ifCond .eq 19, 3) := bX3_readItems_32.2.2.2.2.2.2.2.2.2.2.2.1
theorem dX3_readItems_54 : decode cX3_readItems 54 = .ok (.aload_n 0, 1) := bX3_readItems_32.2.2.2.2.2.2.2.2.2.2.2.2.1
theorem dX3_readItems_55 : decode cX3_readItems 55 = .ok (.invokevirtual 42, 3) := bX3_readItems_32.2.2.2.2.2.2.2.2.2.2.2.2.2.1
theorem dX3_readItems_58 : decode cX3_readItems 58 = .ok (.ifCond .ne 6, 3) := bX3_readItems_32.2.2.2.2.2.2.2.2.2.2.2.2.2.2.1
theorem dX3_readItems_61 : decode cX3_readItems 61 = .ok (.goto 9, 3) := bX3_readItems_32.2.2.2.2.2.2.2.2.2.2.2.2.2.2.2
theorem bX3_readItems_64 : (decode cX3_readItems 64 = .ok (.iinc 1 1, 3)) ∧ (decode cX3_readItems 67 = .ok (.goto (-53), 3)) ∧ (decode cX3_readItems 70 = .ok (.bipush (-10), 2)) ∧ (decode cX3_readItems 72 = .ok (.aload_n 0, 1)) ∧ (decode cX3_readItems 73 = .ok (.getfield 46, 3)) ∧ (decode cX3_readItems 76 = .ok (.isub, 1)) ∧ (decode cX3_readItems 77 = .ok (.ireturn, 1)) := by decide +kernel
theorem dX3_readItems_64 : decode cX3_readItems 64 = .ok (.iinc 1 1, 3) := bX3_readItems_64.1
theorem dX3_readItems_67 : decode cX3_readItems 67 = .ok (.goto (-53), 3) := bX3_readItems_64.2.1
theorem dX3_readItems_70 : decode cX3_readItems 70 = .ok (.bipush (-10), 2) := bX3_readItems_64.2.2.1
theorem dX3_readItems_72 : decode cX3_readItems 72 = .ok (.aload_n 0, 1) := bX3_readItems_64.2.2.2.1
theorem dX3_readItems_73 : decode cX3_readItems 73 = .ok (.getfield 46, 3) := bX3_readItems_64.2.2.2.2.1
theorem dX3_readItems_76 : decode cX3_readItems 76 = .ok (.isub, 1) := bX3_readItems_64.2.2.2.2.2.1
theorem dX3_readItems_77 : decode cX3_readItems 77 = .ok (.ireturn, 1) := bX3_readItems_64.2.2.2.2.2.2
theorem bX3_takeItem_0 : (decode cX3_takeItem 0 = .ok (.iload_n 1, 1)) ∧ (decode cX3_takeItem 1 = .ok (.ifCond .eq 10, 3)) ∧ (decode cX3_takeItem 4 = .ok (.aload_n 0, 1)) ∧ (decode cX3_takeItem 5 = .ok (.ldc 49, 2)) ∧ (decode cX3_takeItem 7 = .ok (.invokevirtual 51, 3)) ∧ (decode cX3_takeItem 10 = .ok (.ireturn, 1)) ∧ (decode cX3_takeItem 11 = .ok (.aload_n 0, 1)) ∧ (decode cX3_takeItem 12 = .ok (.ldc 55, 2)) ∧ (decode cX3_takeItem 14 = .ok (.invokevirtual 51, 3)) ∧ (decode cX3_takeItem 17 = .ok (.ifCond .eq 8, 3)) ∧ (decode cX3_takeItem 20 = .ok (.aload_n 0, 1)) ∧ (decode cX3_takeItem 21 = .ok (.invokevirtual 57, 3)) ∧ (decode cX3_takeItem 24 = .ok (.ireturn, 1)) ∧ (decode cX3_takeItem 25 = .ok (.aload_n 0, 1)) ∧ (decode cX3_takeItem 26 = .ok (.ldc 60, 2)) ∧ (decode cX3_takeItem 28 = .ok (.invokevirtual 51, 3)) := by decide +kernel
theorem dX3_takeItem_0 : decode cX3_takeItem 0 = .ok (.iload_n 1, 1) := bX3_takeItem_0.1
theorem dX3_takeItem_1 : decode cX3_takeItem 1 = .ok (.ifCond .eq 10, 3) := bX3_takeItem_0.2.1
theorem dX3_takeItem_4 : decode cX3_takeItem 4 = .ok (.aload_n 0, 1) := bX3_takeItem_0.2.2.1
theorem dX3_takeItem_5 : decode cX3_takeItem 5 = .ok (.ldc 49, 2) := bX3_takeItem_0.2.2.2.1
theorem dX3_takeItem_7 : decode cX3_takeItem 7 = .ok (.invokevirtual 51, 3) := bX3_takeItem_0.2.2.2.2.1
theorem dX3_takeItem_10 : decode cX3_takeItem 10 = .ok (.ireturn, 1) := bX3_takeItem_0.2.2.2.2.2.1
theorem dX3_takeItem_11 : decode cX3_takeItem 11 = .ok (.aload_n 0, 1) := bX3_takeItem_0.2.2.2.2.2.2.1
theorem dX3_takeItem_12 : decode cX3_takeItem 12 = .ok (.ldc 55, 2) := bX3_takeItem_0.2.2.2.2.2.2.2.1
theorem dX3_takeItem_14 : decode cX3_takeItem 14 = .ok (.invokevirtual 51, 3) := bX3_takeItem_0.2.2.2.2.2.2.2.2.1
theorem dX3_takeItem_17 : decode cX3_takeItem 17 = .ok (.ifCond .eq 8, 3) := bX3_takeItem_0.2.2.2.2.2.2.2.2.2.1
theorem dX3_takeItem_20 : decode cX3_takeItem 20 = .ok (.aload_n 0, 1) := bX3_takeItem_0.2.2.2.2.2.2.2.2.2.2.1
theorem dX3_takeItem_21 : decode cX3_takeItem 21 = .ok (.invokevirtual 57, 3) := bX3_takeItem_0.2.2.2.2.2.2.2.2.2.2.2.1
theorem dX3_takeItem_24 : decode cX3_takeItem 24 = .ok (.ireturn, 1) := bX3_takeItem_0.2.2.2.2.2.2.2.2.2.2.2.2.1
theorem dX3_takeItem_25 : decode cX3_takeItem 25 = .ok (.aload_n 0, 1) := bX3_takeItem_0.2.2.2.2.2.2.2.2.2.2.2.2.2.1
theorem dX3_takeItem_26 : decode cX3_takeItem 26 = .ok (.ldc 60, 2) := bX3_takeItem_0.2.2.2.2.2.2.2.2.2.2.2.2.2.2.1
theorem dX3_takeItem_28 : decode cX3_takeItem 28 = .ok (.invokevirtual 51, 3) := bX3_takeItem_0.2.2.2.2.2.2.2.2.2.2.2.2.2.2.2
theorem bX3_takeItem_31 : (decode cX3_takeItem 31 = .ok (.ifCond .eq 8, 3)) ∧ (decode cX3_takeItem 34 = .ok (.aload_n 0, 1)) ∧ (decode cX3_takeItem 35 = .ok (.invokevirtual 62, 3)) ∧ (decode cX3_takeItem 38 = .ok (.ireturn, 1)) ∧ (decode cX3_takeItem 39 = .ok (.aload_n 0, 1)) ∧ (decode cX3_takeItem 40 = .ok (.ldc 65, 2)) ∧ (decode cX3_takeItem 42 = .ok (.invokevirtual 51, 3)) ∧ (decode cX3_takeItem 45 = .ok (.ifCond .eq 8, 3)) ∧ (decode cX3_takeItem 48 = .ok (.aload_n 0, 1)) ∧ (decode cX3_takeItem 49 = .ok (.invokevirtual 67, 3)) ∧ (decode cX3_takeItem 52 = .ok (.ireturn, 1)) ∧ (decode cX3_takeItem 53 = .ok (.aload_n 0, 1)) ∧ (decode cX3_takeItem 54 = .ok (.ldc 70, 2)) ∧ (decode cX3_takeItem 56 = .ok (.invokevirtual 51, 3)) ∧ (decode cX3_takeItem 59 = .ok (.ifCond .eq 8, 3)) ∧ (decode cX3_takeItem 62 = .ok (.aload_n 0, 1)) := by decide +kernel
theorem dX3_takeItem_31 : decode cX3_takeItem 31 = .ok (.ifCond .eq 8, 3) := bX3_takeItem_31.1
theorem dX3_takeItem_34 : decode cX3_takeItem 34 = .ok (.aload_n 0, 1) := bX3_takeItem_31.2.1
theorem dX3_takeItem_35 : decode cX3_takeItem 35 = .ok (.invokevirtual 62, 3) := bX3_takeItem_31.2.2.1
theorem dX3_takeItem_38 : decode cX3_takeItem 38 = .ok (.ireturn, 1) := bX3_takeItem_31.2.2.2.1
theorem dX3_takeItem_39 : decode cX3_takeItem 39 = .ok (.aload_n 0, 1) := bX3_takeItem_31.2.2.2.2.1
theorem dX3_takeItem_40 : decode cX3_takeItem 40 = .ok (.ldc 65, 2) := bX3_takeItem_31.2.2.2.2.2.1
theorem dX3_takeItem_42 : decode cX3_takeItem 42 = .ok (.invokevirtual 51, 3) := bX3_takeItem_31.2.2.2.2.2.2.1
theorem dX3_takeItem_45 : decode cX3_takeItem 45 = .ok (.ifCond .eq 8, 3) := bX3_takeItem_31.2.2.2.2.2.2.2.1
theorem dX3_takeItem_48 : decode cX3_takeItem 48 = .ok (.aload_n 0, 1) := bX3_takeItem_31.2.2.2.2.2.2.2.2.1
theorem dX3_takeItem_49 : decode cX3_takeItem 49 = .ok (.invokevirtual 67, 3) := bX3_takeItem_31.2.2.2.2.2.2.2.2.2.1
theorem dX3_takeItem_52 : decode cX3_takeItem 52 = .ok (.ireturn, 1) := bX3_takeItem_31.2.2.2.2.2.2.2.2.2.2.1
theorem dX3_takeItem_53 : decode cX3_takeItem 53 = .ok (.aload_n 0, 1) := bX3_takeItem_31.2.2.2.2.2.2.2.2.2.2.2.1
theorem dX3_takeItem_54 : decode cX3_takeItem 54 = .ok (.ldc 70, 2) := bX3_takeItem_31.2.2.2.2.2.2.2.2.2.2.2.2.1
theorem dX3_takeItem_56 : decode cX3_takeItem 56 = .ok (.invokevirtual 51, 3) := bX3_takeItem_31.2.2.2.2.2.2.2.2.2.2.2.2.2.1
theorem dX3_takeItem_59 : decode cX3_takeItem 59 = .ok (.ifCond .eq 8, 3) := bX3_takeItem_31.2.2.2.2.2.2.2.2.2.2.2.2.2.2.1
theorem dX3_takeItem_62 : decode cX3_takeItem 62 = .ok (.aload_n 0, 1) := bX3_takeItem_31.2.2.2.2.2.2.2.2.2.2.2.2.2.2.2
theorem bX3_takeItem_63 : (decode cX3_takeItem 63 = .ok (.invokevirtual 72, 3)) ∧ (decode cX3_takeItem 66 = .ok (.ireturn, 1)) ∧ (decode cX3_takeItem 67 = .ok (.aload_n 0, 1)) ∧ (decode cX3_takeItem 68 = .ok (.ldc 75, 2)) ∧ (decode cX3_takeItem 70 = .ok (.invokevirtual 51, 3)) ∧ (decode cX3_takeItem 73 = .ok (.ifCond .eq 14, 3)) ∧ (decode cX3_takeItem 76 = .ok (.aload_n 0, 1)) ∧ (decode cX3_takeItem 77 = .ok (.invokevirtual 77, 3)) ∧ (decode cX3_takeItem 80 = .ok (.ifCond .eq 7, 3)) ∧ (decode cX3_takeItem 83 = .ok (.iconst 1, 1)) ∧ (decode cX3_takeItem 84 = .ok (.goto 4, 3)) ∧ (decode cX3_takeItem 87 = .ok (.iconst 0, 1)) ∧ (decode cX3_takeItem 88 = .ok (.ireturn, 1)) := by decide +kernel
theorem dX3_takeItem_63 : decode cX3_takeItem 63 = .ok (.invokevirtual 72, 3) := bX3_takeItem_63.1
theorem dX3_takeItem_66 : decode cX3_takeItem 66 = .ok (.ireturn, 1) := bX3_takeItem_63.2.1
theorem dX3_takeItem_67 : decode cX3_takeItem 67 = .ok (.aload_n 0, 1) := bX3_takeItem_63.2.2.1
theorem dX3_takeItem_68 : decode cX3_takeItem 68 = .ok (.ldc 75, 2) := bX3_takeItem_63.2.2.2.1
theorem dX3_takeItem_70 : decode cX3_takeItem 70 = .ok (.invokevirtual 51, 3) := bX3_takeItem_63.2.2.2.2.1
theorem dX3_takeItem_73 : decode cX3_takeItem 73 = .ok (.ifCond .eq 14, 3) := bX3_takeItem_63.2.2.2.2.2.1
theorem dX3_takeItem_76 : decode cX3_takeItem 76 = .ok (.aload_n 0, 1) := bX3_takeItem_63.2.2.2.2.2.2.1
theorem dX3_takeItem_77 : decode cX3_takeItem 77 = .ok (.invokevirtual 77, 3) := bX3_takeItem_63.2.2.2.2.2.2.2.1
theorem dX3_takeItem_80 : decode cX3_takeItem 80 = .ok (.ifCond .eq 7, 3) := bX3_takeItem_63.2.2.2.2.2.2.2.2.1
theorem dX3_takeItem_83 : decode cX3_takeItem 83 = .ok (.iconst 1, 1) := bX3_takeItem_63.2.2.2.2.2.2.2.2.2.1
theorem dX3_takeItem_84 : decode cX3_takeItem 84 = .ok (.goto 4, 3) := bX3_takeItem_63.2.2.2.2.2.2.2.2.2.2.1
theorem dX3_takeItem_87 : decode cX3_takeItem 87 = .ok (.iconst 0, 1) := bX3_takeItem_63.2.2.2.2.2.2.2.2.2.2.2.1
theorem dX3_takeItem_88 : decode cX3_takeItem 88 = .ok (.ireturn, 1) := bX3_takeItem_63.2.2.2.2.2.2.2.2.2.2.2.2
theorem bX3_takeThing_0 : (decode cX3_takeThing 0 = .ok (.aload_n 0, 1)) ∧ (decode cX3_takeThing 1 = .ok (.getfield 18, 3)) ∧ (decode cX3_takeThing 4 = .ok (.getfield 80, 3)) ∧ (decode cX3_takeThing 7 = .ok (.bipush 7, 2)) ∧ (decode cX3_takeThing 9 = .ok (.if_icmp .ge 12, 3)) ∧ (decode cX3_takeThing 12 = .ok (.aload_n 0, 1)) ∧ (decode cX3_takeThing 13 = .ok (.iconst 0, 1)) ∧ (decode cX3_takeThing 14 = .ok (.iconst 5, 1)) ∧ (decode cX3_takeThing 15 = .ok (.invokevirtual 83, 3)) ∧ (decode cX3_takeThing 18 = .ok (.ifCond .ne 5, 3)) ∧ (decode cX3_takeThing 21 = .ok (.iconst 0, 1)) ∧ (decode cX3_takeThing 22 = .ok (.ireturn, 1)) ∧ (decode cX3_takeThing 23 = .ok (.aload_n 0, 1)) ∧ (decode cX3_takeThing 24 = .ok (.getfield 87, 3)) ∧ (decode cX3_takeThing 27 = .ok (.istore_n 1, 1)) ∧ (decode cX3_takeThing 28 = .ok (.aload_n 0, 1)) := by decide +kernel
theorem dX3_takeThing_0 : decode cX3_takeThing 0 = .ok (.aload_n 0, 1) := bX3_takeThing_0.1
theorem dX3_takeThing_1 : decode cX3_takeThing 1 = .ok (.getfield 18, 3) := bX3_takeThing_0.2.1
theorem dX3_takeThing_4 : decode cX3_takeThing 4 = .ok (.getfield 80, 3) := bX3_takeThing_0.2.2.1
theorem dX3_takeThing_7 : decode cX3_takeThing 7 = .ok (.bipush 7, 2) := bX3_takeThing_0.2.2.2.1
theorem dX3_takeThing_9 : decode cX3_takeThing 9 = .ok (.if_icmp .ge 12, 3) := bX3_takeThing_0.2.2.2.2.1
theorem dX3_takeThing_12 : decode cX3_takeThing 12 = .ok (.aload_n 0, 1) := bX3_takeThing_0.2.2.2.2.2.1
theorem dX3_takeThing_13 : decode cX3_takeThing 13 = .ok (.iconst 0, 1) := bX3_takeThing_0.2.2.2.2.2.2.1
theorem dX3_takeThing_14 : decode cX3_takeThing 14 = .ok (.iconst 5, 1) := bX3_takeThing_0.2.2.2.2.2.2.2.1
theorem dX3_takeThing_15 : decode cX3_takeThing 15 = .ok (.invokevirtual 83, 3) := bX3_takeThing_0.2.2.2.2.2.2.2.2.1
theorem dX3_takeThing_18 : decode cX3_takeThing 18 = .ok (.ifCond .ne 5, 3) := bX3_takeThing_0.2.2.2.2.2.2.2.2.2.1
theorem dX3_takeThing_21 : decode cX3_takeThing 21 = .ok (.iconst 0, 1) := bX3_takeThing_0.2.2.2.2.2.2.2.2.2.2.1
theorem dX3_takeThing_22 : decode cX3_takeThing 22 = .ok (.ireturn, 1) := bX3_takeThing_0.2.2.2.2.2.2.2.2.2.2.2.1
theorem dX3_takeThing_23 : decode cX3_takeThing 23 = .ok (.aload_n 0, 1) := bX3_takeThing_0.2.2.2.2.2.2.2.2.2.2.2.2.1
theorem dX3_takeThing_24 : decode cX3_takeThing 24 = .ok (.getfield 87, 3) := bX3_takeThing_0.2.2.2.2.2.2.2.2.2.2.2.2.2.1
theorem dX3_takeThing_27 : decode cX3_takeThing 27 = .ok (.istore_n 1, 1) := bX3_takeThing_0.2.2.2.2.2.2.2.2.2.2.2.2.2.2.1
theorem dX3_takeThing_28 : decode cX3_takeThing 28 = .ok (.aload_n 0, 1) := bX3_takeThing_0.2.2.2.2.2.2.2.2.2.2.2.2.2.2.2
theorem bX3_takeThing_29 : (decode cX3_takeThing 29 = .ok (.iconst 1, 1)) ∧ (decode cX3_takeThing 30 = .ok (.bipush 30, 2)) ∧ (decode cX3_takeThing 32 = .ok (.invokevirtual 83, 3)) ∧ (decode cX3_takeThing 35 = .ok (.ifCond .ne 5, 3)) ∧ (decode cX3_takeThing 38 = .ok (.iconst 0, 1)) ∧ (decode cX3_takeThing 39 = .ok (.ireturn, 1)) ∧ (decode cX3_takeThing 40 = .ok (.aload_n 0, 1)) ∧ (decode cX3_takeThing 41 = .ok (.getfield 18, 3)) ∧ (decode cX3_takeThing 44 = .ok (.iload_n 1, 1)) ∧ (decode cX3_takeThing 45 = .ok (.aload_n 0, 1)) ∧ (decode cX3_takeThing 46 = .ok (.getfield 87, 3)) ∧ (decode cX3_takeThing 49 = .ok (.invokevirtual 90, 3)) ∧ (decode cX3_takeThing 52 = .ok (.pop, 1)) ∧ (decode cX3_takeThing 53 = .ok (.iconst 1, 1)) ∧ (decode cX3_takeThing 54 = .ok (.ireturn, 1)) := by decide +kernel
theorem dX3_takeThing_29 : decode cX3_takeThing 29 = .ok (.iconst 1, 1) := bX3_takeThing_29.1
theorem dX3_takeThing_30 : decode cX3_takeThing 30 = .ok (.bipush 30, 2) := bX3_takeThing_29.2.1
theorem dX3_takeThing_32 : decode cX3_takeThing 32 = .ok (.invokevirtual 83, 3) := bX3_takeThing_29.2.2.1
theorem dX3_takeThing_35 : decode cX3_takeThing 35 = .ok (.ifCond .ne 5, 3) := bX3_takeThing_29.2.2.2.1
theorem dX3_takeThing_38 : decode cX3_takeThing 38 = .ok (.iconst 0, 1) := bX3_takeThing_29.2.2.2.2.1
theorem dX3_takeThing_39 : decode cX3_takeThing 39 = .ok (.ireturn, 1) := bX3_takeThing_29.2.2.2.2.2.1
theorem dX3_takeThing_40 : decode cX3_takeThing 40 = .ok (.aload_n 0, 1) := bX3_takeThing_29.2.2.2.2.2.2.1
theorem dX3_takeThing_41 : decode cX3_takeThing 41 = .ok (.getfield 18, 3) := bX3_takeThing_29.2.2.2.2.2.2.2.1
theorem dX3_takeThing_44 : decode cX3_takeThing 44 = .ok (.iload_n 1, 1) := bX3_takeThing_29.2.2.2.2.2.2.2.2.1
theorem dX3_takeThing_45 : decode cX3_takeThing 45 = .ok (.aload_n 0, 1) := bX3_takeThing_29.2.2.2.2.2.2.2.2.2.1
theorem dX3_takeThing_46 : decode cX3_takeThing 46 = .ok (.getfield 87, 3) := bX3_takeThing_29.2.2.2.2.2.2.2.2.2.2.1
theorem dX3_takeThing_49 : decode cX3_takeThing 49 = .ok (.invokevirtual 90, 3) := bX3_takeThing_29.2.2.2.2.2.2.2.2.2.2.2.1
theorem dX3_takeThing_52 : decode cX3_takeThing 52 = .ok (.pop, 1) := bX3_takeThing_29.2.2.2.2.2.2.2.2.2.2.2.2.1
theorem dX3_takeThing_53 : decode cX3_takeThing 53 = .ok (.iconst 1, 1) := bX3_takeThing_29.2.2.2.2.2.2.2.2.2.2.2.2.2.1
theorem dX3_takeThing_54 : decode cX3_takeThing 54 = .ok (.ireturn, 1) := bX3_takeThing_29.2.2.2.2.2.2.2.2.2.2.2.2.2.2
theorem bX3_takeOne_0 : (decode cX3_takeOne 0 = .ok (.aload_n 0, 1)) ∧ (decode cX3_takeOne 1 = .ok (.getfield 18, 3)) ∧ (decode cX3_takeOne 4 = .ok (.getfield 94, 3)) ∧ (decode cX3_takeOne 7 = .ok (.bipush 7, 2)) ∧ (decode cX3_takeOne 9 = .ok (.if_icmp .ge 12, 3)) ∧ (decode cX3_takeOne 12 = .ok (.aload_n 0, 1)) ∧ (decode cX3_takeOne 13 = .ok (.iconst 0, 1)) ∧ (decode cX3_takeOne 14 = .ok (.iconst 5, 1)) ∧ (decode cX3_takeOne 15 = .ok (.invokevirtual 83, 3)) ∧ (decode cX3_takeOne 18 = .ok (.ifCond .ne 5, 3)) ∧ (decode cX3_takeOne 21 = .ok (.iconst 0, 1)) ∧ (decode cX3_takeOne 22 = .ok (.ireturn, 1)) ∧ (decode cX3_takeOne 23 = .ok (.aload_n 0, 1)) ∧ (decode cX3_takeOne 24 = .ok (.getfield 87, 3)) ∧ (decode cX3_takeOne 27 = .ok (.istore_n 1, 1)) ∧ (decode cX3_takeOne 28 = .ok (.aload_n 0, 1)) := by decide +kernel
theorem dX3_takeOne_0 : decode cX3_takeOne 0 = .ok (.aload_n 0, 1) := bX3_takeOne_0.1
theorem dX3_takeOne_1 : decode cX3_takeOne 1 = .ok (.getfield 18, 3) := bX3_takeOne_0.2.1
theorem dX3_takeOne_4 : decode cX3_takeOne 4 = .ok (.getfield 94, 3) := bX3_takeOne_0.2.2.1
theorem dX3_takeOne_7 : decode cX3_takeOne 7 = .ok (.bipush 7, 2) := bX3_takeOne_0.2.2.2.1
theorem dX3_takeOne_9 : decode cX3_takeOne 9 = .ok (.if_icmp .ge 12, 3) := bX3_takeOne_0.2.2.2.2.1
theorem dX3_takeOne_12 : decode cX3_takeOne 12 = .ok (.aload_n 0, 1) := bX3_takeOne_0.2.2.2.2.2.1
theorem dX3_takeOne_13 : decode cX3_takeOne 13 = .ok (.iconst 0, 1) := bX3_takeOne_0.2.2.2.2.2.2.1
theorem dX3_takeOne_14 : decode cX3_takeOne 14 = .ok (.iconst 5, 1) := bX3_takeOne_0.2.2.2.2.2.2.2.1
theorem dX3_takeOne_15 : decode cX3_takeOne 15 = .ok (.invokevirtual 83, 3) := bX3_takeOne_0.2.2.2.2.2.2.2.2.1
theorem dX3_takeOne_18 : decode cX3_takeOne 18 = .ok (.ifCond .ne 5, 3) := bX3_takeOne_0.2.2.2.2.2.2.2.2.2.1
theorem dX3_takeOne_21 : decode cX3_takeOne 21 = .ok (.iconst 0, 1) := bX3_takeOne_0.2.2.2.2.2.2.2.2.2.2.1
theorem dX3_takeOne_22 : decode cX3_takeOne 22 = .ok (.ireturn, 1) := bX3_takeOne_0.2.2.2.2.2.2.2.2.2.2.2.1
theorem dX3_takeOne_23 : decode cX3_takeOne 23 = .ok (.aload_n 0, 1) := bX3_takeOne_0.2.2.2.2.2.2.2.2.2.2.2.2.1
theorem dX3_takeOne_24 : decode cX3_takeOne 24 = .ok (.getfield 87, 3) := bX3_takeOne_0.2.2.2.2.2.2.2.2.2.2.2.2.2.1
theorem dX3_takeOne_27 : decode cX3_takeOne 27 = .ok (.istore_n 1, 1) := bX3_takeOne_0.2.2.2.2.2.2.2.2.2.2.2.2.2.2.1
theorem dX3_takeOne_28 : decode cX3_takeOne 28 = .ok (.aload_n 0, 1) := bX3_takeOne_0.2.2.2.2.2.2.2.2.2.2.2.2.2.2.2
theorem bX3_takeOne_29 : (decode cX3_takeOne 29 = .ok (.iconst 1, 1)) ∧ (decode cX3_takeOne 30 = .ok (.bipush 9, 2)) ∧ (decode cX3_takeOne 32 = .ok (.invokevirtual 83, 3)) ∧ (decode cX3_takeOne 35 = .ok (.ifCond .ne 5, 3)) ∧ (decode cX3_takeOne 38 = .ok (.iconst 0, 1)) ∧ (decode cX3_takeOne 39 = .ok (.ireturn, 1)) ∧ (decode cX3_takeOne 40 = .ok (.aload_n 0, 1)) ∧ (decode cX3_takeOne 41 = .ok (.getfield 87, 3)) ∧ (decode cX3_takeOne 44 = .ok (.istore_n 2, 1)) ∧ (decode cX3_takeOne 45 = .ok (.aload_n 0, 1)) ∧ (decode cX3_takeOne 46 = .ok (.iconst 0, 1)) ∧ (decode cX3_takeOne 47 = .ok (.bipush 99, 2)) ∧ (decode cX3_takeOne 49 = .ok (.invokevirtual 83, 3)) ∧ (decode cX3_takeOne 52 = .ok (.ifCond .ne 5, 3)) ∧ (decode cX3_takeOne 55 = .ok (.iconst 0, 1)) ∧ (decode cX3_takeOne 56 = .ok (.ireturn, 1)) := by decide +kernel
theorem dX3_takeOne_29 : decode cX3_takeOne 29 = .ok (.iconst 1, 1) := bX3_takeOne_29.1
theorem dX3_takeOne_30 : decode cX3_takeOne 30 = .ok (.bipush 9, 2) := bX3_takeOne_29.2.1
theorem dX3_takeOne_32 : decode cX3_takeOne 32 = .ok (.invokevirtual 83, 3) := bX3_takeOne_29.2.2.1
theorem dX3_takeOne_35 : decode cX3_takeOne 35 = .ok (.ifCond .ne 5, 3) := bX3_takeOne_29.2.2.2.1
theorem dX3_takeOne_38 : decode cX3_takeOne 38 = .ok (.iconst 0, 1) := bX3_takeOne_29.2.2.2.2.1
theorem dX3_takeOne_39 : decode cX3_takeOne 39 = .ok (.ireturn, 1) := bX3_takeOne_29.2.2.2.2.2.1
theorem dX3_takeOne_40 : decode cX3_takeOne 40 = .ok (.aload_n 0, 1) := bX3_takeOne_29.2.2.2.2.2.2.1
theorem dX3_takeOne_41 : decode cX3_takeOne 41 = .ok (.getfield 87, 3) := bX3_takeOne_29.2.2.2.2.2.2.2.1
theorem dX3_takeOne_44 : decode cX3_takeOne 44 = .ok (.istore_n 2, 1) := bX3_takeOne_29.2.2.2.2.2.2.2.2.1
theorem dX3_takeOne_45 : decode cX3_takeOne 45 = .ok (.aload_n 0, 1) := bX3_takeOne_29.2.2.2.2.2.2.2.2.2.1
theorem dX3_takeOne_46 : decode cX3_takeOne 46 = .ok (.iconst 0, 1) := bX3_takeOne_29.2.2.2.2.2.2.2.2.2.2.1
theorem dX3_takeOne_47 : decode cX3_takeOne 47 = .ok (.bipush 99, 2) := bX3_takeOne_29.2.2.2.2.2.2.2.2.2.2.2.1
theorem dX3_takeOne_49 : decode cX3_takeOne 49 = .ok (.invokevirtual 83, 3) := bX3_takeOne_29.2.2.2.2.2.2.2.2.2.2.2.2.1
theorem dX3_takeOne_52 : decode cX3_takeOne 52 = .ok (.ifCond .ne 5, 3) := bX3_takeOne_29.2.2.2.2.2.2.2.2.2.2.2.2.2.1
theorem dX3_takeOne_55 : decode cX3_takeOne 55 = .ok (.iconst 0, 1) := bX3_takeOne_29.2.2.2.2.2.2.2.2.2.2.2.2.2.2.1
theorem dX3_takeOne_56 : decode cX3_takeOne 56 = .ok (.ireturn, 1) := bX3_takeOne_29.2.2.2.2.2.2.2.2.2.2.2.2.2.2.2
theorem bX3_takeOne_57 : (decode cX3_takeOne 57 = .ok (.aload_n 0, 1)) ∧ (decode cX3_takeOne 58 = .ok (.getfield 18, 3)) ∧ (decode cX3_takeOne 61 = .ok (.iload_n 1, 1)) ∧ (decode cX3_takeOne 62 = .ok (.iload_n 2, 1)) ∧ (decode cX3_takeOne 63 = .ok (.aload_n 0, 1)) ∧ (decode cX3_takeOne 64 = .ok (.getfield 87, 3)) ∧ (decode cX3_takeOne 67 = .ok (.invokevirtual 97, 3)) ∧ (decode cX3_takeOne 70 = .ok (.pop, 1)) ∧ (decode cX3_takeOne 71 = .ok (.iconst 1, 1)) ∧ (decode cX3_takeOne 72 = .ok (.ireturn, 1)) := by decide +kernel
theorem dX3_takeOne_57 : decode cX3_takeOne 57 = .ok (.aload_n 0, 1) := bX3_takeOne_57.1
theorem dX3_takeOne_58 : decode cX3_takeOne 58 = .ok (.getfield 18, 3) := bX3_takeOne_57.2.1
theorem dX3_takeOne_61 : decode cX3_takeOne 61 = .ok (.iload_n 1, 1) := bX3_takeOne_57.2.2.1
theorem dX3_takeOne_62 : decode cX3_takeOne 62 = .ok (.iload_n 2, 1) := bX3_takeOne_57.2.2.2.1
theorem dX3_takeOne_63 : decode cX3_takeOne 63 = .ok (.aload_n 0, 1) := bX3_takeOne_57.2.2.2.2.1
theorem dX3_takeOne_64 : decode cX3_takeOne 64 = .ok (.getfield 87, 3) := bX3_takeOne_57.2.2.2.2.2.1
theorem dX3_takeOne_67 : decode cX3_takeOne 67 = .ok (.invokevirtual 97, 3) := bX3_takeOne_57.2.2.2.2.2.2.1
theorem dX3_takeOne_70 : decode cX3_takeOne 70 = .ok (.pop, 1) := bX3_takeOne_57.2.2.2.2.2.2.2.1
theorem dX3_takeOne_71 : decode cX3_takeOne 71 = .ok (.iconst 1, 1) := bX3_takeOne_57.2.2.2.2.2.2.2.2.1
theorem dX3_takeOne_72 : decode cX3_takeOne 72 = .ok (.ireturn, 1) := bX3_takeOne_57.2.2.2.2.2.2.2.2.2
theorem bX3_takeOwn_0 : (decode cX3_takeOwn 0 = .ok (.aload_n 0, 1)) ∧ (decode cX3_takeOwn 1 = .ok (.iconst 0, 1)) ∧ (decode cX3_takeOwn 2 = .ok (.aload_n 0, 1)) ∧ (decode cX3_takeOwn 3 = .ok (.getfield 18, 3)) ∧ (decode cX3_takeOwn 6 = .ok (.getfield 94, 3)) ∧ (decode cX3_takeOwn 9 = .ok (.iconst 1, 1)) ∧ (decode cX3_takeOwn 10 = .ok (.isub, 1)) ∧ (decode cX3_takeOwn 11 = .ok (.invokevirtual 83, 3)) ∧ (decode cX3_takeOwn 14 = .ok (.ifCond .eq 17, 3)) ∧ (decode cX3_takeOwn 17 = .ok (.aload_n 0, 1)) ∧ (decode cX3_takeOwn 18 = .ok (.getfield 18, 3)) ∧ (decode cX3_takeOwn 21 = .ok (.aload_n 0, 1)) ∧ (decode cX3_takeOwn 22 = .ok (.getfield 87, 3)) ∧ (decode cX3_takeOwn 25 = .ok (.invokevirtual 101, 3)) ∧ (decode cX3_takeOwn 28 = .ok (.ifCond .ne 5, 3)) ∧ (decode cX3_takeOwn 31 = .ok (.iconst 0, 1)) := by decide +kernel
theorem dX3_takeOwn_0 : decode cX3_takeOwn 0 = .ok (.aload_n 0, 1) := bX3_takeOwn_0.1
theorem dX3_takeOwn_1 : decode cX3_takeOwn 1 = .ok (.iconst 0, 1) := bX3_takeOwn_0.2.1
theorem dX3_takeOwn_2 : decode cX3_takeOwn 2 = .ok (.aload_n 0, 1) := bX3_takeOwn_0.2.2.1
theorem dX3_takeOwn_3 : decode cX3_takeOwn 3 = .ok (.getfield 18, 3) := bX3_takeOwn_0.2.2.2.1
theorem dX3_takeOwn_6 : decode cX3_takeOwn 6 = .ok (.getfield 94, 3) := bX3_takeOwn_0.2.2.2.2.1
theorem dX3_takeOwn_9 : decode cX3_takeOwn 9 = .ok (.iconst 1, 1) := bX3_takeOwn_0.2.2.2.2.2.1
theorem dX3_takeOwn_10 : decode cX3_takeOwn 10 = .ok (.isub, 1) := bX3_takeOwn_0.2.2.2.2.2.2.1
theorem dX3_takeOwn_11 : decode cX3_takeOwn 11 = .ok (.invokevirtual 83, 3) := bX3_takeOwn_0.2.2.2.2.2.2.2.1
theorem dX3_takeOwn_14 : decode cX3_takeOwn 14 = .ok (.ifCond .eq 17, 3) := bX3_takeOwn_0.2.2.2.2.2.2.2.2.1
theorem dX3_takeOwn_17 : decode cX3_takeOwn 17 = .ok (.aload_n 0, 1) := bX3_takeOwn_0.2.2.2.2.2.2.2.2.2.1
theorem dX3_takeOwn_18 : decode cX3_takeOwn 18 = .ok (.getfield 18, 3) := bX3_takeOwn_0.2.2.2.2.2.2.2.2.2.2.1
theorem dX3_takeOwn_21 : decode cX3_takeOwn 21 = .ok (.aload_n 0, 1) := bX3_takeOwn_0.2.2.2.2.2.2.2.2.2.2.2.1
theorem dX3_takeOwn_22 : decode cX3_takeOwn 22 = .ok (.getfield 87, 3) := bX3_takeOwn_0.2.2.2.2.2.2.2.2.2.2.2.2.1
theorem dX3_takeOwn_25 : decode cX3_takeOwn 25 = .ok (.invokevirtual 101, 3) := bX3_takeOwn_0.2.2.2.2.2.2.2.2.2.2.2.2.2.1
theorem dX3_takeOwn_28 : decode cX3_takeOwn 28 = .ok (.ifCond .ne 5, 3) := bX3_takeOwn_0.2.2.2.2.2.2.2.2.2.2.2.2.2.2.1
theorem dX3_takeOwn_31 : decode cX3_takeOwn 31 = .ok (.iconst 0, 1) := bX3_takeOwn_0.2.2.2.2.2.2.2.2.2.2.2.2.2.2.2
theorem bX3_takeOwn_32 : (decode cX3_takeOwn 32 = .ok (.ireturn, 1)) ∧ (decode cX3_takeOwn 33 = .ok (.aload_n 0, 1)) ∧ (decode cX3_takeOwn 34 = .ok (.getfield 87, 3)) ∧ (decode cX3_takeOwn 37 = .ok (.istore_n 1, 1)) ∧ (decode cX3_takeOwn 38 = .ok (.aload_n 0, 1)) ∧ (decode cX3_takeOwn 39 = .ok (.iconst 0, 1)) ∧ (decode cX3_takeOwn 40 = .ok (.aload_n 0, 1)) ∧ (decode cX3_takeOwn 41 = .ok (.getfield 18, 3)) ∧ (decode cX3_takeOwn 44 = .ok (.getfield 80, 3)) ∧ (decode cX3_takeOwn 47 = .ok (.iconst 1, 1)) ∧ (decode cX3_takeOwn 48 = .ok (.isub, 1)) ∧ (decode cX3_takeOwn 49 = .ok (.invokevirtual 83, 3)) ∧ (decode cX3_takeOwn 52 = .ok (.ifCond .eq 18, 3)) ∧ (decode cX3_takeOwn 55 = .ok (.aload_n 0, 1)) ∧ (decode cX3_takeOwn 56 = .ok (.getfield 18, 3)) ∧ (decode cX3_takeOwn 59 = .ok (.aload_n 0, 1)) := by decide +kernel
theorem dX3_takeOwn_32 : decode cX3_takeOwn 32 = .ok (.ireturn, 1) := bX3_takeOwn_32.1
theorem dX3_takeOwn_33 : decode cX3_takeOwn 33 = .ok (.aload_n 0, 1) := bX3_takeOwn_32.2.1
theorem dX3_takeOwn_34 : decode cX3_takeOwn 34 = .ok (.getfield 87, 3) := bX3_takeOwn_32.2.2.1
theorem dX3_takeOwn_37 : decode cX3_takeOwn 37 = .ok (.istore_n 1, 1) := bX3_takeOwn_32.2.2.2.1
theorem dX3_takeOwn_38 : decode cX3_takeOwn 38 = .ok (.aload_n 0, 1) := bX3_takeOwn_32.2.2.2.2.1
theorem dX3_takeOwn_39 : decode cX3_takeOwn 39 = .ok (.iconst 0, 1) := bX3_takeOwn_32.2.2.2.2.2.1
theorem dX3_takeOwn_40 : decode cX3_takeOwn 40 = .ok (.aload_n 0, 1) := bX3_takeOwn_32.2.2.2.2.2.2.1
theorem dX3_takeOwn_41 : decode cX3_takeOwn 41 = .ok (.getfield 18, 3) := bX3_takeOwn_32.2.2.2.2.2.2.2.1
theorem dX3_takeOwn_44 : decode cX3_takeOwn 44 = .ok (.getfield 80, 3) := bX3_takeOwn_32.2.2.2.2.2.2.2.2.1
theorem dX3_takeOwn_47 : decode cX3_takeOwn 47 = .ok (.iconst 1, 1) := bX3_takeOwn_32.2.2.2.2.2.2.2.2.2.1
theorem dX3_takeOwn_48 : decode cX3_takeOwn 48 = .ok (.isub, 1) := bX3_takeOwn_32.2.2.2.2.2.2.2.2.2.2.1
theorem dX3_takeOwn_49 : decode cX3_takeOwn 49 = .ok (.invokevirtual 83, 3) := bX3_takeOwn_32.2.2.2.2.2.2.2.2.2.2.2.1
theorem dX3_takeOwn_52 : decode cX3_takeOwn 52 = .ok (.ifCond .eq 18, 3) := bX3_takeOwn_32.2.2.2.2.2.2.2.2.2.2.2.2.1
theorem dX3_takeOwn_55 : decode cX3_takeOwn 55 = .ok (.aload_n 0, 1) := bX3_takeOwn_32.2.2.2.2.2.2.2.2.2.2.2.2.2.1
theorem dX3_takeOwn_56 : decode cX3_takeOwn 56 = .ok (.getfield 18, 3) := bX3_takeOwn_32.2.2.2.2.2.2.2.2.2.2.2.2.2.2.1
theorem dX3_takeOwn_59 : decode cX3_takeOwn 59 = .ok (.aload_n 0, 1) := bX3_takeOwn_32.2.2.2.2.2.2.2.2.2.2.2.2.2.2.2
theorem bX3_takeOwn_60 : (decode cX3_takeOwn 60 = .ok (.getfield 87, 3)) ∧ (decode cX3_takeOwn 63 = .ok (.invokevirtual 105, 3)) ∧ (decode cX3_takeOwn 66 = .ok (.iconst (-1), 1)) ∧ (decode cX3_takeOwn 67 = .ok (.if_icmp .eq 5, 3)) ∧ (decode cX3_takeOwn 70 = .ok (.iconst 0, 1)) ∧ (decode cX3_takeOwn 71 = .ok (.ireturn, 1)) ∧ (decode cX3_takeOwn 72 = .ok (.aload_n 0, 1)) ∧ (decode cX3_takeOwn 73 = .ok (.getfield 18, 3)) ∧ (decode cX3_takeOwn 76 = .ok (.getfield 109, 3)) ∧ (decode cX3_takeOwn 79 = .ok (.getfield 113, 3)) ∧ (decode cX3_takeOwn 82 = .ok (.iload_n 1, 1)) ∧ (decode cX3_takeOwn 83 = .ok (.aload_n 0, 1)) ∧ (decode cX3_takeOwn 84 = .ok (.getfield 87, 3)) ∧ (decode cX3_takeOwn 87 = .ok (.iastore, 1)) ∧ (decode cX3_takeOwn 88 = .ok (.iconst 1, 1)) ∧ (decode cX3_takeOwn 89 = .ok (.ireturn, 1)) := by decide +kernel
theorem dX3_takeOwn_60 : decode cX3_takeOwn 60 = .ok (.getfield 87, 3) := bX3_takeOwn_60.1
theorem dX3_takeOwn_63 : decode cX3_takeOwn 63 = .ok (.invokevirtual 105, 3) := bX3_takeOwn_60.2.1
theorem dX3_takeOwn_66 : decode cX3_takeOwn 66 = .ok (.iconst (-1), 1) := bX3_takeOwn_60.2.2.1
theorem dX3_takeOwn_67 : decode cX3_takeOwn 67 = .ok (.if_icmp .eq 5, 3) := bX3_takeOwn_60.2.2.2.1
theorem dX3_takeOwn_70 : decode cX3_takeOwn 70 = .ok (.iconst 0, 1) := bX3_takeOwn_60.2.2.2.2.1
theorem dX3_takeOwn_71 : decode cX3_takeOwn 71 = .ok (.ireturn, 1) := bX3_takeOwn_60.2.2.2.2.2.1
theorem dX3_takeOwn_72 : decode cX3_takeOwn 72 = .ok (.aload_n 0, 1) := bX3_takeOwn_60.2.2.2.2.2.2.1
theorem dX3_takeOwn_73 : decode cX3_takeOwn 73 = .ok (.getfield 18, 3) := bX3_takeOwn_60.2.2.2.2.2.2.2.1
theorem dX3_takeOwn_76 : decode cX3_takeOwn 76 = .ok (.getfield 109, 3) := bX3_takeOwn_60.2.2.2.2.2.2.2.2.1
theorem dX3_takeOwn_79 : decode cX3_takeOwn 79 = .ok (.getfield 113, 3) := bX3_takeOwn_60.2.2.2.2.2.2.2.2.2.1
theorem dX3_takeOwn_82 : decode cX3_takeOwn 82 = .ok (.iload_n 1, 1) := bX3_takeOwn_60.2.2.2.2.2.2.2.2.2.2.1
theorem dX3_takeOwn_83 : decode cX3_takeOwn 83 = .ok (.aload_n 0, 1) := bX3_takeOwn_60.2.2.2.2.2.2.2.2.2.2.2.1
theorem dX3_takeOwn_84 : decode cX3_takeOwn 84 = .ok (.getfield 87, 3) := bX3_takeOwn_60.2.2.2.2.2.2.2.2.2.2.2.2.1
theorem dX3_takeOwn_87 : decode cX3_takeOwn 87 = .ok (.iastore, 1) := bX3_takeOwn_60.2.2.2.2.2.2.2.2.2.2.2.2.2.1
theorem dX3_takeOwn_88 : decode cX3_takeOwn 88 = .ok (.iconst 1, 1) := bX3_takeOwn_60.2.2.2.2.2.2.2.2.2.2.2.2.2.2.1
theorem dX3_takeOwn_89 : decode cX3_takeOwn 89 = .ok (.ireturn, 1) := bX3_takeOwn_60.2.2.2.2.2.2.2.2.2.2.2.2.2.2.2
theorem bX3_takeLeave_0 : (decode cX3_takeLeave 0 = .ok (.aload_n 0, 1)) ∧ (decode cX3_takeLeave 1 = .ok (.iconst 0, 1)) ∧ (decode cX3_takeLeave 2 = .ok (.aload_n 0, 1)) ∧ (decode cX3_takeLeave 3 = .ok (.getfield 18, 3)) ∧ (decode cX3_takeLeave 6 = .ok (.getfield 94, 3)) ∧ (decode cX3_takeLeave 9 = .ok (.iconst 1, 1)) ∧ (decode cX3_takeLeave 10 = .ok (.isub, 1)) ∧ (decode cX3_takeLeave 11 = .ok (.invokevirtual 83, 3)) ∧ (decode cX3_takeLeave 14 = .ok (.ifCond .eq 22, 3)) ∧ (decode cX3_takeLeave 17 = .ok (.aload_n 0, 1)) ∧ (decode cX3_takeLeave 18 = .ok (.getfield 18, 3)) ∧ (decode cX3_takeLeave 21 = .ok (.getfield 109, 3)) ∧ (decode cX3_takeLeave 24 = .ok (.getfield 113, 3)) ∧ (decode cX3_takeLeave 27 = .ok (.aload_n 0, 1)) ∧ (decode cX3_takeLeave 28 = .ok (.getfield 87, 3)) ∧ (decode cX3_takeLeave 31 = .ok (.iaload, 1)) := by decide +kernel
theorem dX3_takeLeave_0 : decode cX3_takeLeave 0 = .ok (.aload_n 0, 1) := bX3_takeLeave_0.1
theorem dX3_takeLeave_1 : decode cX3_takeLeave 1 = .ok (.iconst 0, 1) := bX3_takeLeave_0.2.1
theorem dX3_takeLeave_2 : decode cX3_takeLeave 2 = .ok (.aload_n 0, 1) := bX3_takeLeave_0.2.2.1
theorem dX3_takeLeave_3 : decode cX3_takeLeave 3 = .ok (.getfield 18, 3) := bX3_takeLeave_0.2.2.2.1
theorem dX3_takeLeave_6 : decode cX3_takeLeave 6 = .ok (.getfield 94, 3) := bX3_takeLeave_0.2.2.2.2.1
theorem dX3_takeLeave_9 : decode cX3_takeLeave 9 = .ok (.iconst 1, 1) := bX3_takeLeave_0.2.2.2.2.2.1
theorem dX3_takeLeave_10 : decode cX3_takeLeave 10 = .ok (.isub, 1) := bX3_takeLeave_0.2.2.2.2.2.2.1
theorem dX3_takeLeave_11 : decode cX3_takeLeave 11 = .ok (.invokevirtual 83, 3) := bX3_takeLeave_0.2.2.2.2.2.2.2.1
theorem dX3_takeLeave_14 : decode cX3_takeLeave 14 = .ok (.ifCond .eq 22, 3) := bX3_takeLeave_0.2.2.2.2.2.2.2.2.1
theorem dX3_takeLeave_17 : decode cX3_takeLeave 17 = .ok (.aload_n 0, 1) := bX3_takeLeave_0.2.2.2.2.2.2.2.2.2.1
theorem dX3_takeLeave_18 : decode cX3_takeLeave 18 = .ok (.getfield 18, 3) := bX3_takeLeave_0.2.2.2.2.2.2.2.2.2.2.1
theorem dX3_takeLeave_21 : decode cX3_takeLeave 21 = .ok (.getfield 109, 3) := bX3_takeLeave_0.2.2.2.2.2.2.2.2.2.2.2.1
theorem dX3_takeLeave_24 : decode cX3_takeLeave 24 = .ok (.getfield 113, 3) := bX3_takeLeave_0.2.2.2.2.2.2.2.2.2.2.2.2.1
theorem dX3_takeLeave_27 : decode cX3_takeLeave 27 = .ok (.aload_n 0, 1) := bX3_takeLeave_0.2.2.2.2.2.2.2.2.2.2.2.2.2.1
theorem dX3_takeLeave_28 : decode cX3_takeLeave 28 = .ok (.getfield 87, 3) := bX3_takeLeave_0.2.2.2.2.2.2.2.2.2.2.2.2.2.2.1
theorem dX3_takeLeave_31 : decode cX3_takeLeave 31 = .ok (.iaload, 1) := bX3_takeLeave_0.2.2.2.2.2.2.2.2.2.2.2.2.2.2.2
theorem bX3_takeLeave_32 : (decode cX3_takeLeave 32 = .ok (.iconst (-1), 1)) ∧ (decode cX3_takeLeave 33 = .ok (.if_icmp .ne 5, 3)) ∧ (decode cX3_takeLeave 36 = .ok (.iconst 0, 1)) ∧ (decode cX3_takeLeave 37 = .ok (.ireturn, 1)) ∧ (decode cX3_takeLeave 38 = .ok (.aload_n 0, 1)) ∧ (decode cX3_takeLeave 39 = .ok (.getfield 18, 3)) ∧ (decode cX3_takeLeave 42 = .ok (.getfield 109, 3)) ∧ (decode cX3_takeLeave 45 = .ok (.getfield 113, 3)) ∧ (decode cX3_takeLeave 48 = .ok (.aload_n 0, 1)) ∧ (decode cX3_takeLeave 49 = .ok (.getfield 87, 3)) ∧ (decode cX3_takeLeave 52 = .ok (.iconst (-1), 1)) ∧ (decode cX3_takeLeave 53 = .ok (.iastore, 1)) ∧ (decode cX3_takeLeave 54 = .ok (.iconst 1, 1)) ∧ (decode cX3_takeLeave 55 = .ok (.ireturn, 1)) := by decide +kernel
theorem dX3_takeLeave_32 : decode cX3_takeLeave 32 = .ok (.iconst (-1), 1) := bX3_takeLeave_32.1
theorem dX3_takeLeave_33 : decode cX3_takeLeave 33 = .ok (.if_icmp .ne 5, 3) := bX3_takeLeave_32.2.1
theorem dX3_takeLeave_36 : decode cX3_takeLeave 36 = .ok (.iconst 0, 1) := bX3_takeLeave_32.2.2.1
theorem dX3_takeLeave_37 : decode cX3_takeLeave 37 = .ok (.ireturn, 1) := bX3_takeLeave_32.2.2.2.1
theorem dX3_takeLeave_38 : decode cX3_takeLeave 38 = .ok (.aload_n 0, 1) := bX3_takeLeave_32.2.2.2.2.1
theorem dX3_takeLeave_39 : decode cX3_takeLeave 39 = .ok (.getfield 18, 3) := bX3_takeLeave_32.2.2.2.2.2.1
theorem dX3_takeLeave_42 : decode cX3_takeLeave 42 = .ok (.getfield 109, 3) := bX3_takeLeave_32.2.2.2.2.2.2.1
theorem dX3_takeLeave_45 : decode cX3_takeLeave 45 = .ok (.getfield 113, 3) := bX3_takeLeave_32.2.2.2.2.2.2.2.1
theorem dX3_takeLeave_48 : decode cX3_takeLeave 48 = .ok (.aload_n 0, 1) := bX3_takeLeave_32.2.2.2.2.2.2.2.2.1
theorem dX3_takeLeave_49 : decode cX3_takeLeave 49 = .ok (.getfield 87, 3) := bX3_takeLeave_32.2.2.2.2.2.2.2.2.2.1
theorem dX3_takeLeave_52 : decode cX3_takeLeave 52 = .ok (.iconst (-1), 1) := bX3_takeLeave_32.2.2.2.2.2.2.2.2.2.2.1
theorem dX3_takeLeave_53 : decode cX3_takeLeave 53 = .ok (.iastore, 1) := bX3_takeLeave_32.2.2.2.2.2.2.2.2.2.2.2.1
theorem dX3_takeLeave_54 : decode cX3_takeLeave 54 = .ok (.iconst 1, 1) := bX3_takeLeave_32.2.2.2.2.2.2.2.2.2.2.2.2.1
theorem dX3_takeLeave_55 : decode cX3_takeLeave 55 = .ok (.ireturn, 1) := bX3_takeLeave_32.2.2.2.2.2.2.2.2.2.2.2.2.2
theorem bX3_takeYears_0 : (decode cX3_takeYears 0 = .ok (.aload_n 0, 1)) ∧ (decode cX3_takeYears 1 = .ok (.iconst 1, 1)) ∧ (decode cX3_takeYears 2 = .ok (.bipush 99, 2)) ∧ (decode cX3_takeYears 4 = .ok (.invokevirtual 83, 3)) ∧ (decode cX3_takeYears 7 = .ok (.ifCond .ne 5, 3)) ∧ (decode cX3_takeYears 10 = .ok (.iconst 0, 1)) ∧ (decode cX3_takeYears 11 = .ok (.ireturn, 1)) ∧ (decode cX3_takeYears 12 = .ok (.aload_n 0, 1)) ∧ (decode cX3_takeYears 13 = .ok (.getfield 18, 3)) ∧ (decode cX3_takeYears 16 = .ok (.aload_n 0, 1)) ∧ (decode cX3_takeYears 17 = .ok (.getfield 18, 3)) ∧ (decode cX3_takeYears 20 = .ok (.getfield 109, 3)) ∧ (decode cX3_takeYears 23 = .ok (.aload_n 0, 1)) ∧ (decode cX3_takeYears 24 = .ok (.getfield 87, 3)) ∧ (decode cX3_takeYears 27 = .ok (.sipush 999, 3)) ∧ (decode cX3_takeYears 30 = .ok (.invokevirtual 118, 3)) := by decide +kernel
theorem dX3_takeYears_0 : decode cX3_takeYears 0 = .ok (.aload_n 0, 1) := bX3_takeYears_0.1
theorem dX3_takeYears_1 : decode cX3_takeYears 1 = .ok (.iconst 1, 1) := bX3_takeYears_0.2.1
theorem dX3_takeYears_2 : decode cX3_takeYears 2 = .ok (.bipush 99, 2) := bX3_takeYears_0.2.2.1
theorem dX3_takeYears_4 : decode cX3_takeYears 4 = .ok (.invokevirtual 83, 3) := bX3_takeYears_0.2.2.2.1
theorem dX3_takeYears_7 : decode cX3_takeYears 7 = .ok (.ifCond .ne 5, 3) := bX3_takeYears_0.2.2.2.2.1
theorem dX3_takeYears_10 : decode cX3_takeYears 10 = .ok (.iconst 0, 1) := bX3_takeYears_0.2.2.2.2.2.1
theorem dX3_takeYears_11 : decode cX3_takeYears 11 = .ok (.ireturn, 1) := bX3_takeYears_0.2.2.2.2.2.2.1
theorem dX3_takeYears_12 : decode cX3_takeYears 12 = .ok (.aload_n 0, 1) := bX3_takeYears_0.2.2.2.2.2.2.2.1
theorem dX3_takeYears_13 : decode cX3_takeYears 13 = .ok (.getfield 18, 3) := bX3_takeYears_0.2.2.2.2.2.2.2.2.1
theorem dX3_takeYears_16 : decode cX3_takeYears 16 = .ok (.aload_n 0, 1) := bX3_takeYears_0.2.2.2.2.2.2.2.2.2.1
theorem dX3_takeYears_17 : decode cX3_takeYears 17 = .ok (.getfield 18, 3) := bX3_takeYears_0.2.2.2.2.2.2.2.2.2.2.1
theorem dX3_takeYears_20 : decode cX3_takeYears 20 = .ok (.getfield 109, 3) := bX3_takeYears_0.2.2.2.2.2.2.2.2.2.2.2.1
theorem dX3_takeYears_23 : decode cX3_takeYears 23 = .ok (.aload_n 0, 1) := bX3_takeYears_0.2.2.2.2.2.2.2.2.2.2.2.2.1
theorem dX3_takeYears_24 : decode cX3_takeYears 24 = .ok (.getfield 87, 3) := bX3_takeYears_0.2.2.2.2.2.2.2.2.2.2.2.2.2.1
theorem dX3_takeYears_27 : decode cX3_takeYears 27 = .ok (.sipush 999, 3) := bX3_takeYears_0.2.2.2.2.2.2.2.2.2.2.2.2.2.2.1
theorem dX3_takeYears_30 : decode cX3_takeYears 30 = .ok (.invokevirtual 118, 3) := bX3_takeYears_0.2.2.2.2.2.2.2.2.2.2.2.2.2.2.2
theorem bX3_takeYears_33 : (decode cX3_takeYears 33 = .ok (.iconst 1, 1)) ∧ (decode cX3_takeYears 34 = .ok (.ireturn, 1)) := by decide +kernel
theorem dX3_takeYears_33 : decode cX3_takeYears 33 = .ok (.iconst 1, 1) := bX3_takeYears_33.1
theorem dX3_takeYears_34 : decode cX3_takeYears 34 = .ok (.ireturn, 1) := bX3_takeYears_33.2
theorem bX3_takeNumber_0 : (decode cX3_takeNumber 0 = .ok (.aload_n 0, 1)) ∧ (decode cX3_takeNumber 1 = .ok (.invokevirtual 32, 3)) ∧ (decode cX3_takeNumber 4 = .ok (.aload_n 0, 1)) ∧ (decode cX3_takeNumber 5 = .ok (.getfield 35, 3)) ∧ (decode cX3_takeNumber 8 = .ok (.iconst 2, 1)) ∧ (decode cX3_takeNumber 9 = .ok (.if_icmp .ne 19, 3)) ∧ (decode cX3_takeNumber 12 = .ok (.aload_n 0, 1)) ∧ (decode cX3_takeNumber 13 = .ok (.getfield 87, 3)) ∧ (decode cX3_takeNumber 16 = .ok (.iload_n 1, 1)) ∧ (decode cX3_takeNumber 17 = .ok (.iload_n 2, 1)) ∧ (decode cX3_takeNumber 18 = .ok (.invokestatic 122, 3)) ∧ (decode cX3_takeNumber 21 = .ok (.ifCond .eq 7, 3)) ∧ (decode cX3_takeNumber 24 = .ok (.iconst 1, 1)) ∧ (decode cX3_takeNumber 25 = .ok (.goto 4, 3)) ∧ (decode cX3_takeNumber 28 = .ok (.iconst 0, 1)) ∧ (decode cX3_takeNumber 29 = .ok (.ireturn, 1)) := by decide +kernel
theorem dX3_takeNumber_0 : decode cX3_takeNumber 0 = .ok (.aload_n 0, 1) := bX3_takeNumber_0.1
theorem dX3_takeNumber_1 : decode cX3_takeNumber 1 = .ok (.invokevirtual 32, 3) := bX3_takeNumber_0.2.1
theorem dX3_takeNumber_4 : decode cX3_takeNumber 4 = .ok (.aload_n 0, 1) := bX3_takeNumber_0.2.2.1
theorem dX3_takeNumber_5 : decode cX3_takeNumber 5 = .ok (.getfield 35, 3) := bX3_takeNumber_0.2.2.2.1
theorem dX3_takeNumber_8 : decode cX3_takeNumber 8 = .ok (.iconst 2, 1) := bX3_takeNumber_0.2.2.2.2.1
theorem dX3_takeNumber_9 : decode cX3_takeNumber 9 = .ok (.if_icmp .ne 19, 3) := bX3_takeNumber_0.2.2.2.2.2.1
theorem dX3_takeNumber_12 : decode cX3_takeNumber 12 = .ok (.aload_n 0, 1) := bX3_takeNumber_0.2.2.2.2.2.2.1
theorem dX3_takeNumber_13 : decode cX3_takeNumber 13 = .ok (.getfield 87, 3) := bX3_takeNumber_0.2.2.2.2.2.2.2.1
theorem dX3_takeNumber_16 : decode cX3_takeNumber 16 = .ok (.iload_n 1, 1) := bX3_takeNumber_0.2.2.2.2.2.2.2.2.1
theorem dX3_takeNumber_17 : decode cX3_takeNumber 17 = .ok (.iload_n 2, 1) := bX3_takeNumber_0.2.2.2.2.2.2.2.2.2.1
theorem dX3_takeNumber_18 : decode cX3_takeNumber 18 = .ok (.invokestatic 122, 3) := bX3_takeNumber_0.2.2.2.2.2.2.2.2.2.2.1
theorem dX3_takeNumber_21 : decode cX3_takeNumber 21 = .ok (.ifCond .eq 7, 3) := bX3_takeNumber_0.2.2.2.2.2.2.2.2.2.2.2.1
theorem dX3_takeNumber_24 : decode cX3_takeNumber 24 = .ok (.iconst 1, 1) := bX3_takeNumber_0.2.2.2.2.2.2.2.2.2.2.2.2.1
theorem dX3_takeNumber_25 : decode cX3_takeNumber 25 = .ok (.goto 4, 3) := bX3_takeNumber_0.2.2.2.2.2.2.2.2.2.2.2.2.2.1
theorem dX3_takeNumber_28 : decode cX3_takeNumber 28 = .ok (.iconst 0, 1) := bX3_takeNumber_0.2.2.2.2.2.2.2.2.2.2.2.2.2.2.1
theorem dX3_takeNumber_29 : decode cX3_takeNumber 29 = .ok (.ireturn, 1) := bX3_takeNumber_0.2.2.2.2.2.2.2.2.2.2.2.2.2.2.2
theorem bX3_takeStop_0 : (decode cX3_takeStop 0 = .ok (.aload_n 0, 1)) ∧ (decode cX3_takeStop 1 = .ok (.invokevirtual 32, 3)) ∧ (decode cX3_takeStop 4 = .ok (.aload_n 0, 1)) ∧ (decode cX3_takeStop 5 = .ok (.getfield 35, 3)) ∧ (decode cX3_takeStop 8 = .ok (.iconst 3, 1)) ∧ (decode cX3_takeStop 9 = .ok (.if_icmp .ne 7, 3)) ∧ (decode cX3_takeStop 12 = .ok (.iconst 1, 1)) ∧ (decode cX3_takeStop 13 = .ok (.goto 4, 3)) ∧ (decode cX3_takeStop 16 = .ok (.iconst 0, 1)) ∧ (decode cX3_takeStop 17 = .ok (.ireturn, 1)) := by decide +kernel
theorem dX3_takeStop_0 : decode cX3_takeStop 0 = .ok (.aload_n 0, 1) := bX3_takeStop_0.1
theorem dX3_takeStop_1 : decode cX3_takeStop 1 = .ok (.invokevirtual 32, 3) := bX3_takeStop_0.2.1
theorem dX3_takeStop_4 : decode cX3_takeStop 4 = .ok (.aload_n 0, 1) := bX3_takeStop_0.2.2.1
theorem dX3_takeStop_5 : decode cX3_takeStop 5 = .ok (.getfield 35, 3) := bX3_takeStop_0.2.2.2.1
theorem dX3_takeStop_8 : decode cX3_takeStop 8 = .ok (.iconst 3, 1) := bX3_takeStop_0.2.2.2.2.1
theorem dX3_takeStop_9 : decode cX3_takeStop 9 = .ok (.if_icmp .ne 7, 3) := bX3_takeStop_0.2.2.2.2.2.1
theorem dX3_takeStop_12 : decode cX3_takeStop 12 = .ok (.iconst 1, 1) := bX3_takeStop_0.2.2.2.2.2.2.1
theorem dX3_takeStop_13 : decode cX3_takeStop 13 = .ok (.goto 4, 3) := bX3_takeStop_0.2.2.2.2.2.2.2.1
theorem dX3_takeStop_16 : decode cX3_takeStop 16 = .ok (.iconst 0, 1) := bX3_takeStop_0.2.2.2.2.2.2.2.2.1
theorem dX3_takeStop_17 : decode cX3_takeStop 17 = .ok (.ireturn, 1) := bX3_takeStop_0.2.2.2.2.2.2.2.2.2
theorem bX3_isWord_0 : (decode cX3_isWord 0 = .ok (.aload_n 0, 1)) ∧ (decode cX3_isWord 1 = .ok (.getfield 35, 3)) ∧ (decode cX3_isWord 4 = .ok (.iconst 1, 1)) ∧ (decode cX3_isWord 5 = .ok (.if_icmp .ne 19, 3)) ∧ (decode cX3_isWord 8 = .ok (.aload_n 0, 1)) ∧ (decode cX3_isWord 9 = .ok (.getfield 26, 3)) ∧ (decode cX3_isWord 12 = .ok (.aload_n 0, 1)) ∧ (decode cX3_isWord 13 = .ok (.getfield 46, 3)) ∧ (decode cX3_isWord 16 = .ok (.isub, 1)) ∧ (decode cX3_isWord 17 = .ok (.aload_n 1, 1)) ∧ (decode cX3_isWord 18 = .ok (.invokevirtual 126, 3)) ∧ (decode cX3_isWord 21 = .ok (.if_icmp .eq 5, 3)) ∧ (decode cX3_isWord 24 = .ok (.iconst 0, 1)) ∧ (decode cX3_isWord 25 = .ok (.ireturn, 1)) ∧ (decode cX3_isWord 26 = .ok (.iconst 0, 1)) ∧ (decode cX3_isWord 27 = .ok (.istore_n 2, 1)) := by decide +kernel
theorem dX3_isWord_0 : decode cX3_isWord 0 = .ok (.aload_n 0, 1) := bX3_isWord_0.1
theorem dX3_isWord_1 : decode cX3_isWord 1 = .ok (.getfield 35, 3) := bX3_isWord_0.2.1
theorem dX3_isWord_4 : decode cX3_isWord 4 = .ok (.iconst 1, 1) := bX3_isWord_0.2.2.1
theorem dX3_isWord_5 : decode cX3_isWord 5 = .ok (.if_icmp .ne 19, 3) := bX3_isWord_0.2.2.2.1
theorem dX3_isWord_8 : decode cX3_isWord 8 = .ok (.aload_n 0, 1) := bX3_isWord_0.2.2.2.2.1
theorem dX3_isWord_9 : decode cX3_isWord 9 = .ok (.getfield 26, 3) := bX3_isWord_0.2.2.2.2.2.1
theorem dX3_isWord_12 : decode cX3_isWord 12 = .ok (.aload_n 0, 1) := bX3_isWord_0.2.2.2.2.2.2.1
theorem dX3_isWord_13 : decode cX3_isWord 13 = .ok (.getfield 46, 3) := bX3_isWord_0.2.2.2.2.2.2.2.1
theorem dX3_isWord_16 : decode cX3_isWord 16 = .ok (.isub, 1) := bX3_isWord_0.2.2.2.2.2.2.2.2.1
theorem dX3_isWord_17 : decode cX3_isWord 17 = .ok (.aload_n 1, 1) := bX3_isWord_0.2.2.2.2.2.2.2.2.2.1
theorem dX3_isWord_18 : decode cX3_isWord 18 = .ok (.invokevirtual 126, 3) := bX3_isWord_0.2.2.2.2.2.2.2.2.2.2.1
theorem dX3_isWord_21 : decode cX3_isWord 21 = .ok (.if_icmp .eq 5, 3) := bX3_isWord_0.2.2.2.2.2.2.2.2.2.2.2.1
theorem dX3_isWord_24 : decode cX3_isWord 24 = .ok (.iconst 0, 1) := bX3_isWord_0.2.2.2.2.2.2.2.2.2.2.2.2.1
theorem dX3_isWord_25 : decode cX3_isWord 25 = .ok (.ireturn, 1) := bX3_isWord_0.2.2.2.2.2.2.2.2.2.2.2.2.2.1
theorem dX3_isWord_26 : decode cX3_isWord 26 = .ok (.iconst 0, 1) := bX3_isWord_0.2.2.2.2.2.2.2.2.2.2.2.2.2.2.1
theorem dX3_isWord_27 : decode cX3_isWord 27 = .ok (.istore_n 2, 1) := bX3_isWord_0.2.2.2.2.2.2.2.2.2.2.2.2.2.2.2
theorem bX3_isWord_28 : (decode cX3_isWord 28 = .ok (.iload_n 2, 1)) ∧ (decode cX3_isWord 29 = .ok (.aload_n 1, 1)) ∧ (decode cX3_isWord 30 = .ok (.invokevirtual 126, 3)) ∧ (decode cX3_isWord 33 = .ok (.if_icmp .ge 30, 3)) ∧ (decode cX3_isWord 36 = .ok (.aload_n 0, 1)) ∧ (decode cX3_isWord 37 = .ok (.getfield 9, 3)) ∧ (decode cX3_isWord 40 = .ok (.aload_n 0, 1)) ∧ (decode cX3_isWord 41 = .ok (.getfield 46, 3)) ∧ (decode cX3_isWord 44 = .ok (.iload_n 2, 1)) ∧ (decode cX3_isWord 45 = .ok (.iadd, 1)) ∧ (decode cX3_isWord 46 = .ok (.iaload, 1)) ∧ (decode cX3_isWord 47 = .ok (.aload_n 1, 1)) ∧ (decode cX3_isWord 48 = .ok (.iload_n 2, 1)) ∧ (decode cX3_isWord 49 = .ok (.invokevirtual 131, 3)) ∧ (decode cX3_isWord 52 = .ok (.if_icmp .eq 5, 3)) ∧ (decode cX3_isWord 55 = .ok (.iconst 0, 1)) := by decide +kernel
theorem dX3_isWord_28 : decode cX3_isWord 28 = .ok (.iload_n 2, 1) := bX3_isWord_28.1
theorem dX3_isWord_29 : decode cX3_isWord 29 = .ok (.aload_n 1, 1) := bX3_isWord_28.2.1
theorem dX3_isWord_30 : decode cX3_isWord 30 = .ok (.invokevirtual 126, 3) := bX3_isWord_28.2.2.1
theorem dX3_isWord_33 : decode cX3_isWord 33 = .ok (.if_icmp .ge 30, 3) := bX3_isWord_28.2.2.2.1
theorem dX3_isWord_36 : decode cX3_isWord 36 = .ok (.aload_n 0, 1) := bX3_isWord_28.2.2.2.2.1
theorem dX3_isWord_37 : decode cX3_isWord 37 = .ok (.getfield 9, 3) := bX3_isWord_28.2.2.2.2.2.1
theorem dX3_isWord_40 : decode cX3_isWord 40 = .ok (.aload_n 0, 1) := bX3_isWord_28.2.2.2.2.2.2.1
theorem dX3_isWord_41 : decode cX3_isWord 41 = .ok (.getfield 46, 3) := bX3_isWord_28.2.2.2.2.2.2.2.1
theorem dX3_isWord_44 : decode cX3_isWord 44 = .ok (.iload_n 2, 1) := bX3_isWord_28.2.2.2.2.2.2.2.2.1
theorem dX3_isWord_45 : decode cX3_isWord 45 = .ok (.iadd, 1) := bX3_isWord_28.2.2.2.2.2.2.2.2.2.1
theorem dX3_isWord_46 : decode cX3_isWord 46 = .ok (.iaload, 1) := bX3_isWord_28.2.2.2.2.2.2.2.2.2.2.1
theorem dX3_isWord_47 : decode cX3_isWord 47 = .ok (.aload_n 1, 1) := bX3_isWord_28.2.2.2.2.2.2.2.2.2.2.2.1
theorem dX3_isWord_48 : decode cX3_isWord 48 = .ok (.iload_n 2, 1) := bX3_isWord_28.2.2.2.2.2.2.2.2.2.2.2.2.1
theorem dX3_isWord_49 : decode cX3_isWord 49 = .ok (.invokevirtual 131, 3) := bX3_isWord_28.2.2.2.2.2.2.2.2.2.2.2.2.2.1
theorem dX3_isWord_52 : decode cX3_isWord 52 = .ok (.if_icmp .eq 5, 3) := bX3_isWord_28.2.2.2.2.2.2.2.2.2.2.2.2.2.2.1
theorem dX3_isWord_55 : decode cX3_isWord 55 = .ok (.iconst 0, 1) := bX3_isWord_28.2.2.2.2.2.2.2.2.2.2.2.2.2.2.2
theorem bX3_isWord_56 : (decode cX3_isWord 56 = .ok (.ireturn, 1)) ∧ (decode cX3_isWord 57 = .ok (.iinc 2 1, 3)) ∧ (decode cX3_isWord 60 = .ok (.goto (-32), 3)) ∧ (decode cX3_isWord 63 = .ok (.iconst 1, 1)) ∧ (decode cX3_isWord 64 = .ok (.ireturn, 1)) := by decide +kernel
theorem dX3_isWord_56 : decode cX3_isWord 56 = .ok (.ireturn, 1) := bX3_isWord_56.1
theorem dX3_isWord_57 : decode cX3_isWord 57 = .ok (.iinc 2 1, 3) := bX3_isWord_56.2.1
theorem dX3_isWord_60 : decode cX3_isWord 60 = .ok (.goto (-32), 3) := bX3_isWord_56.2.2.1
theorem dX3_isWord_63 : decode cX3_isWord 63 = .ok (.iconst 1, 1) := bX3_isWord_56.2.2.2.1
theorem dX3_isWord_64 : decode cX3_isWord 64 = .ok (.ireturn, 1) := bX3_isWord_56.2.2.2.2
theorem bX3_nextToken_0 : (decode cX3_nextToken 0 = .ok (.aload_n 0, 1)) ∧ (decode cX3_nextToken 1 = .ok (.getfield 26, 3)) ∧ (decode cX3_nextToken 4 = .ok (.aload_n 0, 1)) ∧ (decode cX3_nextToken 5 = .ok (.getfield 22, 3)) ∧ (decode cX3_nextToken 8 = .ok (.if_icmp .ge 30, 3)) ∧ (decode cX3_nextToken 11 = .ok (.aload_n 0, 1)) ∧ (decode cX3_nextToken 12 = .ok (.getfield 9, 3)) ∧ (decode cX3_nextToken 15 = .ok (.aload_n 0, 1)) ∧ (decode cX3_nextToken 16 = .ok (.getfield 26, 3)) ∧ (decode cX3_nextToken 19 = .ok (.iaload, 1)) ∧ (decode cX3_nextToken 20 = .ok (.bipush 32, 2)) ∧ (decode cX3_nextToken 22 = .ok (.if_icmp .ne 16, 3)) ∧ (decode cX3_nextToken 25 = .ok (.aload_n 0, 1)) ∧ (decode cX3_nextToken 26 = .ok (.dup, 1)) ∧ (decode cX3_nextToken 27 = .ok (.getfield 26, 3)) ∧ (decode cX3_nextToken 30 = .ok (.iconst 1, 1)) := by decide +kernel
theorem dX3_nextToken_0 : decode cX3_nextToken 0 = .ok (.aload_n 0, 1) := bX3_nextToken_0.1
theorem dX3_nextToken_1 : decode cX3_nextToken 1 = .ok (.getfield 26, 3) := bX3_nextToken_0.2.1
theorem dX3_nextToken_4 : decode cX3_nextToken 4 = .ok (.aload_n 0, 1) := bX3_nextToken_0.2.2.1
theorem dX3_nextToken_5 : decode cX3_nextToken 5 = .ok (.getfield 22, 3) := bX3_nextToken_0.2.2.2.1
theorem dX3_nextToken_8 : decode cX3_nextToken 8 = .ok (.if_icmp .ge 30, 3) := bX3_nextToken_0.2.2.2.2.1
theorem dX3_nextToken_11 : decode cX3_nextToken 11 = .ok (.aload_n 0, 1) := bX3_nextToken_0.2.2.2.2.2.1
theorem dX3_nextToken_12 : decode cX3_nextToken 12 = .ok (.getfield 9, 3) := bX3_nextToken_0.2.2.2.2.2.2.1
theorem dX3_nextToken_15 : decode cX3_nextToken 15 = .ok (.aload_n 0, 1) := bX3_nextToken_0.2.2.2.2.2.2.2.1
theorem dX3_nextToken_16 : decode cX3_nextToken 16 = .ok (.getfield 26, 3) := bX3_nextToken_0.2.2.2.2.2.2.2.2.1
theorem dX3_nextToken_19 : decode cX3_nextToken 19 = .ok (.iaload, 1) := bX3_nextToken_0.2.2.2.2.2.2.2.2.2.1
theorem dX3_nextToken_20 : decode cX3_nextToken 20 = .ok (.bipush 32, 2) := bX3_nextToken_0.2.2.2.2.2.2.2.2.2.2.1
theorem dX3_nextToken_22 : decode cX3_nextToken 22 = .ok (.if_icmp .ne 16, 3) := bX3_nextToken_0.2.2.2.2.2.2.2.2.2.2.2.1
theorem dX3_nextToken_25 : decode cX3_nextToken 25 = .ok (.aload_n 0, 1) := bX3_nextToken_0.2.2.2.2.2.2.2.2.2.2.2.2.1
theorem dX3_nextToken_26 : decode cX3_nextToken 26 = .ok (.dup, 1) := bX3_nextToken_0.2.2.2.2.2.2.2.2.2.2.2.2.2.1
theorem dX3_nextToken_27 : decode cX3_nextToken 27 = .ok (.getfield 26, 3) := bX3_nextToken_0.2.2.2.2.2.2.2.2.2.2.2.2.2.2.1
theorem dX3_nextToken_30 : decode cX3_nextToken 30 = .ok (.iconst 1, 1) := bX3_nextToken_0.2.2.2.2.2.2.2.2.2.2.2.2.2.2.2
theorem bX3_nextToken_31 : (decode cX3_nextToken 31 = .ok (.iadd, 1)) ∧ (decode cX3_nextToken 32 = .ok (.putfield 26, 3)) ∧ (decode cX3_nextToken 35 = .ok (.goto (-35), 3)) ∧ (decode cX3_nextToken 38 = .ok (.aload_n 0, 1)) ∧ (decode cX3_nextToken 39 = .ok (.aload_n 0, 1)) ∧ (decode cX3_nextToken 40 = .ok (.getfield 26, 3)) ∧ (decode cX3_nextToken 43 = .ok (.putfield 46, 3)) ∧ (decode cX3_nextToken 46 = .ok (.aload_n 0, 1)) ∧ (decode cX3_nextToken 47 = .ok (.getfield 26, 3)) ∧ (decode cX3_nextToken 50 = .ok (.aload_n 0, 1)) ∧ (decode cX3_nextToken 51 = .ok (.getfield 22, 3)) ∧ (decode cX3_nextToken 54 = .ok (.if_icmp .lt 11, 3)) ∧ (decode cX3_nextToken 57 = .ok (.aload_n 0, 1)) ∧ (decode cX3_nextToken 58 = .ok (.iconst 0, 1)) ∧ (decode cX3_nextToken 59 = .ok (.putfield 35, 3)) ∧ (decode cX3_nextToken 62 = .ok (.goto 174, 3)) := by decide +kernel
theorem dX3_nextToken_31 : decode cX3_nextToken 31 = .ok (.iadd, 1) := bX3_nextToken_31.1
theorem dX3_nextToken_32 : decode cX3_nextToken 32 = .ok (.putfield 26, 3) := bX3_nextToken_31.2.1
theorem dX3_nextToken_35 : decode cX3_nextToken 35 = .ok (.goto (-35), 3) := bX3_nextToken_31.2.2.1
theorem dX3_nextToken_38 : decode cX3_nextToken 38 = .ok (.aload_n 0, 1) := bX3_nextToken_31.2.2.2.1
theorem dX3_nextToken_39 : decode cX3_nextToken 39 = .ok (.aload_n 0, 1) := bX3_nextToken_31.2.2.2.2.1
theorem dX3_nextToken_40 : decode cX3_nextToken 40 = .ok (.getfield 26, 3) := bX3_nextToken_31.2.2.2.2.2.1
theorem dX3_nextToken_43 : decode cX3_nextToken 43 = .ok (.putfield 46, 3) := bX3_nextToken_31.2.2.2.2.2.2.1
theorem dX3_nextToken_46 : decode cX3_nextToken 46 = .ok (.aload_n 0, 1) := bX3_nextToken_31.2.2.2.2.2.2.2.1
theorem dX3_nextToken_47 : decode cX3_nextToken 47 = .ok (.getfield 26, 3) := bX3_nextToken_31.2.2.2.2.2.2.2.2.1
theorem dX3_nextToken_50 : decode cX3_nextToken 50 = .ok (.aload_n 0, 1) := bX3_nextToken_31.2.2.2.2.2.2.2.2.2.1
theorem dX3_nextToken_51 : decode cX3_nextToken 51 = .ok (.getfield 22, 3) := bX3_nextToken_31.2.2.2.2.2.2.2.2.2.2.1
theorem dX3_nextToken_54 : decode cX3_nextToken 54 = .ok (.if_icmp .lt 11, 3) := bX3_nextToken_31.2.2.2.2.2.2.2.2.2.2.2.1
theorem dX3_nextToken_57 : decode cX3_nextToken 57 = .ok (.aload_n 0, 1) := bX3_nextToken_31.2.2.2.2.2.2.2.2.2.2.2.2.1
theorem dX3_nextToken_58 : decode cX3_nextToken 58 = .ok (.iconst 0, 1) := bX3_nextToken_31.2.2.2.2.2.2.2.2.2.2.2.2.2.1
theorem dX3_nextToken_59 : decode cX3_nextToken 59 = .ok (.putfield 35, 3) := bX3_nextToken_31.2.2.2.2.2.2.2.2.2.2.2.2.2.2.1
theorem dX3_nextToken_62 : decode cX3_nextToken 62 = .ok (.goto 174, 3) := bX3_nextToken_31.2.2.2.2.2.2.2.2.2.2.2.2.2.2.2
theorem bX3_nextToken_65 : (decode cX3_nextToken 65 = .ok (.aload_n 0, 1)) ∧ (decode cX3_nextToken 66 = .ok (.getfield 9, 3)) ∧ (decode cX3_nextToken 69 = .ok (.aload_n 0, 1)) ∧ (decode cX3_nextToken 70 = .ok (.getfield 26, 3)) ∧ (decode cX3_nextToken 73 = .ok (.iaload, 1)) ∧ (decode cX3_nextToken 74 = .ok (.bipush 97, 2)) ∧ (decode cX3_nextToken 76 = .ok (.bipush 122, 2)) ∧ (decode cX3_nextToken 78 = .ok (.invokestatic 122, 3)) ∧ (decode cX3_nextToken 81 = .ok (.ifCond .eq 19, 3)) ∧ (decode cX3_nextToken 84 = .ok (.aload_n 0, 1)) ∧ (decode cX3_nextToken 85 = .ok (.bipush 97, 2)) ∧ (decode cX3_nextToken 87 = .ok (.bipush 122, 2)) ∧ (decode cX3_nextToken 89 = .ok (.invokevirtual 135, 3)) ∧ (decode cX3_nextToken 92 = .ok (.aload_n 0, 1)) ∧ (decode cX3_nextToken 93 = .ok (.iconst 1, 1)) ∧ (decode cX3_nextToken 94 = .ok (.putfield 35, 3)) := by decide +kernel
theorem dX3_nextToken_65 : decode cX3_nextToken 65 = .ok (.aload_n 0, 1) := bX3_nextToken_65.1
theorem dX3_nextToken_66 : decode cX3_nextToken 66 = .ok (.getfield 9, 3) := bX3_nextToken_65.2.1
theorem dX3_nextToken_69 : decode cX3_nextToken 69 = .ok (.aload_n 0, 1) := bX3_nextToken_65.2.2.1
theorem dX3_nextToken_70 : decode cX3_nextToken 70 = .ok (.getfield 26, 3) := bX3_nextToken_65.2.2.2.1
theorem dX3_nextToken_73 : decode cX3_nextToken 73 = .ok (.iaload, 1) := bX3_nextToken_65.2.2.2.2.1
theorem dX3_nextToken_74 : decode cX3_nextToken 74 = .ok (.bipush 97, 2) := bX3_nextToken_65.2.2.2.2.2.1
theorem dX3_nextToken_76 : decode cX3_nextToken 76 = .ok (.bipush 122, 2) := bX3_nextToken_65.2.2.2.2.2.2.1
theorem dX3_nextToken_78 : decode cX3_nextToken 78 = .ok (.invokestatic 122, 3) := bX3_nextToken_65.2.2.2.2.2.2.2.1
theorem dX3_nextToken_81 : decode cX3_nextToken 81 = .ok (.ifCond .eq 19, 3) := bX3_nextToken_65.2.2.2.2.2.2.2.2.1
theorem dX3_nextToken_84 : decode cX3_nextToken 84 = .ok (.aload_n 0, 1) := bX3_nextToken_65.2.2.2.2.2.2.2.2.2.1
theorem dX3_nextToken_85 : decode cX3_nextToken 85 = .ok (.bipush 97, 2) := bX3_nextToken_65.2.2.2.2.2.2.2.2.2.2.1
theorem dX3_nextToken_87 : decode cX3_nextToken 87 = .ok (.bipush 122, 2) := bX3_nextToken_65.2.2.2.2.2.2.2.2.2.2.2.1
theorem dX3_nextToken_89 : decode cX3_nextToken 89 = .ok (.invokevirtual 135, 3) := bX3_nextToken_65.2.2.2.2.2.2.2.2.2.2.2.2.1
theorem dX3_nextToken_92 : decode cX3_nextToken 92 = .ok (.aload_n 0, 1) := bX3_nextToken_65.2.2.2.2.2.2.2.2.2.2.2.2.2.1
theorem dX3_nextToken_93 : decode cX3_nextToken 93 = .ok (.iconst 1, 1) := bX3_nextToken_65.2.2.2.2.2.2.2.2.2.2.2.2.2.2.1
theorem dX3_nextToken_94 : decode cX3_nextToken 94 = .ok (.putfield 35, 3) := bX3_nextToken_65.2.2.2.2.2.2.2.2.2.2.2.2.2.2.2
theorem bX3_nextToken_97 : (decode cX3_nextToken 97 = .ok (.goto 139, 3)) ∧ (decode cX3_nextToken 100 = .ok (.aload_n 0, 1)) ∧ (decode cX3_nextToken 101 = .ok (.getfield 9, 3)) ∧ (decode cX3_nextToken 104 = .ok (.aload_n 0, 1)) ∧ (decode cX3_nextToken 105 = .ok (.getfield 26, 3)) ∧ (decode cX3_nextToken 108 = .ok (.iaload, 1)) ∧ (decode cX3_nextToken 109 = .ok (.bipush 48, 2)) ∧ (decode cX3_nextToken 111 = .ok (.bipush 57, 2)) ∧ (decode cX3_nextToken 113 = .ok (.invokestatic 122, 3)) ∧ (decode cX3_nextToken 116 = .ok (.ifCond .eq 87, 3)) ∧ (decode cX3_nextToken 119 = .ok (.aload_n 0, 1)) ∧ (decode cX3_nextToken 120 = .ok (.bipush 48, 2)) ∧ (decode cX3_nextToken 122 = .ok (.bipush 57, 2)) ∧ (decode cX3_nextToken 124 = .ok (.invokevirtual 135, 3)) ∧ (decode cX3_nextToken 127 = .ok (.aload_n 0, 1)) ∧ (decode cX3_nextToken 128 = .ok (.aload_n 0, 1)) := by decide +kernel
theorem dX3_nextToken_97 : decode cX3_nextToken 97 = .ok (.goto 139, 3) := bX3_nextToken_97.1
theorem dX3_nextToken_100 : decode cX3_nextToken 100 = .ok (.aload_n 0, 1) := bX3_nextToken_97.2.1
theorem dX3_nextToken_101 : decode cX3_nextToken 101 = .ok (.getfield 9, 3) := bX3_nextToken_97.2.2.1
theorem dX3_nextToken_104 : decode cX3_nextToken 104 = .ok (.aload_n 0, 1) := bX3_nextToken_97.2.2.2.1
theorem dX3_nextToken_105 : decode cX3_nextToken 105 = .ok (.getfield 26, 3) := bX3_nextToken_97.2.2.2.2.1
theorem dX3_nextToken_108 : decode cX3_nextToken 108 = .ok (.iaload, 1) := bX3_nextToken_97.2.2.2.2.2.1
theorem dX3_nextToken_109 : decode cX3_nextToken 109 = .ok (.bipush 48, 2) := bX3_nextToken_97.2.2.2.2.2.2.1
theorem dX3_nextToken_111 : decode cX3_nextToken 111 = .ok (.bipush 57, 2) := bX3_nextToken_97.2.2.2.2.2.2.2.1
theorem dX3_nextToken_113 : decode cX3_nextToken 113 = .ok (.invokestatic 122, 3) := bX3_nextToken_97.2.2.2.2.2.2.2.2.1
theorem dX3_nextToken_116 : decode cX3_nextToken 116 = .ok (.ifCond .eq 87, 3) := bX3_nextToken_97.2.2.2.2.2.2.2.2.2.1
theorem dX3_nextToken_119 : decode cX3_nextToken 119 = .ok (.aload_n 0, 1) := bX3_nextToken_97.2.2.2.2.2.2.2.2.2.2.1
theorem dX3_nextToken_120 : decode cX3_nextToken 120 = .ok (.bipush 48, 2) := bX3_nextToken_97.2.2.2.2.2.2.2.2.2.2.2.1
theorem dX3_nextToken_122 : decode cX3_nextToken 122 = .ok (.bipush 57, 2) := bX3_nextToken_97.2.2.2.2.2.2.2.2.2.2.2.2.1
theorem dX3_nextToken_124 : decode cX3_nextToken 124 = .ok (.invokevirtual 135, 3) := bX3_nextToken_97.2.2.2.2.2.2.2.2.2.2.2.2.2.1
theorem dX3_nextToken_127 : decode cX3_nextToken 127 = .ok (.aload_n 0, 1) := bX3_nextToken_97.2.2.2.2.2.2.2.2.2.2.2.2.2.2.1
theorem dX3_nextToken_128 : decode cX3_nextToken 128 = .ok (.aload_n 0, 1) := bX3_nextToken_97.2.2.2.2.2.2.2.2.2.2.2.2.2.2.2
theorem bX3_nextToken_129 : (decode cX3_nextToken 129 = .ok (.getfield 26, 3)) ∧ (decode cX3_nextToken 132 = .ok (.aload_n 0, 1)) ∧ (decode cX3_nextToken 133 = .ok (.getfield 46, 3)) ∧ (decode cX3_nextToken 136 = .ok (.isub, 1)) ∧ (decode cX3_nextToken 137 = .ok (.iconst 2, 1)) ∧ (decode cX3_nextToken 138 = .ok (.if_icmp .gt 7, 3)) ∧ (decode cX3_nextToken 141 = .ok (.iconst 2, 1)) ∧ (decode cX3_nextToken 142 = .ok (.goto 4, 3)) ∧ (decode cX3_nextToken 145 = .ok (.iconst 4, 1)) ∧ (decode cX3_nextToken 146 = .ok (.putfield 35, 3)) ∧ (decode cX3_nextToken 149 = .ok (.aload_n 0, 1)) ∧ (decode cX3_nextToken 150 = .ok (.aload_n 0, 1)) ∧ (decode cX3_nextToken 151 = .ok (.getfield 9, 3)) ∧ (decode cX3_nextToken 154 = .ok (.aload_n 0, 1)) ∧ (decode cX3_nextToken 155 = .ok (.getfield 26, 3)) ∧ (decode cX3_nextToken 158 = .ok (.iconst 1, 1)) := by decide +kernel
theorem dX3_nextToken_129 : decode cX3_nextToken 129 = .ok (.getfield 26, 3) := bX3_nextToken_129.1
theorem dX3_nextToken_132 : decode cX3_nextToken 132 = .ok (.aload_n 0, 1) := bX3_nextToken_129.2.1
theorem dX3_nextToken_133 : decode cX3_nextToken 133 = .ok (.getfield 46, 3) := bX3_nextToken_129.2.2.1
theorem dX3_nextToken_136 : decode cX3_nextToken 136 = .ok (.isub, 1) := bX3_nextToken_129.2.2.2.1
theorem dX3_nextToken_137 : decode cX3_nextToken 137 = .ok (.iconst 2, 1) := bX3_nextToken_129.2.2.2.2.1
theorem dX3_nextToken_138 : decode cX3_nextToken 138 = .ok (.if_icmp .gt 7, 3) := bX3_nextToken_129.2.2.2.2.2.1
theorem dX3_nextToken_141 : decode cX3_nextToken 141 = .ok (.iconst 2, 1) := bX3_nextToken_129.2.2.2.2.2.2.1
theorem dX3_nextToken_142 : decode cX3_nextToken 142 = .ok (.goto 4, 3) := bX3_nextToken_129.2.2.2.2.2.2.2.1
theorem dX3_nextToken_145 : decode cX3_nextToken 145 = .ok (.iconst 4, 1) := bX3_nextToken_129.2.2.2.2.2.2.2.2.1
theorem dX3_nextToken_146 : decode cX3_nextToken 146 = .ok (.putfield 35, 3) := bX3_nextToken_129.2.2.2.2.2.2.2.2.2.1
theorem dX3_nextToken_149 : decode cX3_nextToken 149 = .ok (.aload_n 0, 1) := bX3_nextToken_129.2.2.2.2.2.2.2.2.2.2.1
theorem dX3_nextToken_150 : decode cX3_nextToken 150 = .ok (.aload_n 0, 1) := bX3_nextToken_129.2.2.2.2.2.2.2.2.2.2.2.1
theorem dX3_nextToken_151 : decode cX3_nextToken 151 = .ok (.getfield 9, 3) := bX3_nextToken_129.2.2.2.2.2.2.2.2.2.2.2.2.1
theorem dX3_nextToken_154 : decode cX3_nextToken 154 = .ok (.aload_n 0, 1) := bX3_nextToken_129.2.2.2.2.2.2.2.2.2.2.2.2.2.1
theorem dX3_nextToken_155 : decode cX3_nextToken 155 = .ok (.getfield 26, 3) := bX3_nextToken_129.2.2.2.2.2.2.2.2.2.2.2.2.2.2.1
theorem dX3_nextToken_158 : decode cX3_nextToken 158 = .ok (.iconst 1, 1) := bX3_nextToken_129.2.2.2.2.2.2.2.2.2.2.2.2.2.2.2
theorem bX3_nextToken_159 : (decode cX3_nextToken 159 = .ok (.isub, 1)) ∧ (decode cX3_nextToken 160 = .ok (.iaload, 1)) ∧ (decode cX3_nextToken 161 = .ok (.bipush 48, 2)) ∧ (decode cX3_nextToken 163 = .ok (.isub, 1)) ∧ (decode cX3_nextToken 164 = .ok (.aload_n 0, 1)) ∧ (decode cX3_nextToken 165 = .ok (.getfield 26, 3)) ∧ (decode cX3_nextToken 168 = .ok (.aload_n 0, 1)) ∧ (decode cX3_nextToken 169 = .ok (.getfield 46, 3)) ∧ (decode cX3_nextToken 172 = .ok (.isub, 1)) ∧ (decode cX3_nextToken 173 = .ok (.iconst 2, 1)) ∧ (decode cX3_nextToken 174 = .ok (.if_icmp .ne 21, 3)) ∧ (decode cX3_nextToken 177 = .ok (.bipush 10, 2)) ∧ (decode cX3_nextToken 179 = .ok (.aload_n 0, 1)) ∧ (decode cX3_nextToken 180 = .ok (.getfield 9, 3)) ∧ (decode cX3_nextToken 183 = .ok (.aload_n 0, 1)) ∧ (decode cX3_nextToken 184 = .ok (.getfield 46, 3)) := by decide +kernel
theorem dX3_nextToken_159 : decode cX3_nextToken 159 = .ok (.isub, 1) := bX3_nextToken_159.1
theorem dX3_nextToken_160 : decode cX3_nextToken 160 = .ok (.iaload, 1) := bX3_nextToken_159.2.1
theorem dX3_nextToken_161 : decode cX3_nextToken 161 = .ok (.bipush 48, 2) := bX3_nextToken_159.2.2.1
theorem dX3_nextToken_163 : decode cX3_nextToken 163 = .ok (.isub, 1) := bX3_nextToken_159.2.2.2.1
theorem dX3_nextToken_164 : decode cX3_nextToken 164 = .ok (.aload_n 0, 1) := bX3_nextToken_159.2.2.2.2.1
theorem dX3_nextToken_165 : decode cX3_nextToken 165 = .ok (.getfield 26, 3) := bX3_nextToken_159.2.2.2.2.2.1
theorem dX3_nextToken_168 : decode cX3_nextToken 168 = .ok (.aload_n 0, 1) := bX3_nextToken_159.2.2.2.2.2.2.1
theorem dX3_nextToken_169 : decode cX3_nextToken 169 = .ok (.getfield 46, 3) := bX3_nextToken_159.2.2.2.2.2.2.2.1
theorem dX3_nextToken_172 : decode cX3_nextToken 172 = .ok (.isub, 1) := bX3_nextToken_159.2.2.2.2.2.2.2.2.1
theorem dX3_nextToken_173 : decode cX3_nextToken 173 = .ok (.iconst 2, 1) := bX3_nextToken_159.2.2.2.2.2.2.2.2.2.1
theorem dX3_nextToken_174 : decode cX3_nextToken 174 = .ok (.if_icmp .ne 21, 3) := bX3_nextToken_159.2.2.2.2.2.2.2.2.2.2.1
theorem dX3_nextToken_177 : decode cX3_nextToken 177 = .ok (.bipush 10, 2) := bX3_nextToken_159.2.2.2.2.2.2.2.2.2.2.2.1
theorem dX3_nextToken_179 : decode cX3_nextToken 179 = .ok (.aload_n 0, 1) := bX3_nextToken_159.2.2.2.2.2.2.2.2.2.2.2.2.1
theorem dX3_nextToken_180 : decode cX3_nextToken 180 = .ok (.getfield 9, 3) := bX3_nextToken_159.2.2.2.2.2.2.2.2.2.2.2.2.2.1
theorem dX3_nextToken_183 : decode cX3_nextToken 183 = .ok (.aload_n 0, 1) := bX3_nextToken_159.2.2.2.2.2.2.2.2.2.2.2.2.2.2.1
theorem dX3_nextToken_184 : decode cX3_nextToken 184 = .ok (.getfield 46, 3) := bX3_nextToken_159.2.2.2.2.2.2.2.2.2.2.2.2.2.2.2
theorem bX3_nextToken_187 : (decode cX3_nextToken 187 = .ok (.iaload, 1)) ∧ (decode cX3_nextToken 188 = .ok (.bipush 48, 2)) ∧ (decode cX3_nextToken 190 = .ok (.isub, 1)) ∧ (decode cX3_nextToken 191 = .ok (.imul, 1)) ∧ (decode cX3_nextToken 192 = .ok (.goto 4, 3)) ∧ (decode cX3_nextToken 195 = .ok (.iconst 0, 1)) ∧ (decode cX3_nextToken 196 = .ok (.iadd, 1)) ∧ (decode cX3_nextToken 197 = .ok (.putfield 87, 3)) ∧ (decode cX3_nextToken 200 = .ok (.goto 36, 3)) ∧ (decode cX3_nextToken 203 = .ok (.aload_n 0, 1)) ∧ (decode cX3_nextToken 204 = .ok (.aload_n 0, 1)) ∧ (decode cX3_nextToken 205 = .ok (.getfield 9, 3)) ∧ (decode cX3_nextToken 208 = .ok (.aload_n 0, 1)) ∧ (decode cX3_nextToken 209 = .ok (.getfield 26, 3)) ∧ (decode cX3_nextToken 212 = .ok (.iaload, 1)) ∧ (decode cX3_nextToken 213 = .ok (.bipush 59, 2)) := by decide +kernel
theorem dX3_nextToken_187 : decode cX3_nextToken 187 = .ok (.iaload, 1) := bX3_nextToken_187.1
theorem dX3_nextToken_188 : decode cX3_nextToken 188 = .ok (.bipush 48, 2) := bX3_nextToken_187.2.1
theorem dX3_nextToken_190 : decode cX3_nextToken 190 = .ok (.isub, 1) := bX3_nextToken_187.2.2.1
theorem dX3_nextToken_191 : decode cX3_nextToken 191 = .ok (.imul, 1) := bX3_nextToken_187.2.2.2.1
theorem dX3_nextToken_192 : decode cX3_nextToken 192 = .ok (.goto 4, 3) := bX3_nextToken_187.2.2.2.2.1
theorem dX3_nextToken_195 : decode cX3_nextToken 195 = .ok (.iconst 0, 1) := bX3_nextToken_187.2.2.2.2.2.1
theorem dX3_nextToken_196 : decode cX3_nextToken 196 = .ok (.iadd, 1) := bX3_nextToken_187.2.2.2.2.2.2.1
theorem dX3_nextToken_197 : decode cX3_nextToken 197 = .ok (.putfield 87, 3) := bX3_nextToken_187.2.2.2.2.2.2.2.1
theorem dX3_nextToken_200 : decode cX3_nextToken 200 = .ok (.goto 36, 3) := bX3_nextToken_187.2.2.2.2.2.2.2.2.1
theorem dX3_nextToken_203 : decode cX3_nextToken 203 = .ok (.aload_n 0, 1) := bX3_nextToken_187.2.2.2.2.2.2.2.2.2.1
theorem dX3_nextToken_204 : decode cX3_nextToken 204 = .ok (.aload_n 0, 1) := bX3_nextToken_187.2.2.2.2.2.2.2.2.2.2.1
theorem dX3_nextToken_205 : decode cX3_nextToken 205 = .ok (.getfield 9, 3) := bX3_nextToken_187.2.2.2.2.2.2.2.2.2.2.2.1
theorem dX3_nextToken_208 : decode cX3_nextToken 208 = .ok (.aload_n 0, 1) := bX3_nextToken_187.2.2.2.2.2.2.2.2.2.2.2.2.1
theorem dX3_nextToken_209 : decode cX3_nextToken 209 = .ok (.getfield 26, 3) := bX3_nextToken_187.2.2.2.2.2.2.2.2.2.2.2.2.2.1
theorem dX3_nextToken_212 : decode cX3_nextToken 212 = .ok (.iaload, 1) := bX3_nextToken_187.2.2.2.2.2.2.2.2.2.2.2.2.2.2.1
theorem dX3_nextToken_213 : decode cX3_nextToken 213 = .ok (.bipush 59, 2) := bX3_nextToken_187.2.2.2.2.2.2.2.2.2.2.2.2.2.2.2
theorem bX3_nextToken_215 : (decode cX3_nextToken 215 = .ok (.if_icmp .ne 7, 3)) ∧ (decode cX3_nextToken 218 = .ok (.iconst 3, 1)) ∧ (decode cX3_nextToken 219 = .ok (.goto 4, 3)) ∧ (decode cX3_nextToken 222 = .ok (.iconst 4, 1)) ∧ (decode cX3_nextToken 223 = .ok (.putfield 35, 3)) ∧ (decode cX3_nextToken 226 = .ok (.aload_n 0, 1)) ∧ (decode cX3_nextToken 227 = .ok (.dup, 1)) ∧ (decode cX3_nextToken 228 = .ok (.getfield 26, 3)) ∧ (decode cX3_nextToken 231 = .ok (.iconst 1, 1)) ∧ (decode cX3_nextToken 232 = .ok (.iadd, 1)) ∧ (decode cX3_nextToken 233 = .ok (.putfield 26, 3)) ∧ (decode cX3_nextToken 236 = .ok (.return_, 1)) := by decide +kernel
theorem dX3_nextToken_215 : decode cX3_nextToken 215 = .ok (.if_icmp .ne 7, 3) := bX3_nextToken_215.1
theorem dX3_nextToken_218 : decode cX3_nextToken 218 = .ok (.iconst 3, 1) := bX3_nextToken_215.2.1
theorem dX3_nextToken_219 : decode cX3_nextToken 219 = .ok (.goto 4, 3) := bX3_nextToken_215.2.2.1
theorem dX3_nextToken_222 : decode cX3_nextToken 222 = .ok (.iconst 4, 1) := bX3_nextToken_215.2.2.2.1
theorem dX3_nextToken_223 : decode cX3_nextToken 223 = .ok (.putfield 35, 3) := bX3_nextToken_215.2.2.2.2.1
theorem dX3_nextToken_226 : decode cX3_nextToken 226 = .ok (.aload_n 0, 1) := bX3_nextToken_215.2.2.2.2.2.1
theorem dX3_nextToken_227 : decode cX3_nextToken 227 = .ok (.dup, 1) := bX3_nextToken_215.2.2.2.2.2.2.1
theorem dX3_nextToken_228 : decode cX3_nextToken 228 = .ok (.getfield 26, 3) := bX3_nextToken_215.2.2.2.2.2.2.2.1
theorem dX3_nextToken_231 : decode cX3_nextToken 231 = .ok (.iconst 1, 1) := bX3_nextToken_215.2.2.2.2.2.2.2.2.1
theorem dX3_nextToken_232 : decode cX3_nextToken 232 = .ok (.iadd, 1) := bX3_nextToken_215.2.2.2.2.2.2.2.2.2.1
theorem dX3_nextToken_233 : decode cX3_nextToken 233 = .ok (.putfield 26, 3) := bX3_nextToken_215.2.2.2.2.2.2.2.2.2.2.1
theorem dX3_nextToken_236 : decode cX3_nextToken 236 = .ok (.return_, 1) := bX3_nextToken_215.2.2.2.2.2.2.2.2.2.2.2
theorem bX3_passRun_0 : (decode cX3_passRun 0 = .ok (.aload_n 0, 1)) ∧ (decode cX3_passRun 1 = .ok (.getfield 26, 3)) ∧ (decode cX3_passRun 4 = .ok (.aload_n 0, 1)) ∧ (decode cX3_passRun 5 = .ok (.getfield 22, 3)) ∧ (decode cX3_passRun 8 = .ok (.if_icmp .ge 33, 3)) ∧ (decode cX3_passRun 11 = .ok (.aload_n 0, 1)) ∧ (decode cX3_passRun 12 = .ok (.getfield 9, 3)) ∧ (decode cX3_passRun 15 = .ok (.aload_n 0, 1)) ∧ (decode cX3_passRun 16 = .ok (.getfield 26, 3)) ∧ (decode cX3_passRun 19 = .ok (.iaload, 1)) ∧ (decode cX3_passRun 20 = .ok (.iload_n 1, 1)) ∧ (decode cX3_passRun 21 = .ok (.iload_n 2, 1)) ∧ (decode cX3_passRun 22 = .ok (.invokestatic 122, 3)) ∧ (decode cX3_passRun 25 = .ok (.ifCond .eq 16, 3)) ∧ (decode cX3_passRun 28 = .ok (.aload_n 0, 1)) ∧ (decode cX3_passRun 29 = .ok (.dup, 1)) := by decide +kernel
theorem dX3_passRun_0 : decode cX3_passRun 0 = .ok (.aload_n 0, 1) := bX3_passRun_0.1
theorem dX3_passRun_1 : decode cX3_passRun 1 = .ok (.getfield 26, 3) := bX3_passRun_0.2.1
theorem dX3_passRun_4 : decode cX3_passRun 4 = .ok (.aload_n 0, 1) := bX3_passRun_0.2.2.1
theorem dX3_passRun_5 : decode cX3_passRun 5 = .ok (.getfield 22, 3) := bX3_passRun_0.2.2.2.1
theorem dX3_passRun_8 : decode cX3_passRun 8 = .ok (.if_icmp .ge 33, 3) := bX3_passRun_0.2.2.2.2.1
theorem dX3_passRun_11 : decode cX3_passRun 11 = .ok (.aload_n 0, 1) := bX3_passRun_0.2.2.2.2.2.1
theorem dX3_passRun_12 : decode cX3_passRun 12 = .ok (.getfield 9, 3) := bX3_passRun_0.2.2.2.2.2.2.1
theorem dX3_passRun_15 : decode cX3_passRun 15 = .ok (.aload_n 0, 1) := bX3_passRun_0.2.2.2.2.2.2.2.1
theorem dX3_passRun_16 : decode cX3_passRun 16 = .ok (.getfield 26, 3) := bX3_passRun_0.2.2.2.2.2.2.2.2.1
theorem dX3_passRun_19 : decode cX3_passRun 19 = .ok (.iaload, 1) := bX3_passRun_0.2.2.2.2.2.2.2.2.2.1
theorem dX3_passRun_20 : decode cX3_passRun 20 = .ok (.iload_n 1, 1) := bX3_passRun_0.2.2.2.2.2.2.2.2.2.2.1
theorem dX3_passRun_21 : decode cX3_passRun 21 = .ok (.iload_n 2, 1) := bX3_passRun_0.2.2.2.2.2.2.2.2.2.2.2.1
theorem dX3_passRun_22 : decode cX3_passRun 22 = .ok (.invokestatic 122, 3) := bX3_passRun_0.2.2.2.2.2.2.2.2.2.2.2.2.1
theorem dX3_passRun_25 : decode cX3_passRun 25 = .ok (.ifCond .eq 16, 3) := bX3_passRun_0.2.2.2.2.2.2.2.2.2.2.2.2.2.1
theorem dX3_passRun_28 : decode cX3_passRun 28 = .ok (.aload_n 0, 1) := bX3_passRun_0.2.2.2.2.2.2.2.2.2.2.2.2.2.2.1
theorem dX3_passRun_29 : decode cX3_passRun 29 = .ok (.dup, 1) := bX3_passRun_0.2.2.2.2.2.2.2.2.2.2.2.2.2.2.2
theorem bX3_passRun_30 : (decode cX3_passRun 30 = .ok (.getfield 26, 3)) ∧ (decode cX3_passRun 33 = .ok (.iconst 1, 1)) ∧ (decode cX3_passRun 34 = .ok (.iadd, 1)) ∧ (decode cX3_passRun 35 = .ok (.putfield 26, 3)) ∧ (decode cX3_passRun 38 = .ok (.goto (-38), 3)) ∧ (decode cX3_passRun 41 = .ok (.return_, 1)) := by decide +kernel
theorem dX3_passRun_30 : decode cX3_passRun 30 = .ok (.getfield 26, 3) := bX3_passRun_30.1
theorem dX3_passRun_33 : decode cX3_passRun 33 = .ok (.iconst 1, 1) := bX3_passRun_30.2.1
theorem dX3_passRun_34 : decode cX3_passRun 34 = .ok (.iadd, 1) := bX3_passRun_30.2.2.1
theorem dX3_passRun_35 : decode cX3_passRun 35 = .ok (.putfield 26, 3) := bX3_passRun_30.2.2.2.1
theorem dX3_passRun_38 : decode cX3_passRun 38 = .ok (.goto (-38), 3) := bX3_passRun_30.2.2.2.2.1
theorem dX3_passRun_41 : decode cX3_passRun 41 = .ok (.return_, 1) := bX3_passRun_30.2.2.2.2.2
theorem bX4_init_0 : (decode cX4_init 0 = .ok (.aload_n 0, 1)) ∧ (decode cX4_init 1 = .ok (.invokespecial 1, 3)) ∧ (decode cX4_init 4 = .ok (.aload_n 0, 1)) ∧ (decode cX4_init 5 = .ok (.iload_n 1, 1)) ∧ (decode cX4_init 6 = .ok (.putfield 7, 3)) ∧ (decode cX4_init 9 = .ok (.aload_n 0, 1)) ∧ (decode cX4_init 10 = .ok (.iconst 4, 1)) ∧ (decode cX4_init 11 = .ok (.iload_n 1, 1)) ∧ (decode cX4_init 12 = .ok (.imul, 1)) ∧ (decode cX4_init 13 = .ok (.newarray .int, 2)) ∧ (decode cX4_init 15 = .ok (.putfield 13, 3)) ∧ (decode cX4_init 18 = .ok (.return_, 1)) := by decide +kernel
theorem dX4_init_0 : decode cX4_init 0 = .ok (.aload_n 0, 1) := bX4_init_0.1
theorem dX4_init_1 : decode cX4_init 1 = .ok (.invokespecial 1, 3) := bX4_init_0.2.1
theorem dX4_init_4 : decode cX4_init 4 = .ok (.aload_n 0, 1) := bX4_init_0.2.2.1
theorem dX4_init_5 : decode cX4_init 5 = .ok (.iload_n 1, 1) := bX4_init_0.2.2.2.1
theorem dX4_init_6 : decode cX4_init 6 = .ok (.putfield 7, 3) := bX4_init_0.2.2.2.2.1
theorem dX4_init_9 : decode cX4_init 9 = .ok (.aload_n 0, 1) := bX4_init_0.2.2.2.2.2.1
theorem dX4_init_10 : decode cX4_init 10 = .ok (.iconst 4, 1) := bX4_init_0.2.2.2.2.2.2.1
theorem dX4_init_11 : decode cX4_init 11 = .ok (.iload_n 1, 1) := bX4_init_0.2.2.2.2.2.2.2.1
theorem dX4_init_12 : decode cX4_init 12 = .ok (.imul, 1) := bX4_init_0.2.2.2.2.2.2.2.2.1
theorem dX4_init_13 : decode cX4_init 13 = .ok (.newarray .int, 2) := bX4_init_0.2.2.2.2.2.2.2.2.2.1
theorem dX4_init_15 : decode cX4_init 15 = .ok (.putfield 13, 3) := bX4_init_0.2.2.2.2.2.2.2.2.2.2.1
theorem dX4_init_18 : decode cX4_init 18 = .ok (.return_, 1) := bX4_init_0.2.2.2.2.2.2.2.2.2.2.2
theorem bX4_isFull_0 : (decode cX4_isFull 0 = .ok (.aload_n 0, 1)) ∧ (decode cX4_isFull 1 = .ok (.getfield 17, 3)) ∧ (decode cX4_isFull 4 = .ok (.aload_n 0, 1)) ∧ (decode cX4_isFull 5 = .ok (.getfield 7, 3)) ∧ (decode cX4_isFull 8 = .ok (.if_icmp .lt 7, 3)) ∧ (decode cX4_isFull 11 = .ok (.iconst 1, 1)) ∧ (decode cX4_isFull 12 = .ok (.goto 4, 3)) ∧ (decode cX4_isFull 15 = .ok (.iconst 0, 1)) ∧ (decode cX4_isFull 16 = .ok (.ireturn, 1)) := by decide +kernel
theorem dX4_isFull_0 : decode cX4_isFull 0 = .ok (.aload_n 0, 1) := bX4_isFull_0.1
theorem dX4_isFull_1 : decode cX4_isFull 1 = .ok (.getfield 17, 3) := bX4_isFull_0.2.1
theorem dX4_isFull_4 : decode cX4_isFull 4 = .ok (.aload_n 0, 1) := bX4_isFull_0.2.2.1
theorem dX4_isFull_5 : decode cX4_isFull 5 = .ok (.getfield 7, 3) := bX4_isFull_0.2.2.2.1
theorem dX4_isFull_8 : decode cX4_isFull 8 = .ok (.if_icmp .lt 7, 3) := bX4_isFull_0.2.2.2.2.1
theorem dX4_isFull_11 : decode cX4_isFull 11 = .ok (.iconst 1, 1) := bX4_isFull_0.2.2.2.2.2.1
theorem dX4_isFull_12 : decode cX4_isFull 12 = .ok (.goto 4, 3) := bX4_isFull_0.2.2.2.2.2.2.1
theorem dX4_isFull_15 : decode cX4_isFull 15 = .ok (.iconst 0, 1) := bX4_isFull_0.2.2.2.2.2.2.2.1
theorem dX4_isFull_16 : decode cX4_isFull 16 = .ok (.ireturn, 1) := bX4_isFull_0.2.2.2.2.2.2.2.2
theorem bX4_add_0 : (decode cX4_add 0 = .ok (.iconst 4, 1)) ∧ (decode cX4_add 1 = .ok (.aload_n 0, 1)) ∧ (decode cX4_add 2 = .ok (.getfield 17, 3)) ∧ (decode cX4_add 5 = .ok (.imul, 1)) ∧ (decode cX4_add 6 = .ok (.istore 5, 2)) ∧ (decode cX4_add 8 = .ok (.aload_n 0, 1)) ∧ (decode cX4_add 9 = .ok (.getfield 13, 3)) ∧ (decode cX4_add 12 = .ok (.iload 5, 2)) ∧ (decode cX4_add 14 = .ok (.iload_n 1, 1)) ∧ (decode cX4_add 15 = .ok (.iastore, 1)) ∧ (decode cX4_add 16 = .ok (.aload_n 0, 1)) ∧ (decode cX4_add 17 = .ok (.getfield 13, 3)) ∧ (decode cX4_add 20 = .ok (.iload 5, 2)) ∧ (decode cX4_add 22 = .ok (.iconst 1, 1)) ∧ (decode cX4_add 23 = .ok (.iadd, 1)) ∧ (decode cX4_add 24 = .ok (.iload_n 2, 1)) := by decide +kernel
theorem dX4_add_0 : decode cX4_add 0 = .ok (.iconst 4, 1) := bX4_add_0.1
theorem dX4_add_1 : decode cX4_add 1 = .ok (.aload_n 0, 1) := bX4_add_0.2.1
theorem dX4_add_2 : decode cX4_add 2 = .ok (.getfield 17, 3) := bX4_add_0.2.2.1
theorem dX4_add_5 : decode cX4_add 5 = .ok (.imul, 1) := bX4_add_0.2.2.2.1
theorem dX4_add_6 : decode cX4_add 6 = .ok (.istore 5, 2) := bX4_add_0.2.2.2.2.1
theorem dX4_add_8 : decode cX4_add 8 = .ok (.aload_n 0, 1) := bX4_add_0.2.2.2.2.2.1
theorem dX4_add_9 : decode cX4_add 9 = .ok (.getfield 13, 3) := bX4_add_0.2.2.2.2.2.2.1
theorem dX4_add_12 : decode cX4_add 12 = .ok (.iload 5, 2) := bX4_add_0.2.2.2.2.2.2.2.1
theorem dX4_add_14 : decode cX4_add 14 = .ok (.iload_n 1, 1) := bX4_add_0.2.2.2.2.2.2.2.2.1
theorem dX4_add_15 : decode cX4_add 15 = .ok (.iastore, 1) := bX4_add_0.2.2.2.2.2.2.2.2.2.1
theorem dX4_add_16 : decode cX4_add 16 = .ok (.aload_n 0, 1) := bX4_add_0.2.2.2.2.2.2.2.2.2.2.1
theorem dX4_add_17 : decode cX4_add 17 = .ok (.getfield 13, 3) := bX4_add_0.2.2.2.2.2.2.2.2.2.2.2.1
theorem dX4_add_20 : decode cX4_add 20 = .ok (.iload 5, 2) := bX4_add_0.2.2.2.2.2.2.2.2.2.2.2.2.1
theorem dX4_add_22 : decode cX4_add 22 = .ok (.iconst 1, 1) := bX4_add_0.2.2.2.2.2.2.2.2.2.2.2.2.2.1
theorem dX4_add_23 : decode cX4_add 23 = .ok (.iadd, 1) := bX4_add_0.2.2.2.2.2.2.2.2.2.2.2.2.2.2.1
theorem dX4_add_24 : decode cX4_add 24 = .ok (.iload_n 2, 1) := bX4_add_0.2.2.2.2.2.2.2.2.2.2.2.2.2.2.2
theorem bX4_add_25 : (decode cX4_add 25 = .ok (.iastore, 1)) ∧ (decode cX4_add 26 = .ok (.aload_n 0, 1)) ∧ (decode cX4_add 27 = .ok (.getfield 13, 3)) ∧ (decode cX4_add 30 = .ok (.iload 5, 2)) ∧ (decode cX4_add 32 = .ok (.iconst 2, 1)) ∧ (decode cX4_add 33 = .ok (.iadd, 1)) ∧ (decode cX4_add 34 = .ok (.iload_n 3, 1)) ∧ (decode cX4_add 35 = .ok (.iastore, 1)) ∧ (decode cX4_add 36 = .ok (.aload_n 0, 1)) ∧ (decode cX4_add 37 = .ok (.getfield 13, 3)) ∧ (decode cX4_add 40 = .ok (.iload 5, 2)) ∧ (decode cX4_add 42 = .ok (.iconst 3, 1)) ∧ (decode cX4_add 43 = .ok (.iadd, 1)) ∧ (decode cX4_add 44 = .ok (.iload 4, 2)) ∧ (decode cX4_add 46 = .ok (.iastore, 1)) ∧ (decode cX4_add 47 = .ok (.aload_n 0, 1)) := by decide +kernel
theorem dX4_add_25 : decode cX4_add 25 = .ok (.iastore, 1) := bX4_add_25.1
theorem dX4_add_26 : decode cX4_add 26 = .ok (.aload_n 0, 1) := bX4_add_25.2.1
theorem dX4_add_27 : decode cX4_add 27 = .ok (.getfield 13, 3) := bX4_add_25.2.2.1
theorem dX4_add_30 : decode cX4_add 30 = .ok (.iload 5, 2) := bX4_add_25.2.2.2.1
theorem dX4_add_32 : decode cX4_add 32 = .ok (.iconst 2, 1) := bX4_add_25.2.2.2.2.1
theorem dX4_add_33 : decode cX4_add 33 = .ok (.iadd, 1) := bX4_add_25.2.2.2.2.2.1
theorem dX4_add_34 : decode cX4_add 34 = .ok (.iload_n 3, 1) := bX4_add_25.2.2.2.2.2.2.1
theorem dX4_add_35 : decode cX4_add 35 = .ok (.iastore, 1) := bX4_add_25.2.2.2.2.2.2.2.1
theorem dX4_add_36 : decode cX4_add 36 = .ok (.aload_n 0, 1) := bX4_add_25.2.2.2.2.2.2.2.2.1
theorem dX4_add_37 : decode cX4_add 37 = .ok (.getfield 13, 3) := bX4_add_25.2.2.2.2.2.2.2.2.2.1
theorem dX4_add_40 : decode cX4_add 40 = .ok (.iload 5, 2) := bX4_add_25.2.2.2.2.2.2.2.2.2.2.1
theorem dX4_add_42 : decode cX4_add 42 = .ok (.iconst 3, 1) := bX4_add_25.2.2.2.2.2.2.2.2.2.2.2.1
theorem dX4_add_43 : decode cX4_add 43 = .ok (.iadd, 1) := bX4_add_25.2.2.2.2.2.2.2.2.2.2.2.2.1
theorem dX4_add_44 : decode cX4_add 44 = .ok (.iload 4, 2) := bX4_add_25.2.2.2.2.2.2.2.2.2.2.2.2.2.1
theorem dX4_add_46 : decode cX4_add 46 = .ok (.iastore, 1) := bX4_add_25.2.2.2.2.2.2.2.2.2.2.2.2.2.2.1
theorem dX4_add_47 : decode cX4_add 47 = .ok (.aload_n 0, 1) := bX4_add_25.2.2.2.2.2.2.2.2.2.2.2.2.2.2.2
theorem bX4_add_48 : (decode cX4_add 48 = .ok (.dup, 1)) ∧ (decode cX4_add 49 = .ok (.getfield 17, 3)) ∧ (decode cX4_add 52 = .ok (.iconst 1, 1)) ∧ (decode cX4_add 53 = .ok (.iadd, 1)) ∧ (decode cX4_add 54 = .ok (.putfield 17, 3)) ∧ (decode cX4_add 57 = .ok (.aload_n 0, 1)) ∧ (decode cX4_add 58 = .ok (.getfield 17, 3)) ∧ (decode cX4_add 61 = .ok (.ireturn, 1)) := by decide +kernel
theorem dX4_add_48 : decode cX4_add 48 = .ok (.dup, 1) := bX4_add_48.1
theorem dX4_add_49 : decode cX4_add 49 = .ok (.getfield 17, 3) := bX4_add_48.2.1
theorem dX4_add_52 : decode cX4_add 52 = .ok (.iconst 1, 1) := bX4_add_48.2.2.1
theorem dX4_add_53 : decode cX4_add 53 = .ok (.iadd, 1) := bX4_add_48.2.2.2.1
theorem dX4_add_54 : decode cX4_add 54 = .ok (.putfield 17, 3) := bX4_add_48.2.2.2.2.1
theorem dX4_add_57 : decode cX4_add 57 = .ok (.aload_n 0, 1) := bX4_add_48.2.2.2.2.2.1
theorem dX4_add_58 : decode cX4_add 58 = .ok (.getfield 17, 3) := bX4_add_48.2.2.2.2.2.2.1
theorem dX4_add_61 : decode cX4_add 61 = .ok (.ireturn, 1) := bX4_add_48.2.2.2.2.2.2.2
theorem bX4_cell_0 : (decode cX4_cell 0 = .ok (.aload_n 0, 1)) ∧ (decode cX4_cell 1 = .ok (.getfield 13, 3)) ∧ (decode cX4_cell 4 = .ok (.iconst 4, 1)) ∧ (decode cX4_cell 5 = .ok (.iload_n 1, 1)) ∧ (decode cX4_cell 6 = .ok (.imul, 1)) ∧ (decode cX4_cell 7 = .ok (.iload_n 2, 1)) ∧ (decode cX4_cell 8 = .ok (.iadd, 1)) ∧ (decode cX4_cell 9 = .ok (.iaload, 1)) ∧ (decode cX4_cell 10 = .ok (.ireturn, 1)) := by decide +kernel
theorem dX4_cell_0 : decode cX4_cell 0 = .ok (.aload_n 0, 1) := bX4_cell_0.1
theorem dX4_cell_1 : decode cX4_cell 1 = .ok (.getfield 13, 3) := bX4_cell_0.2.1
theorem dX4_cell_4 : decode cX4_cell 4 = .ok (.iconst 4, 1) := bX4_cell_0.2.2.1
theorem dX4_cell_5 : decode cX4_cell 5 = .ok (.iload_n 1, 1) := bX4_cell_0.2.2.2.1
theorem dX4_cell_6 : decode cX4_cell 6 = .ok (.imul, 1) := bX4_cell_0.2.2.2.2.1
theorem dX4_cell_7 : decode cX4_cell 7 = .ok (.iload_n 2, 1) := bX4_cell_0.2.2.2.2.2.1
theorem dX4_cell_8 : decode cX4_cell 8 = .ok (.iadd, 1) := bX4_cell_0.2.2.2.2.2.2.1
theorem dX4_cell_9 : decode cX4_cell 9 = .ok (.iaload, 1) := bX4_cell_0.2.2.2.2.2.2.2.1
theorem dX4_cell_10 : decode cX4_cell 10 = .ok (.ireturn, 1) := bX4_cell_0.2.2.2.2.2.2.2.2
theorem bX4_drop_0 : (decode cX4_drop 0 = .ok (.aload_n 0, 1)) ∧ (decode cX4_drop 1 = .ok (.getfield 17, 3)) ∧ (decode cX4_drop 4 = .ok (.istore_n 1, 1)) ∧ (decode cX4_drop 5 = .ok (.aload_n 0, 1)) ∧ (decode cX4_drop 6 = .ok (.iconst 0, 1)) ∧ (decode cX4_drop 7 = .ok (.putfield 17, 3)) ∧ (decode cX4_drop 10 = .ok (.iload_n 1, 1)) ∧ (decode cX4_drop 11 = .ok (.ireturn, 1)) := by decide +kernel
theorem dX4_drop_0 : decode cX4_drop 0 = .ok (.aload_n 0, 1) := bX4_drop_0.1
theorem dX4_drop_1 : decode cX4_drop 1 = .ok (.getfield 17, 3) := bX4_drop_0.2.1
theorem dX4_drop_4 : decode cX4_drop 4 = .ok (.istore_n 1, 1) := bX4_drop_0.2.2.1
theorem dX4_drop_5 : decode cX4_drop 5 = .ok (.aload_n 0, 1) := bX4_drop_0.2.2.2.1
theorem dX4_drop_6 : decode cX4_drop 6 = .ok (.iconst 0, 1) := bX4_drop_0.2.2.2.2.1
theorem dX4_drop_7 : decode cX4_drop 7 = .ok (.putfield 17, 3) := bX4_drop_0.2.2.2.2.2.1
theorem dX4_drop_10 : decode cX4_drop 10 = .ok (.iload_n 1, 1) := bX4_drop_0.2.2.2.2.2.2.1
theorem dX4_drop_11 : decode cX4_drop 11 = .ok (.ireturn, 1) := bX4_drop_0.2.2.2.2.2.2.2
theorem bX4_copyFrom_0 : (decode cX4_copyFrom 0 = .ok (.aload_n 0, 1)) ∧ (decode cX4_copyFrom 1 = .ok (.aload_n 1, 1)) ∧ (decode cX4_copyFrom 2 = .ok (.getfield 17, 3)) ∧ (decode cX4_copyFrom 5 = .ok (.putfield 17, 3)) ∧ (decode cX4_copyFrom 8 = .ok (.iconst 0, 1)) ∧ (decode cX4_copyFrom 9 = .ok (.istore_n 2, 1)) ∧ (decode cX4_copyFrom 10 = .ok (.iload_n 2, 1)) ∧ (decode cX4_copyFrom 11 = .ok (.iconst 4, 1)) ∧ (decode cX4_copyFrom 12 = .ok (.aload_n 0, 1)) ∧ (decode cX4_copyFrom 13 = .ok (.getfield 17, 3)) ∧ (decode cX4_copyFrom 16 = .ok (.imul, 1)) ∧ (decode cX4_copyFrom 17 = .ok (.if_icmp .ge 21, 3)) ∧ (decode cX4_copyFrom 20 = .ok (.aload_n 0, 1)) ∧ (decode cX4_copyFrom 21 = .ok (.getfield 13, 3)) ∧ (decode cX4_copyFrom 24 = .ok (.iload_n 2, 1)) ∧ (decode cX4_copyFrom 25 = .ok (.aload_n 1, 1)) := by decide +kernel
theorem dX4_copyFrom_0 : decode cX4_copyFrom 0 = .ok (.aload_n 0, 1) := bX4_copyFrom_0.1
theorem dX4_copyFrom_1 : decode cX4_copyFrom 1 = .ok (.aload_n 1, 1) := bX4_copyFrom_0.2.1
theorem dX4_copyFrom_2 : decode cX4_copyFrom 2 = .ok (.getfield 17, 3) := bX4_copyFrom_0.2.2.1
theorem dX4_copyFrom_5 : decode cX4_copyFrom 5 = .ok (.putfield 17, 3) := bX4_copyFrom_0.2.2.2.1
theorem dX4_copyFrom_8 : decode cX4_copyFrom 8 = .ok (.iconst 0, 1) := bX4_copyFrom_0.2.2.2.2.1
theorem dX4_copyFrom_9 : decode cX4_copyFrom 9 = .ok (.istore_n 2, 1) := bX4_copyFrom_0.2.2.2.2.2.1
theorem dX4_copyFrom_10 : decode cX4_copyFrom 10 = .ok (.iload_n 2, 1) := bX4_copyFrom_0.2.2.2.2.2.2.1
theorem dX4_copyFrom_11 : decode cX4_copyFrom 11 = .ok (.iconst 4, 1) := bX4_copyFrom_0.2.2.2.2.2.2.2.1
theorem dX4_copyFrom_12 : decode cX4_copyFrom 12 = .ok (.aload_n 0, 1) := bX4_copyFrom_0.2.2.2.2.2.2.2.2.1
theorem dX4_copyFrom_13 : decode cX4_copyFrom 13 = .ok (.getfield 17, 3) := bX4_copyFrom_0.2.2.2.2.2.2.2.2.2.1
theorem dX4_copyFrom_16 : decode cX4_copyFrom 16 = .ok (.imul, 1) := bX4_copyFrom_0.2.2.2.2.2.2.2.2.2.2.1
theorem dX4_copyFrom_17 : decode cX4_copyFrom 17 = .ok (.if_icmp .ge 21, 3) := bX4_copyFrom_0.2.2.2.2.2.2.2.2.2.2.2.1
theorem dX4_copyFrom_20 : decode cX4_copyFrom 20 = .ok (.aload_n 0, 1) := bX4_copyFrom_0.2.2.2.2.2.2.2.2.2.2.2.2.1
theorem dX4_copyFrom_21 : decode cX4_copyFrom 21 = .ok (.getfield 13, 3) := bX4_copyFrom_0.2.2.2.2.2.2.2.2.2.2.2.2.2.1
theorem dX4_copyFrom_24 : decode cX4_copyFrom 24 = .ok (.iload_n 2, 1) := bX4_copyFrom_0.2.2.2.2.2.2.2.2.2.2.2.2.2.2.1
theorem dX4_copyFrom_25 : decode cX4_copyFrom 25 = .ok (.aload_n 1, 1) := bX4_copyFrom_0.2.2.2.2.2.2.2.2.2.2.2.2.2.2.2
theorem bX4_copyFrom_26 : (decode cX4_copyFrom 26 = .ok (.getfield 13, 3)) ∧ (decode cX4_copyFrom 29 = .ok (.iload_n 2, 1)) ∧ (decode cX4_copyFrom 30 = .ok (.iaload, 1)) ∧ (decode cX4_copyFrom 31 = .ok (.iastore, 1)) ∧ (decode cX4_copyFrom 32 = .ok (.iinc 2 1, 3)) ∧ (decode cX4_copyFrom 35 = .ok (.goto (-25), 3)) ∧ (decode cX4_copyFrom 38 = .ok (.return_, 1)) := by decide +kernel
theorem dX4_copyFrom_26 : decode cX4_copyFrom 26 = .ok (.getfield 13, 3) := bX4_copyFrom_26.1
theorem dX4_copyFrom_29 : decode cX4_copyFrom 29 = .ok (.iload_n 2, 1) := bX4_copyFrom_26.2.1
theorem dX4_copyFrom_30 : decode cX4_copyFrom 30 = .ok (.iaload, 1) := bX4_copyFrom_26.2.2.1
theorem dX4_copyFrom_31 : decode cX4_copyFrom 31 = .ok (.iastore, 1) := bX4_copyFrom_26.2.2.2.1
theorem dX4_copyFrom_32 : decode cX4_copyFrom 32 = .ok (.iinc 2 1, 3) := bX4_copyFrom_26.2.2.2.2.1
theorem dX4_copyFrom_35 : decode cX4_copyFrom 35 = .ok (.goto (-25), 3) := bX4_copyFrom_26.2.2.2.2.2.1
theorem dX4_copyFrom_38 : decode cX4_copyFrom 38 = .ok (.return_, 1) := bX4_copyFrom_26.2.2.2.2.2.2
theorem bX4_mixInto_0 : (decode cX4_mixInto 0 = .ok (.lload_n 1, 1)) ∧ (decode cX4_mixInto 1 = .ok (.lstore_n 3, 1)) ∧ (decode cX4_mixInto 2 = .ok (.iconst 0, 1)) ∧ (decode cX4_mixInto 3 = .ok (.istore 5, 2)) ∧ (decode cX4_mixInto 5 = .ok (.iload 5, 2)) ∧ (decode cX4_mixInto 7 = .ok (.iconst 4, 1)) ∧ (decode cX4_mixInto 8 = .ok (.aload_n 0, 1)) ∧ (decode cX4_mixInto 9 = .ok (.getfield 17, 3)) ∧ (decode cX4_mixInto 12 = .ok (.imul, 1)) ∧ (decode cX4_mixInto 13 = .ok (.if_icmp .ge 24, 3)) ∧ (decode cX4_mixInto 16 = .ok (.ldc2_w 20, 3)) ∧ (decode cX4_mixInto 19 = .ok (.lload_n 3, 1)) ∧ (decode cX4_mixInto 20 = .ok (.lmul, 1)) ∧ (decode cX4_mixInto 21 = .ok (.aload_n 0, 1)) ∧ (decode cX4_mixInto 22 = .ok (.getfield 13, 3)) ∧ (decode cX4_mixInto 25 = .ok (.iload 5, 2)) := by decide +kernel
theorem dX4_mixInto_0 : decode cX4_mixInto 0 = .ok (.lload_n 1, 1) := bX4_mixInto_0.1
theorem dX4_mixInto_1 : decode cX4_mixInto 1 = .ok (.lstore_n 3, 1) := bX4_mixInto_0.2.1
theorem dX4_mixInto_2 : decode cX4_mixInto 2 = .ok (.iconst 0, 1) := bX4_mixInto_0.2.2.1
theorem dX4_mixInto_3 : decode cX4_mixInto 3 = .ok (.istore 5, 2) := bX4_mixInto_0.2.2.2.1
theorem dX4_mixInto_5 : decode cX4_mixInto 5 = .ok (.iload 5, 2) := bX4_mixInto_0.2.2.2.2.1
theorem dX4_mixInto_7 : decode cX4_mixInto 7 = .ok (.iconst 4, 1) := bX4_mixInto_0.2.2.2.2.2.1
theorem dX4_mixInto_8 : decode cX4_mixInto 8 = .ok (.aload_n 0, 1) := bX4_mixInto_0.2.2.2.2.2.2.1
theorem dX4_mixInto_9 : decode cX4_mixInto 9 = .ok (.getfield 17, 3) := bX4_mixInto_0.2.2.2.2.2.2.2.1
theorem dX4_mixInto_12 : decode cX4_mixInto 12 = .ok (.imul, 1) := bX4_mixInto_0.2.2.2.2.2.2.2.2.1
theorem dX4_mixInto_13 : decode cX4_mixInto 13 = .ok (.if_icmp .ge 24, 3) := bX4_mixInto_0.2.2.2.2.2.2.2.2.2.1
theorem dX4_mixInto_16 : decode cX4_mixInto 16 = .ok (.ldc2_w 20, 3) := bX4_mixInto_0.2.2.2.2.2.2.2.2.2.2.1
theorem dX4_mixInto_19 : decode cX4_mixInto 19 = .ok (.lload_n 3, 1) := bX4_mixInto_0.2.2.2.2.2.2.2.2.2.2.2.1
theorem dX4_mixInto_20 : decode cX4_mixInto 20 = .ok (.lmul, 1) := bX4_mixInto_0.2.2.2.2.2.2.2.2.2.2.2.2.1
theorem dX4_mixInto_21 : decode cX4_mixInto 21 = .ok (.aload_n 0, 1) := bX4_mixInto_0.2.2.2.2.2.2.2.2.2.2.2.2.2.1
theorem dX4_mixInto_22 : decode cX4_mixInto 22 = .ok (.getfield 13, 3) := bX4_mixInto_0.2.2.2.2.2.2.2.2.2.2.2.2.2.2.1
theorem dX4_mixInto_25 : decode cX4_mixInto 25 = .ok (.iload 5, 2) := bX4_mixInto_0.2.2.2.2.2.2.2.2.2.2.2.2.2.2.2
theorem bX4_mixInto_27 : (decode cX4_mixInto 27 = .ok (.iaload, 1)) ∧ (decode cX4_mixInto 28 = .ok (.i2l, 1)) ∧ (decode cX4_mixInto 29 = .ok (.ladd, 1)) ∧ (decode cX4_mixInto 30 = .ok (.lstore_n 3, 1)) ∧ (decode cX4_mixInto 31 = .ok (.iinc 5 1, 3)) ∧ (decode cX4_mixInto 34 = .ok (.goto (-29), 3)) ∧ (decode cX4_mixInto 37 = .ok (.lload_n 3, 1)) ∧ (decode cX4_mixInto 38 = .ok (.lreturn, 1)) := by decide +kernel
theorem dX4_mixInto_27 : decode cX4_mixInto 27 = .ok (.iaload, 1) := bX4_mixInto_27.1
theorem dX4_mixInto_28 : decode cX4_mixInto 28 = .ok (.i2l, 1) := bX4_mixInto_27.2.1
theorem dX4_mixInto_29 : decode cX4_mixInto 29 = .ok (.ladd, 1) := bX4_mixInto_27.2.2.1
theorem dX4_mixInto_30 : decode cX4_mixInto 30 = .ok (.lstore_n 3, 1) := bX4_mixInto_27.2.2.2.1
theorem dX4_mixInto_31 : decode cX4_mixInto 31 = .ok (.iinc 5 1, 3) := bX4_mixInto_27.2.2.2.2.1
theorem dX4_mixInto_34 : decode cX4_mixInto 34 = .ok (.goto (-29), 3) := bX4_mixInto_27.2.2.2.2.2.1
theorem dX4_mixInto_37 : decode cX4_mixInto 37 = .ok (.lload_n 3, 1) := bX4_mixInto_27.2.2.2.2.2.2.1
theorem dX4_mixInto_38 : decode cX4_mixInto 38 = .ok (.lreturn, 1) := bX4_mixInto_27.2.2.2.2.2.2.2
theorem bX5_thingWeighs_0 : (decode cX5_thingWeighs 0 = .ok (.iload_n 0, 1)) ∧ (decode cX5_thingWeighs 1 = .ok (.tableswitch 88 1 5 #[35, 40, 45, 60, 79], 35)) ∧ (decode cX5_thingWeighs 36 = .ok (.iload_n 1, 1)) ∧ (decode cX5_thingWeighs 37 = .ok (.invokestatic 7, 3)) ∧ (decode cX5_thingWeighs 40 = .ok (.ireturn, 1)) ∧ (decode cX5_thingWeighs 41 = .ok (.iload_n 1, 1)) ∧ (decode cX5_thingWeighs 42 = .ok (.invokestatic 13, 3)) ∧ (decode cX5_thingWeighs 45 = .ok (.ireturn, 1)) ∧ (decode cX5_thingWeighs 46 = .ok (.iload_n 1, 1)) ∧ (decode cX5_thingWeighs 47 = .ok (.invokestatic 7, 3)) ∧ (decode cX5_thingWeighs 50 = .ok (.bipush 20, 2)) ∧ (decode cX5_thingWeighs 52 = .ok (.iload_n 2, 1)) ∧ (decode cX5_thingWeighs 53 = .ok (.bipush 10, 2)) ∧ (decode cX5_thingWeighs 55 = .ok (.idiv, 1)) ∧ (decode cX5_thingWeighs 56 = .ok (.invokestatic 16, 3)) ∧ (decode cX5_thingWeighs 59 = .ok (.iadd, 1)) := by decide +kernel
theorem dX5_thingWeighs_0 : decode cX5_thingWeighs 0 = .ok (.iload_n 0, 1) := bX5_thingWeighs_0.1
theorem dX5_thingWeighs_1 : decode cX5_thingWeighs 1 = .ok (.tableswitch 88 1 5 #[35, 40, 45, 60, 79], 35) := bX5_thingWeighs_0.2.1
theorem dX5_thingWeighs_36 : decode cX5_thingWeighs 36 = .ok (.iload_n 1, 1) := bX5_thingWeighs_0.2.2.1
theorem dX5_thingWeighs_37 : decode cX5_thingWeighs 37 = .ok (.invokestatic 7, 3) := bX5_thingWeighs_0.2.2.2.1
theorem dX5_thingWeighs_40 : decode cX5_thingWeighs 40 = .ok (.ireturn, 1) := bX5_thingWeighs_0.2.2.2.2.1
theorem dX5_thingWeighs_41 : decode cX5_thingWeighs 41 = .ok (.iload_n 1, 1) := bX5_thingWeighs_0.2.2.2.2.2.1
theorem dX5_thingWeighs_42 : decode cX5_thingWeighs 42 = .ok (.invokestatic 13, 3) := bX5_thingWeighs_0.2.2.2.2.2.2.1
theorem dX5_thingWeighs_45 : decode cX5_thingWeighs 45 = .ok (.ireturn, 1) := bX5_thingWeighs_0.2.2.2.2.2.2.2.1
theorem dX5_thingWeighs_46 : decode cX5_thingWeighs 46 = .ok (.iload_n 1, 1) := bX5_thingWeighs_0.2.2.2.2.2.2.2.2.1
theorem dX5_thingWeighs_47 : decode cX5_thingWeighs 47 = .ok (.invokestatic 7, 3) := bX5_thingWeighs_0.2.2.2.2.2.2.2.2.2.1
theorem dX5_thingWeighs_50 : decode cX5_thingWeighs 50 = .ok (.bipush 20, 2) := bX5_thingWeighs_0.2.2.2.2.2.2.2.2.2.2.1
theorem dX5_thingWeighs_52 : decode cX5_thingWeighs 52 = .ok (.iload_n 2, 1) := bX5_thingWeighs_0.2.2.2.2.2.2.2.2.2.2.2.1
theorem dX5_thingWeighs_53 : decode cX5_thingWeighs 53 = .ok (.bipush 10, 2) := bX5_thingWeighs_0.2.2.2.2.2.2.2.2.2.2.2.2.1
theorem dX5_thingWeighs_55 : decode cX5_thingWeighs 55 = .ok (.idiv, 1) := bX5_thingWeighs_0.2.2.2.2.2.2.2.2.2.2.2.2.2.1
theorem dX5_thingWeighs_56 : decode cX5_thingWeighs 56 = .ok (.invokestatic 16, 3) := bX5_thingWeighs_0.2.2.2.2.2.2.2.2.2.2.2.2.2.2.1
theorem dX5_thingWeighs_59 : decode cX5_thingWeighs 59 = .ok (.iadd, 1) := bX5_thingWeighs_0.2.2.2.2.2.2.2.2.2.2.2.2.2.2.2
theorem bX5_thingWeighs_60 : (decode cX5_thingWeighs 60 = .ok (.ireturn, 1)) ∧ (decode cX5_thingWeighs 61 = .ok (.iload_n 1, 1)) ∧ (decode cX5_thingWeighs 62 = .ok (.invokestatic 13, 3)) ∧ (decode cX5_thingWeighs 65 = .ok (.iload_n 2, 1)) ∧ (decode cX5_thingWeighs 66 = .ok (.iconst 2, 1)) ∧ (decode cX5_thingWeighs 67 = .ok (.irem, 1)) ∧ (decode cX5_thingWeighs 68 = .ok (.iconst 1, 1)) ∧ (decode cX5_thingWeighs 69 = .ok (.if_icmp .ne 8, 3)) ∧ (decode cX5_thingWeighs 72 = .ok (.bipush 9, 2)) ∧ (decode cX5_thingWeighs 74 = .ok (.goto 4, 3)) ∧ (decode cX5_thingWeighs 77 = .ok (.iconst 0, 1)) ∧ (decode cX5_thingWeighs 78 = .ok (.iadd, 1)) ∧ (decode cX5_thingWeighs 79 = .ok (.ireturn, 1)) ∧ (decode cX5_thingWeighs 80 = .ok (.iconst 2, 1)) ∧ (decode cX5_thingWeighs 81 = .ok (.iload_n 1, 1)) ∧ (decode cX5_thingWeighs 82 = .ok (.invokestatic 13, 3)) := by decide +kernel
theorem dX5_thingWeighs_60 : decode cX5_thingWeighs 60 = .ok (.ireturn, 1) := bX5_thingWeighs_60.1
theorem dX5_thingWeighs_61 : decode cX5_thingWeighs 61 = .ok (.iload_n 1, 1) := bX5_thingWeighs_60.2.1
theorem dX5_thingWeighs_62 : decode cX5_thingWeighs 62 = .ok (.invokestatic 13, 3) := bX5_thingWeighs_60.2.2.1
theorem dX5_thingWeighs_65 : decode cX5_thingWeighs 65 = .ok (.iload_n 2, 1) := bX5_thingWeighs_60.2.2.2.1
theorem dX5_thingWeighs_66 : decode cX5_thingWeighs 66 = .ok (.iconst 2, 1) := bX5_thingWeighs_60.2.2.2.2.1
theorem dX5_thingWeighs_67 : decode cX5_thingWeighs 67 = .ok (.irem, 1) := bX5_thingWeighs_60.2.2.2.2.2.1
theorem dX5_thingWeighs_68 : decode cX5_thingWeighs 68 = .ok (.iconst 1, 1) := bX5_thingWeighs_60.2.2.2.2.2.2.1
theorem dX5_thingWeighs_69 : decode cX5_thingWeighs 69 = .ok (.if_icmp .ne 8, 3) := bX5_thingWeighs_60.2.2.2.2.2.2.2.1
theorem dX5_thingWeighs_72 : decode cX5_thingWeighs 72 = .ok (.bipush 9, 2) := bX5_thingWeighs_60.2.2.2.2.2.2.2.2.1
theorem dX5_thingWeighs_74 : decode cX5_thingWeighs 74 = .ok (.goto 4, 3) := bX5_thingWeighs_60.2.2.2.2.2.2.2.2.2.1
theorem dX5_thingWeighs_77 : decode cX5_thingWeighs 77 = .ok (.iconst 0, 1) := bX5_thingWeighs_60.2.2.2.2.2.2.2.2.2.2.1
theorem dX5_thingWeighs_78 : decode cX5_thingWeighs 78 = .ok (.iadd, 1) := bX5_thingWeighs_60.2.2.2.2.2.2.2.2.2.2.2.1
theorem dX5_thingWeighs_79 : decode cX5_thingWeighs 79 = .ok (.ireturn, 1) := bX5_thingWeighs_60.2.2.2.2.2.2.2.2.2.2.2.2.1
theorem dX5_thingWeighs_80 : decode cX5_thingWeighs 80 = .ok (.iconst 2, 1) := bX5_thingWeighs_60.2.2.2.2.2.2.2.2.2.2.2.2.2.1
theorem dX5_thingWeighs_81 : decode cX5_thingWeighs 81 = .ok (.iload_n 1, 1) := bX5_thingWeighs_60.2.2.2.2.2.2.2.2.2.2.2.2.2.2.1
theorem dX5_thingWeighs_82 : decode cX5_thingWeighs 82 = .ok (.invokestatic 13, 3) := bX5_thingWeighs_60.2.2.2.2.2.2.2.2.2.2.2.2.2.2.2
theorem bX5_thingWeighs_85 : (decode cX5_thingWeighs 85 = .ok (.imul, 1)) ∧ (decode cX5_thingWeighs 86 = .ok (.iconst 1, 1)) ∧ (decode cX5_thingWeighs 87 = .ok (.isub, 1)) ∧ (decode cX5_thingWeighs 88 = .ok (.ireturn, 1)) ∧ (decode cX5_thingWeighs 89 = .ok (.iload_n 1, 1)) ∧ (decode cX5_thingWeighs 90 = .ok (.ireturn, 1)) := by decide +kernel
theorem dX5_thingWeighs_85 : decode cX5_thingWeighs 85 = .ok (.imul, 1) := bX5_thingWeighs_85.1
theorem dX5_thingWeighs_86 : decode cX5_thingWeighs 86 = .ok (.iconst 1, 1) := bX5_thingWeighs_85.2.1
theorem dX5_thingWeighs_87 : decode cX5_thingWeighs 87 = .ok (.isub, 1) := bX5_thingWeighs_85.2.2.1
theorem dX5_thingWeighs_88 : decode cX5_thingWeighs 88 = .ok (.ireturn, 1) := bX5_thingWeighs_85.2.2.2.1
theorem dX5_thingWeighs_89 : decode cX5_thingWeighs 89 = .ok (.iload_n 1, 1) := bX5_thingWeighs_85.2.2.2.2.1
theorem dX5_thingWeighs_90 : decode cX5_thingWeighs 90 = .ok (.ireturn, 1) := bX5_thingWeighs_85.2.2.2.2.2
theorem bX5_bell_0 : (decode cX5_bell 0 = .ok (.iload_n 0, 1)) ∧ (decode cX5_bell 1 = .ok (.bipush 6, 2)) ∧ (decode cX5_bell 3 = .ok (.iadd, 1)) ∧ (decode cX5_bell 4 = .ok (.ireturn, 1)) := by decide +kernel
theorem dX5_bell_0 : decode cX5_bell 0 = .ok (.iload_n 0, 1) := bX5_bell_0.1
theorem dX5_bell_1 : decode cX5_bell 1 = .ok (.bipush 6, 2) := bX5_bell_0.2.1
theorem dX5_bell_3 : decode cX5_bell 3 = .ok (.iadd, 1) := bX5_bell_0.2.2.1
theorem dX5_bell_4 : decode cX5_bell 4 = .ok (.ireturn, 1) := bX5_bell_0.2.2.2
theorem bX5_trunk_0 : (decode cX5_trunk 0 = .ok (.iload_n 0, 1)) ∧ (decode cX5_trunk 1 = .ok (.iconst 1, 1)) ∧ (decode cX5_trunk 2 = .ok (.iadd, 1)) ∧ (decode cX5_trunk 3 = .ok (.iconst 2, 1)) ∧ (decode cX5_trunk 4 = .ok (.idiv, 1)) ∧ (decode cX5_trunk 5 = .ok (.ireturn, 1)) := by decide +kernel
theorem dX5_trunk_0 : decode cX5_trunk 0 = .ok (.iload_n 0, 1) := bX5_trunk_0.1
theorem dX5_trunk_1 : decode cX5_trunk 1 = .ok (.iconst 1, 1) := bX5_trunk_0.2.1
theorem dX5_trunk_2 : decode cX5_trunk 2 = .ok (.iadd, 1) := bX5_trunk_0.2.2.1
theorem dX5_trunk_3 : decode cX5_trunk 3 = .ok (.iconst 2, 1) := bX5_trunk_0.2.2.2.1
theorem dX5_trunk_4 : decode cX5_trunk 4 = .ok (.idiv, 1) := bX5_trunk_0.2.2.2.2.1
theorem dX5_trunk_5 : decode cX5_trunk 5 = .ok (.ireturn, 1) := bX5_trunk_0.2.2.2.2.2
theorem bX5_oneLifts_0 : (decode cX5_oneLifts 0 = .ok (.iconst 2, 1)) ∧ (decode cX5_oneLifts 1 = .ok (.iload_n 1, 1)) ∧ (decode cX5_oneLifts 2 = .ok (.imul, 1)) ∧ (decode cX5_oneLifts 3 = .ok (.iload_n 2, 1)) ∧ (decode cX5_oneLifts 4 = .ok (.bipush 30, 2)) ∧ (decode cX5_oneLifts 6 = .ok (.invokestatic 16, 3)) ∧ (decode cX5_oneLifts 9 = .ok (.iconst 3, 1)) ∧ (decode cX5_oneLifts 10 = .ok (.idiv, 1)) ∧ (decode cX5_oneLifts 11 = .ok (.iadd, 1)) ∧ (decode cX5_oneLifts 12 = .ok (.istore_n 3, 1)) ∧ (decode cX5_oneLifts 13 = .ok (.iload_n 0, 1)) ∧ (decode cX5_oneLifts 14 = .ok (.tableswitch 105 1 5 #[34, 39, 44, 63, 85], 34)) ∧ (decode cX5_oneLifts 48 = .ok (.iload_n 3, 1)) ∧ (decode cX5_oneLifts 49 = .ok (.invokestatic 22, 3)) ∧ (decode cX5_oneLifts 52 = .ok (.ireturn, 1)) ∧ (decode cX5_oneLifts 53 = .ok (.iload_n 3, 1)) := by decide +kernel
theorem dX5_oneLifts_0 : decode cX5_oneLifts 0 = .ok (.iconst 2, 1) := bX5_oneLifts_0.1
theorem dX5_oneLifts_1 : decode cX5_oneLifts 1 = .ok (.iload_n 1, 1) := bX5_oneLifts_0.2.1
theorem dX5_oneLifts_2 : decode cX5_oneLifts 2 = .ok (.imul, 1) := bX5_oneLifts_0.2.2.1
theorem dX5_oneLifts_3 : decode cX5_oneLifts 3 = .ok (.iload_n 2, 1) := bX5_oneLifts_0.2.2.2.1
theorem dX5_oneLifts_4 : decode cX5_oneLifts 4 = .ok (.bipush 30, 2) := bX5_oneLifts_0.2.2.2.2.1
theorem dX5_oneLifts_6 : decode cX5_oneLifts 6 = .ok (.invokestatic 16, 3) := bX5_oneLifts_0.2.2.2.2.2.1
theorem dX5_oneLifts_9 : decode cX5_oneLifts 9 = .ok (.iconst 3, 1) := bX5_oneLifts_0.2.2.2.2.2.2.1
theorem dX5_oneLifts_10 : decode cX5_oneLifts 10 = .ok (.idiv, 1) := bX5_oneLifts_0.2.2.2.2.2.2.2.1
theorem dX5_oneLifts_11 : decode cX5_oneLifts 11 = .ok (.iadd, 1) := bX5_oneLifts_0.2.2.2.2.2.2.2.2.1
theorem dX5_oneLifts_12 : decode cX5_oneLifts 12 = .ok (.istore_n 3, 1) := bX5_oneLifts_0.2.2.2.2.2.2.2.2.2.1
theorem dX5_oneLifts_13 : decode cX5_oneLifts 13 = .ok (.iload_n 0, 1) := bX5_oneLifts_0.2.2.2.2.2.2.2.2.2.2.1
theorem dX5_oneLifts_14 : decode cX5_oneLifts 14 = .ok (.tableswitch 105 1 5 #[34, 39, 44, 63, 85], 34) := bX5_oneLifts_0.2.2.2.2.2.2.2.2.2.2.2.1
theorem dX5_oneLifts_48 : decode cX5_oneLifts 48 = .ok (.iload_n 3, 1) := bX5_oneLifts_0.2.2.2.2.2.2.2.2.2.2.2.2.1
theorem dX5_oneLifts_49 : decode cX5_oneLifts 49 = .ok (.invokestatic 22, 3) := bX5_oneLifts_0.2.2.2.2.2.2.2.2.2.2.2.2.2.1
theorem dX5_oneLifts_52 : decode cX5_oneLifts 52 = .ok (.ireturn, 1) := bX5_oneLifts_0.2.2.2.2.2.2.2.2.2.2.2.2.2.2.1
theorem dX5_oneLifts_53 : decode cX5_oneLifts 53 = .ok (.iload_n 3, 1) := bX5_oneLifts_0.2.2.2.2.2.2.2.2.2.2.2.2.2.2.2
theorem bX5_oneLifts_54 : (decode cX5_oneLifts 54 = .ok (.invokestatic 25, 3)) ∧ (decode cX5_oneLifts 57 = .ok (.ireturn, 1)) ∧ (decode cX5_oneLifts 58 = .ok (.iload_n 2, 1)) ∧ (decode cX5_oneLifts 59 = .ok (.bipush 18, 2)) ∧ (decode cX5_oneLifts 61 = .ok (.if_icmp .ge 14, 3)) ∧ (decode cX5_oneLifts 64 = .ok (.iconst 0, 1)) ∧ (decode cX5_oneLifts 65 = .ok (.iload_n 3, 1)) ∧ (decode cX5_oneLifts 66 = .ok (.bipush 6, 2)) ∧ (decode cX5_oneLifts 68 = .ok (.isub, 1)) ∧ (decode cX5_oneLifts 69 = .ok (.invokestatic 28, 3)) ∧ (decode cX5_oneLifts 72 = .ok (.goto 4, 3)) ∧ (decode cX5_oneLifts 75 = .ok (.iload_n 3, 1)) ∧ (decode cX5_oneLifts 76 = .ok (.ireturn, 1)) ∧ (decode cX5_oneLifts 77 = .ok (.iload_n 2, 1)) ∧ (decode cX5_oneLifts 78 = .ok (.bipush 10, 2)) ∧ (decode cX5_oneLifts 80 = .ok (.irem, 1)) := by decide +kernel
theorem dX5_oneLifts_54 : decode cX5_oneLifts 54 = .ok (.invokestatic 25, 3) := bX5_oneLifts_54.1
theorem dX5_oneLifts_57 : decode cX5_oneLifts 57 = .ok (.ireturn, 1) := bX5_oneLifts_54.2.1
theorem dX5_oneLifts_58 : decode cX5_oneLifts 58 = .ok (.iload_n 2, 1) := bX5_oneLifts_54.2.2.1
theorem dX5_oneLifts_59 : decode cX5_oneLifts 59 = .ok (.bipush 18, 2) := bX5_oneLifts_54.2.2.2.1
theorem dX5_oneLifts_61 : decode cX5_oneLifts 61 = .ok (.if_icmp .ge 14, 3) := bX5_oneLifts_54.2.2.2.2.1
theorem dX5_oneLifts_64 : decode cX5_oneLifts 64 = .ok (.iconst 0, 1) := bX5_oneLifts_54.2.2.2.2.2.1
theorem dX5_oneLifts_65 : decode cX5_oneLifts 65 = .ok (.iload_n 3, 1) := bX5_oneLifts_54.2.2.2.2.2.2.1
theorem dX5_oneLifts_66 : decode cX5_oneLifts 66 = .ok (.bipush 6, 2) := bX5_oneLifts_54.2.2.2.2.2.2.2.1
theorem dX5_oneLifts_68 : decode cX5_oneLifts 68 = .ok (.isub, 1) := bX5_oneLifts_54.2.2.2.2.2.2.2.2.1
theorem dX5_oneLifts_69 : decode cX5_oneLifts 69 = .ok (.invokestatic 28, 3) := bX5_oneLifts_54.2.2.2.2.2.2.2.2.2.1
theorem dX5_oneLifts_72 : decode cX5_oneLifts 72 = .ok (.goto 4, 3) := bX5_oneLifts_54.2.2.2.2.2.2.2.2.2.2.1
theorem dX5_oneLifts_75 : decode cX5_oneLifts 75 = .ok (.iload_n 3, 1) := bX5_oneLifts_54.2.2.2.2.2.2.2.2.2.2.2.1
theorem dX5_oneLifts_76 : decode cX5_oneLifts 76 = .ok (.ireturn, 1) := bX5_oneLifts_54.2.2.2.2.2.2.2.2.2.2.2.2.1
theorem dX5_oneLifts_77 : decode cX5_oneLifts 77 = .ok (.iload_n 2, 1) := bX5_oneLifts_54.2.2.2.2.2.2.2.2.2.2.2.2.2.1
theorem dX5_oneLifts_78 : decode cX5_oneLifts 78 = .ok (.bipush 10, 2) := bX5_oneLifts_54.2.2.2.2.2.2.2.2.2.2.2.2.2.2.1
theorem dX5_oneLifts_80 : decode cX5_oneLifts 80 = .ok (.irem, 1) := bX5_oneLifts_54.2.2.2.2.2.2.2.2.2.2.2.2.2.2.2
theorem bX5_oneLifts_81 : (decode cX5_oneLifts 81 = .ok (.iconst 5, 1)) ∧ (decode cX5_oneLifts 82 = .ok (.if_icmp .ne 12, 3)) ∧ (decode cX5_oneLifts 85 = .ok (.iconst 2, 1)) ∧ (decode cX5_oneLifts 86 = .ok (.iload_n 3, 1)) ∧ (decode cX5_oneLifts 87 = .ok (.invokestatic 22, 3)) ∧ (decode cX5_oneLifts 90 = .ok (.imul, 1)) ∧ (decode cX5_oneLifts 91 = .ok (.goto 7, 3)) ∧ (decode cX5_oneLifts 94 = .ok (.iload_n 3, 1)) ∧ (decode cX5_oneLifts 95 = .ok (.invokestatic 22, 3)) ∧ (decode cX5_oneLifts 98 = .ok (.ireturn, 1)) ∧ (decode cX5_oneLifts 99 = .ok (.iconst 0, 1)) ∧ (decode cX5_oneLifts 100 = .ok (.iload_n 3, 1)) ∧ (decode cX5_oneLifts 101 = .ok (.invokestatic 25, 3)) ∧ (decode cX5_oneLifts 104 = .ok (.iconst 0, 1)) ∧ (decode cX5_oneLifts 105 = .ok (.iload_n 2, 1)) ∧ (decode cX5_oneLifts 106 = .ok (.bipush 60, 2)) := by decide +kernel
theorem dX5_oneLifts_81 : decode cX5_oneLifts 81 = .ok (.iconst 5, 1) := bX5_oneLifts_81.1
theorem dX5_oneLifts_82 : decode cX5_oneLifts 82 = .ok (.if_icmp .ne 12, 3) := bX5_oneLifts_81.2.1
theorem dX5_oneLifts_85 : decode cX5_oneLifts 85 = .ok (.iconst 2, 1) := bX5_oneLifts_81.2.2.1
theorem dX5_oneLifts_86 : decode cX5_oneLifts 86 = .ok (.iload_n 3, 1) := bX5_oneLifts_81.2.2.2.1
theorem dX5_oneLifts_87 : decode cX5_oneLifts 87 = .ok (.invokestatic 22, 3) := bX5_oneLifts_81.2.2.2.2.1
theorem dX5_oneLifts_90 : decode cX5_oneLifts 90 = .ok (.imul, 1) := bX5_oneLifts_81.2.2.2.2.2.1
theorem dX5_oneLifts_91 : decode cX5_oneLifts 91 = .ok (.goto 7, 3) := bX5_oneLifts_81.2.2.2.2.2.2.1
theorem dX5_oneLifts_94 : decode cX5_oneLifts 94 = .ok (.iload_n 3, 1) := bX5_oneLifts_81.2.2.2.2.2.2.2.1
theorem dX5_oneLifts_95 : decode cX5_oneLifts 95 = .ok (.invokestatic 22, 3) := bX5_oneLifts_81.2.2.2.2.2.2.2.2.1
theorem dX5_oneLifts_98 : decode cX5_oneLifts 98 = .ok (.ireturn, 1) := bX5_oneLifts_81.2.2.2.2.2.2.2.2.2.1
theorem dX5_oneLifts_99 : decode cX5_oneLifts 99 = .ok (.iconst 0, 1) := bX5_oneLifts_81.2.2.2.2.2.2.2.2.2.2.1
theorem dX5_oneLifts_100 : decode cX5_oneLifts 100 = .ok (.iload_n 3, 1) := bX5_oneLifts_81.2.2.2.2.2.2.2.2.2.2.2.1
theorem dX5_oneLifts_101 : decode cX5_oneLifts 101 = .ok (.invokestatic 25, 3) := bX5_oneLifts_81.2.2.2.2.2.2.2.2.2.2.2.2.1
theorem dX5_oneLifts_104 : decode cX5_oneLifts 104 = .ok (.iconst 0, 1) := bX5_oneLifts_81.2.2.2.2.2.2.2.2.2.2.2.2.2.1
theorem dX5_oneLifts_105 : decode cX5_oneLifts 105 = .ok (.iload_n 2, 1) := bX5_oneLifts_81.2.2.2.2.2.2.2.2.2.2.2.2.2.2.1
theorem dX5_oneLifts_106 : decode cX5_oneLifts 106 = .ok (.bipush 60, 2) := bX5_oneLifts_81.2.2.2.2.2.2.2.2.2.2.2.2.2.2.2
theorem bX5_oneLifts_108 : (decode cX5_oneLifts 108 = .ok (.isub, 1)) ∧ (decode cX5_oneLifts 109 = .ok (.invokestatic 28, 3)) ∧ (decode cX5_oneLifts 112 = .ok (.iconst 5, 1)) ∧ (decode cX5_oneLifts 113 = .ok (.idiv, 1)) ∧ (decode cX5_oneLifts 114 = .ok (.isub, 1)) ∧ (decode cX5_oneLifts 115 = .ok (.invokestatic 28, 3)) ∧ (decode cX5_oneLifts 118 = .ok (.ireturn, 1)) ∧ (decode cX5_oneLifts 119 = .ok (.iload_n 3, 1)) ∧ (decode cX5_oneLifts 120 = .ok (.ireturn, 1)) := by decide +kernel
theorem dX5_oneLifts_108 : decode cX5_oneLifts 108 = .ok (.isub, 1) := bX5_oneLifts_108.1
theorem dX5_oneLifts_109 : decode cX5_oneLifts 109 = .ok (.invokestatic 28, 3) := bX5_oneLifts_108.2.1
theorem dX5_oneLifts_112 : decode cX5_oneLifts 112 = .ok (.iconst 5, 1) := bX5_oneLifts_108.2.2.1
theorem dX5_oneLifts_113 : decode cX5_oneLifts 113 = .ok (.idiv, 1) := bX5_oneLifts_108.2.2.2.1
theorem dX5_oneLifts_114 : decode cX5_oneLifts 114 = .ok (.isub, 1) := bX5_oneLifts_108.2.2.2.2.1
theorem dX5_oneLifts_115 : decode cX5_oneLifts 115 = .ok (.invokestatic 28, 3) := bX5_oneLifts_108.2.2.2.2.2.1
theorem dX5_oneLifts_118 : decode cX5_oneLifts 118 = .ok (.ireturn, 1) := bX5_oneLifts_108.2.2.2.2.2.2.1
theorem dX5_oneLifts_119 : decode cX5_oneLifts 119 = .ok (.iload_n 3, 1) := bX5_oneLifts_108.2.2.2.2.2.2.2.1
theorem dX5_oneLifts_120 : decode cX5_oneLifts 120 = .ok (.ireturn, 1) := bX5_oneLifts_108.2.2.2.2.2.2.2.2
theorem bX5_smith_0 : (decode cX5_smith 0 = .ok (.iload_n 0, 1)) ∧ (decode cX5_smith 1 = .ok (.bipush 8, 2)) ∧ (decode cX5_smith 3 = .ok (.iadd, 1)) ∧ (decode cX5_smith 4 = .ok (.ireturn, 1)) := by decide +kernel
theorem dX5_smith_0 : decode cX5_smith 0 = .ok (.iload_n 0, 1) := bX5_smith_0.1
theorem dX5_smith_1 : decode cX5_smith 1 = .ok (.bipush 8, 2) := bX5_smith_0.2.1
theorem dX5_smith_3 : decode cX5_smith 3 = .ok (.iadd, 1) := bX5_smith_0.2.2.1
theorem dX5_smith_4 : decode cX5_smith 4 = .ok (.ireturn, 1) := bX5_smith_0.2.2.2
theorem bX5_weak_0 : (decode cX5_weak 0 = .ok (.iload_n 0, 1)) ∧ (decode cX5_weak 1 = .ok (.iconst 2, 1)) ∧ (decode cX5_weak 2 = .ok (.idiv, 1)) ∧ (decode cX5_weak 3 = .ok (.ireturn, 1)) := by decide +kernel
theorem dX5_weak_0 : decode cX5_weak 0 = .ok (.iload_n 0, 1) := bX5_weak_0.1
theorem dX5_weak_1 : decode cX5_weak 1 = .ok (.iconst 2, 1) := bX5_weak_0.2.1
theorem dX5_weak_2 : decode cX5_weak 2 = .ok (.idiv, 1) := bX5_weak_0.2.2.1
theorem dX5_weak_3 : decode cX5_weak 3 = .ok (.ireturn, 1) := bX5_weak_0.2.2.2
theorem bX6_init_0 : (decode cX6_init 0 = .ok (.aload_n 0, 1)) ∧ (decode cX6_init 1 = .ok (.invokespecial 3, 3)) ∧ (decode cX6_init 4 = .ok (.aload_n 0, 1)) ∧ (decode cX6_init 5 = .ok (.bipush 7, 2)) ∧ (decode cX6_init 7 = .ok (.newarray .int, 2)) ∧ (decode cX6_init 9 = .ok (.putfield 9, 3)) ∧ (decode cX6_init 12 = .ok (.aload_n 0, 1)) ∧ (decode cX6_init 13 = .ok (.bipush 7, 2)) ∧ (decode cX6_init 15 = .ok (.newarray .int, 2)) ∧ (decode cX6_init 17 = .ok (.putfield 15, 3)) ∧ (decode cX6_init 20 = .ok (.aload_n 0, 1)) ∧ (decode cX6_init 21 = .ok (.bipush 7, 2)) ∧ (decode cX6_init 23 = .ok (.newarray .int, 2)) ∧ (decode cX6_init 25 = .ok (.putfield 18, 3)) ∧ (decode cX6_init 28 = .ok (.aload_n 0, 1)) ∧ (decode cX6_init 29 = .ok (.bipush 7, 2)) := by decide +kernel
theorem dX6_init_0 : decode cX6_init 0 = .ok (.aload_n 0, 1) := bX6_init_0.1
theorem dX6_init_1 : decode cX6_init 1 = .ok (.invokespecial 3, 3) := bX6_init_0.2.1
theorem dX6_init_4 : decode cX6_init 4 = .ok (.aload_n 0, 1) := bX6_init_0.2.2.1
theorem dX6_init_5 : decode cX6_init 5 = .ok (.bipush 7, 2) := bX6_init_0.2.2.2.1
theorem dX6_init_7 : decode cX6_init 7 = .ok (.newarray .int, 2) := bX6_init_0.2.2.2.2.1
theorem dX6_init_9 : decode cX6_init 9 = .ok (.putfield 9, 3) := bX6_init_0.2.2.2.2.2.1
theorem dX6_init_12 : decode cX6_init 12 = .ok (.aload_n 0, 1) := bX6_init_0.2.2.2.2.2.2.1
theorem dX6_init_13 : decode cX6_init 13 = .ok (.bipush 7, 2) := bX6_init_0.2.2.2.2.2.2.2.1
theorem dX6_init_15 : decode cX6_init 15 = .ok (.newarray .int, 2) := bX6_init_0.2.2.2.2.2.2.2.2.1
theorem dX6_init_17 : decode cX6_init 17 = .ok (.putfield 15, 3) := bX6_init_0.2.2.2.2.2.2.2.2.2.1
theorem dX6_init_20 : decode cX6_init 20 = .ok (.aload_n 0, 1) := bX6_init_0.2.2.2.2.2.2.2.2.2.2.1
theorem dX6_init_21 : decode cX6_init 21 = .ok (.bipush 7, 2) := bX6_init_0.2.2.2.2.2.2.2.2.2.2.2.1
theorem dX6_init_23 : decode cX6_init 23 = .ok (.newarray .int, 2) := bX6_init_0.2.2.2.2.2.2.2.2.2.2.2.2.1
theorem dX6_init_25 : decode cX6_init 25 = .ok (.putfield 18, 3) := bX6_init_0.2.2.2.2.2.2.2.2.2.2.2.2.2.1
theorem dX6_init_28 : decode cX6_init 28 = .ok (.aload_n 0, 1) := bX6_init_0.2.2.2.2.2.2.2.2.2.2.2.2.2.2.1
theorem dX6_init_29 : decode cX6_init 29 = .ok (.bipush 7, 2) := bX6_init_0.2.2.2.2.2.2.2.2.2.2.2.2.2.2.2
theorem bX6_init_31 : (decode cX6_init 31 = .ok (.newarray .int, 2)) ∧ (decode cX6_init 33 = .ok (.putfield 21, 3)) ∧ (decode cX6_init 36 = .ok (.aload_n 0, 1)) ∧ (decode cX6_init 37 = .ok (.new 24, 3)) ∧ (decode cX6_init 40 = .ok (.dup, 1)) ∧ (decode cX6_init 41 = .ok (.invokespecial 26, 3)) ∧ (decode cX6_init 44 = .ok (.putfield 27, 3)) ∧ (decode cX6_init 47 = .ok (.aload_n 0, 1)) ∧ (decode cX6_init 48 = .ok (.bipush 8, 2)) ∧ (decode cX6_init 50 = .ok (.anewarray 24, 3)) ∧ (decode cX6_init 53 = .ok (.putfield 31, 3)) ∧ (decode cX6_init 56 = .ok (.aload_n 0, 1)) ∧ (decode cX6_init 57 = .ok (.new 35, 3)) ∧ (decode cX6_init 60 = .ok (.dup, 1)) ∧ (decode cX6_init 61 = .ok (.iconst 5, 1)) ∧ (decode cX6_init 62 = .ok (.invokespecial 37, 3)) := by decide +kernel
theorem dX6_init_31 : decode cX6_init 31 = .ok (.newarray .int, 2) := bX6_init_31.1
theorem dX6_init_33 : decode cX6_init 33 = .ok (.putfield 21, 3) := bX6_init_31.2.1
theorem dX6_init_36 : decode cX6_init 36 = .ok (.aload_n 0, 1) := bX6_init_31.2.2.1
theorem dX6_init_37 : decode cX6_init 37 = .ok (.new 24, 3) := bX6_init_31.2.2.2.1
theorem dX6_init_40 : decode cX6_init 40 = .ok (.dup, 1) := bX6_init_31.2.2.2.2.1
theorem dX6_init_41 : decode cX6_init 41 = .ok (.invokespecial 26, 3) := bX6_init_31.2.2.2.2.2.1
theorem dX6_init_44 : decode cX6_init 44 = .ok (.putfield 27, 3) := bX6_init_31.2.2.2.2.2.2.1
theorem dX6_init_47 : decode cX6_init 47 = .ok (.aload_n 0, 1) := bX6_init_31.2.2.2.2.2.2.2.1
theorem dX6_init_48 : decode cX6_init 48 = .ok (.bipush 8, 2) := bX6_init_31.2.2.2.2.2.2.2.2.1
theorem dX6_init_50 : decode cX6_init 50 = .ok (.anewarray 24, 3) := bX6_init_31.2.2.2.2.2.2.2.2.2.1
theorem dX6_init_53 : decode cX6_init 53 = .ok (.putfield 31, 3) := bX6_init_31.2.2.2.2.2.2.2.2.2.2.1
theorem dX6_init_56 : decode cX6_init 56 = .ok (.aload_n 0, 1) := bX6_init_31.2.2.2.2.2.2.2.2.2.2.2.1
theorem dX6_init_57 : decode cX6_init 57 = .ok (.new 35, 3) := bX6_init_31.2.2.2.2.2.2.2.2.2.2.2.2.1
theorem dX6_init_60 : decode cX6_init 60 = .ok (.dup, 1) := bX6_init_31.2.2.2.2.2.2.2.2.2.2.2.2.2.1
theorem dX6_init_61 : decode cX6_init 61 = .ok (.iconst 5, 1) := bX6_init_31.2.2.2.2.2.2.2.2.2.2.2.2.2.2.1
theorem dX6_init_62 : decode cX6_init 62 = .ok (.invokespecial 37, 3) := bX6_init_31.2.2.2.2.2.2.2.2.2.2.2.2.2.2.2
theorem bX6_init_65 : (decode cX6_init 65 = .ok (.putfield 40, 3)) ∧ (decode cX6_init 68 = .ok (.aload_n 0, 1)) ∧ (decode cX6_init 69 = .ok (.new 35, 3)) ∧ (decode cX6_init 72 = .ok (.dup, 1)) ∧ (decode cX6_init 73 = .ok (.bipush 6, 2)) ∧ (decode cX6_init 75 = .ok (.invokespecial 37, 3)) ∧ (decode cX6_init 78 = .ok (.putfield 44, 3)) ∧ (decode cX6_init 81 = .ok (.aload_n 0, 1)) ∧ (decode cX6_init 82 = .ok (.new 35, 3)) ∧ (decode cX6_init 85 = .ok (.dup, 1)) ∧ (decode cX6_init 86 = .ok (.bipush 6, 2)) ∧ (decode cX6_init 88 = .ok (.invokespecial 37, 3)) ∧ (decode cX6_init 91 = .ok (.putfield 47, 3)) ∧ (decode cX6_init 94 = .ok (.iconst 0, 1)) ∧ (decode cX6_init 95 = .ok (.istore_n 1, 1)) ∧ (decode cX6_init 96 = .ok (.iload_n 1, 1)) := by decide +kernel
theorem dX6_init_65 : decode cX6_init 65 = .ok (.putfield 40, 3) := bX6_init_65.1
theorem dX6_init_68 : decode cX6_init 68 = .ok (.aload_n 0, 1) := bX6_init_65.2.1
theorem dX6_init_69 : decode cX6_init 69 = .ok (.new 35, 3) := bX6_init_65.2.2.1
theorem dX6_init_72 : decode cX6_init 72 = .ok (.dup, 1) := bX6_init_65.2.2.2.1
theorem dX6_init_73 : decode cX6_init 73 = .ok (.bipush 6, 2) := bX6_init_65.2.2.2.2.1
theorem dX6_init_75 : decode cX6_init 75 = .ok (.invokespecial 37, 3) := bX6_init_65.2.2.2.2.2.1
theorem dX6_init_78 : decode cX6_init 78 = .ok (.putfield 44, 3) := bX6_init_65.2.2.2.2.2.2.1
theorem dX6_init_81 : decode cX6_init 81 = .ok (.aload_n 0, 1) := bX6_init_65.2.2.2.2.2.2.2.1
theorem dX6_init_82 : decode cX6_init 82 = .ok (.new 35, 3) := bX6_init_65.2.2.2.2.2.2.2.2.1
theorem dX6_init_85 : decode cX6_init 85 = .ok (.dup, 1) := bX6_init_65.2.2.2.2.2.2.2.2.2.1
theorem dX6_init_86 : decode cX6_init 86 = .ok (.bipush 6, 2) := bX6_init_65.2.2.2.2.2.2.2.2.2.2.1
theorem dX6_init_88 : decode cX6_init 88 = .ok (.invokespecial 37, 3) := bX6_init_65.2.2.2.2.2.2.2.2.2.2.2.1
theorem dX6_init_91 : decode cX6_init 91 = .ok (.putfield 47, 3) := bX6_init_65.2.2.2.2.2.2.2.2.2.2.2.2.1
theorem dX6_init_94 : decode cX6_init 94 = .ok (.iconst 0, 1) := bX6_init_65.2.2.2.2.2.2.2.2.2.2.2.2.2.1
theorem dX6_init_95 : decode cX6_init 95 = .ok (.istore_n 1, 1) := bX6_init_65.2.2.2.2.2.2.2.2.2.2.2.2.2.2.1
theorem dX6_init_96 : decode cX6_init 96 = .ok (.iload_n 1, 1) := bX6_init_65.2.2.2.2.2.2.2.2.2.2.2.2.2.2.2
theorem bX6_init_97 : (decode cX6_init 97 = .ok (.bipush 8, 2)) ∧ (decode cX6_init 99 = .ok (.if_icmp .ge 22, 3)) ∧ (decode cX6_init 102 = .ok (.aload_n 0, 1)) ∧ (decode cX6_init 103 = .ok (.getfield 31, 3)) ∧ (decode cX6_init 106 = .ok (.iload_n 1, 1)) ∧ (decode cX6_init 107 = .ok (.new 24, 3)) ∧ (decode cX6_init 110 = .ok (.dup, 1)) ∧ (decode cX6_init 111 = .ok (.invokespecial 26, 3)) ∧ (decode cX6_init 114 = .ok (.aastore, 1)) ∧ (decode cX6_init 115 = .ok (.iinc 1 1, 3)) ∧ (decode cX6_init 118 = .ok (.goto (-22), 3)) ∧ (decode cX6_init 121 = .ok (.return_, 1)) := by decide +kernel
theorem dX6_init_97 : decode cX6_init 97 = .ok (.bipush 8, 2) := bX6_init_97.1
theorem dX6_init_99 : decode cX6_init 99 = .ok (.if_icmp .ge 22, 3) := bX6_init_97.2.1
theorem dX6_init_102 : decode cX6_init 102 = .ok (.aload_n 0, 1) := bX6_init_97.2.2.1
theorem dX6_init_103 : decode cX6_init 103 = .ok (.getfield 31, 3) := bX6_init_97.2.2.2.1
theorem dX6_init_106 : decode cX6_init 106 = .ok (.iload_n 1, 1) := bX6_init_97.2.2.2.2.1
theorem dX6_init_107 : decode cX6_init 107 = .ok (.new 24, 3) := bX6_init_97.2.2.2.2.2.1
theorem dX6_init_110 : decode cX6_init 110 = .ok (.dup, 1) := bX6_init_97.2.2.2.2.2.2.1
theorem dX6_init_111 : decode cX6_init 111 = .ok (.invokespecial 26, 3) := bX6_init_97.2.2.2.2.2.2.2.1
theorem dX6_init_114 : decode cX6_init 114 = .ok (.aastore, 1) := bX6_init_97.2.2.2.2.2.2.2.2.1
theorem dX6_init_115 : decode cX6_init 115 = .ok (.iinc 1 1, 3) := bX6_init_97.2.2.2.2.2.2.2.2.2.1
theorem dX6_init_118 : decode cX6_init 118 = .ok (.goto (-22), 3) := bX6_init_97.2.2.2.2.2.2.2.2.2.2.1
theorem dX6_init_121 : decode cX6_init 121 = .ok (.return_, 1) := bX6_init_97.2.2.2.2.2.2.2.2.2.2.2
theorem bX6_startAnew_0 : (decode cX6_startAnew 0 = .ok (.aload_n 0, 1)) ∧ (decode cX6_startAnew 1 = .ok (.iconst 0, 1)) ∧ (decode cX6_startAnew 2 = .ok (.putfield 50, 3)) ∧ (decode cX6_startAnew 5 = .ok (.aload_n 0, 1)) ∧ (decode cX6_startAnew 6 = .ok (.iconst 0, 1)) ∧ (decode cX6_startAnew 7 = .ok (.putfield 54, 3)) ∧ (decode cX6_startAnew 10 = .ok (.aload_n 0, 1)) ∧ (decode cX6_startAnew 11 = .ok (.getfield 27, 3)) ∧ (decode cX6_startAnew 14 = .ok (.iconst 0, 1)) ∧ (decode cX6_startAnew 15 = .ok (.putfield 57, 3)) ∧ (decode cX6_startAnew 18 = .ok (.aload_n 0, 1)) ∧ (decode cX6_startAnew 19 = .ok (.getfield 27, 3)) ∧ (decode cX6_startAnew 22 = .ok (.iconst 0, 1)) ∧ (decode cX6_startAnew 23 = .ok (.putfield 60, 3)) ∧ (decode cX6_startAnew 26 = .ok (.aload_n 0, 1)) ∧ (decode cX6_startAnew 27 = .ok (.iconst 0, 1)) := by decide +kernel
theorem dX6_startAnew_0 : decode cX6_startAnew 0 = .ok (.aload_n 0, 1) := bX6_startAnew_0.1
theorem dX6_startAnew_1 : decode cX6_startAnew 1 = .ok (.iconst 0, 1) := bX6_startAnew_0.2.1
theorem dX6_startAnew_2 : decode cX6_startAnew 2 = .ok (.putfield 50, 3) := bX6_startAnew_0.2.2.1
theorem dX6_startAnew_5 : decode cX6_startAnew 5 = .ok (.aload_n 0, 1) := bX6_startAnew_0.2.2.2.1
theorem dX6_startAnew_6 : decode cX6_startAnew 6 = .ok (.iconst 0, 1) := bX6_startAnew_0.2.2.2.2.1
theorem dX6_startAnew_7 : decode cX6_startAnew 7 = .ok (.putfield 54, 3) := bX6_startAnew_0.2.2.2.2.2.1
theorem dX6_startAnew_10 : decode cX6_startAnew 10 = .ok (.aload_n 0, 1) := bX6_startAnew_0.2.2.2.2.2.2.1
theorem dX6_startAnew_11 : decode cX6_startAnew 11 = .ok (.getfield 27, 3) := bX6_startAnew_0.2.2.2.2.2.2.2.1
theorem dX6_startAnew_14 : decode cX6_startAnew 14 = .ok (.iconst 0, 1) := bX6_startAnew_0.2.2.2.2.2.2.2.2.1
theorem dX6_startAnew_15 : decode cX6_startAnew 15 = .ok (.putfield 57, 3) := bX6_startAnew_0.2.2.2.2.2.2.2.2.2.1
theorem dX6_startAnew_18 : decode cX6_startAnew 18 = .ok (.aload_n 0, 1) := bX6_startAnew_0.2.2.2.2.2.2.2.2.2.2.1
theorem dX6_startAnew_19 : decode cX6_startAnew 19 = .ok (.getfield 27, 3) := bX6_startAnew_0.2.2.2.2.2.2.2.2.2.2.2.1
theorem dX6_startAnew_22 : decode cX6_startAnew 22 = .ok (.iconst 0, 1) := bX6_startAnew_0.2.2.2.2.2.2.2.2.2.2.2.2.1
theorem dX6_startAnew_23 : decode cX6_startAnew 23 = .ok (.putfield 60, 3) := bX6_startAnew_0.2.2.2.2.2.2.2.2.2.2.2.2.2.1
theorem dX6_startAnew_26 : decode cX6_startAnew 26 = .ok (.aload_n 0, 1) := bX6_startAnew_0.2.2.2.2.2.2.2.2.2.2.2.2.2.2.1
theorem dX6_startAnew_27 : decode cX6_startAnew 27 = .ok (.iconst 0, 1) := bX6_startAnew_0.2.2.2.2.2.2.2.2.2.2.2.2.2.2.2
theorem bX6_startAnew_28 : (decode cX6_startAnew 28 = .ok (.putfield 63, 3)) ∧ (decode cX6_startAnew 31 = .ok (.aload_n 0, 1)) ∧ (decode cX6_startAnew 32 = .ok (.getfield 40, 3)) ∧ (decode cX6_startAnew 35 = .ok (.invokevirtual 66, 3)) ∧ (decode cX6_startAnew 38 = .ok (.pop, 1)) ∧ (decode cX6_startAnew 39 = .ok (.aload_n 0, 1)) ∧ (decode cX6_startAnew 40 = .ok (.getfield 44, 3)) ∧ (decode cX6_startAnew 43 = .ok (.invokevirtual 66, 3)) ∧ (decode cX6_startAnew 46 = .ok (.pop, 1)) ∧ (decode cX6_startAnew 47 = .ok (.aload_n 0, 1)) ∧ (decode cX6_startAnew 48 = .ok (.getfield 47, 3)) ∧ (decode cX6_startAnew 51 = .ok (.invokevirtual 66, 3)) ∧ (decode cX6_startAnew 54 = .ok (.pop, 1)) ∧ (decode cX6_startAnew 55 = .ok (.return_, 1)) := by decide +kernel
theorem dX6_startAnew_28 : decode cX6_startAnew 28 = .ok (.putfield 63, 3) := bX6_startAnew_28.1
theorem dX6_startAnew_31 : decode cX6_startAnew 31 = .ok (.aload_n 0, 1) := bX6_startAnew_28.2.1
theorem dX6_startAnew_32 : decode cX6_startAnew 32 = .ok (.getfield 40, 3) := bX6_startAnew_28.2.2.1
theorem dX6_startAnew_35 : decode cX6_startAnew 35 = .ok (.invokevirtual 66, 3) := bX6_startAnew_28.2.2.2.1
theorem dX6_startAnew_38 : decode cX6_startAnew 38 = .ok (.pop, 1) := bX6_startAnew_28.2.2.2.2.1
theorem dX6_startAnew_39 : decode cX6_startAnew 39 = .ok (.aload_n 0, 1) := bX6_startAnew_28.2.2.2.2.2.1
theorem dX6_startAnew_40 : decode cX6_startAnew 40 = .ok (.getfield 44, 3) := bX6_startAnew_28.2.2.2.2.2.2.1
theorem dX6_startAnew_43 : decode cX6_startAnew 43 = .ok (.invokevirtual 66, 3) := bX6_startAnew_28.2.2.2.2.2.2.2.1
theorem dX6_startAnew_46 : decode cX6_startAnew 46 = .ok (.pop, 1) := bX6_startAnew_28.2.2.2.2.2.2.2.2.1
theorem dX6_startAnew_47 : decode cX6_startAnew 47 = .ok (.aload_n 0, 1) := bX6_startAnew_28.2.2.2.2.2.2.2.2.2.1
theorem dX6_startAnew_48 : decode cX6_startAnew 48 = .ok (.getfield 47, 3) := bX6_startAnew_28.2.2.2.2.2.2.2.2.2.2.1
theorem dX6_startAnew_51 : decode cX6_startAnew 51 = .ok (.invokevirtual 66, 3) := bX6_startAnew_28.2.2.2.2.2.2.2.2.2.2.2.1
theorem dX6_startAnew_54 : decode cX6_startAnew 54 = .ok (.pop, 1) := bX6_startAnew_28.2.2.2.2.2.2.2.2.2.2.2.2.1
theorem dX6_startAnew_55 : decode cX6_startAnew 55 = .ok (.return_, 1) := bX6_startAnew_28.2.2.2.2.2.2.2.2.2.2.2.2.2
theorem bX6_copyFrom_0 : (decode cX6_copyFrom 0 = .ok (.aload_n 0, 1)) ∧ (decode cX6_copyFrom 1 = .ok (.aload_n 1, 1)) ∧ (decode cX6_copyFrom 2 = .ok (.getfield 50, 3)) ∧ (decode cX6_copyFrom 5 = .ok (.putfield 50, 3)) ∧ (decode cX6_copyFrom 8 = .ok (.aload_n 0, 1)) ∧ (decode cX6_copyFrom 9 = .ok (.aload_n 1, 1)) ∧ (decode cX6_copyFrom 10 = .ok (.getfield 54, 3)) ∧ (decode cX6_copyFrom 13 = .ok (.putfield 54, 3)) ∧ (decode cX6_copyFrom 16 = .ok (.iconst 0, 1)) ∧ (decode cX6_copyFrom 17 = .ok (.istore_n 2, 1)) ∧ (decode cX6_copyFrom 18 = .ok (.iload_n 2, 1)) ∧ (decode cX6_copyFrom 19 = .ok (.bipush 7, 2)) ∧ (decode cX6_copyFrom 21 = .ok (.if_icmp .ge 33, 3)) ∧ (decode cX6_copyFrom 24 = .ok (.aload_n 0, 1)) ∧ (decode cX6_copyFrom 25 = .ok (.getfield 9, 3)) ∧ (decode cX6_copyFrom 28 = .ok (.iload_n 2, 1)) := by decide +kernel
theorem dX6_copyFrom_0 : decode cX6_copyFrom 0 = .ok (.aload_n 0, 1) := bX6_copyFrom_0.1
theorem dX6_copyFrom_1 : decode cX6_copyFrom 1 = .ok (.aload_n 1, 1) := bX6_copyFrom_0.2.1
theorem dX6_copyFrom_2 : decode cX6_copyFrom 2 = .ok (.getfield 50, 3) := bX6_copyFrom_0.2.2.1
theorem dX6_copyFrom_5 : decode cX6_copyFrom 5 = .ok (.putfield 50, 3) := bX6_copyFrom_0.2.2.2.1
theorem dX6_copyFrom_8 : decode cX6_copyFrom 8 = .ok (.aload_n 0, 1) := bX6_copyFrom_0.2.2.2.2.1
theorem dX6_copyFrom_9 : decode cX6_copyFrom 9 = .ok (.aload_n 1, 1) := bX6_copyFrom_0.2.2.2.2.2.1
theorem dX6_copyFrom_10 : decode cX6_copyFrom 10 = .ok (.getfield 54, 3) := bX6_copyFrom_0.2.2.2.2.2.2.1
theorem dX6_copyFrom_13 : decode cX6_copyFrom 13 = .ok (.putfield 54, 3) := bX6_copyFrom_0.2.2.2.2.2.2.2.1
theorem dX6_copyFrom_16 : decode cX6_copyFrom 16 = .ok (.iconst 0, 1) := bX6_copyFrom_0.2.2.2.2.2.2.2.2.1
theorem dX6_copyFrom_17 : decode cX6_copyFrom 17 = .ok (.istore_n 2, 1) := bX6_copyFrom_0.2.2.2.2.2.2.2.2.2.1
theorem dX6_copyFrom_18 : decode cX6_copyFrom 18 = .ok (.iload_n 2, 1) := bX6_copyFrom_0.2.2.2.2.2.2.2.2.2.2.1
theorem dX6_copyFrom_19 : decode cX6_copyFrom 19 = .ok (.bipush 7, 2) := bX6_copyFrom_0.2.2.2.2.2.2.2.2.2.2.2.1
theorem dX6_copyFrom_21 : decode cX6_copyFrom 21 = .ok (.if_icmp .ge 33, 3) := bX6_copyFrom_0.2.2.2.2.2.2.2.2.2.2.2.2.1
theorem dX6_copyFrom_24 : decode cX6_copyFrom 24 = .ok (.aload_n 0, 1) := bX6_copyFrom_0.2.2.2.2.2.2.2.2.2.2.2.2.2.1
theorem dX6_copyFrom_25 : decode cX6_copyFrom 25 = .ok (.getfield 9, 3) := bX6_copyFrom_0.2.2.2.2.2.2.2.2.2.2.2.2.2.2.1
theorem dX6_copyFrom_28 : decode cX6_copyFrom 28 = .ok (.iload_n 2, 1) := bX6_copyFrom_0.2.2.2.2.2.2.2.2.2.2.2.2.2.2.2
theorem bX6_copyFrom_29 : (decode cX6_copyFrom 29 = .ok (.aload_n 1, 1)) ∧ (decode cX6_copyFrom 30 = .ok (.getfield 9, 3)) ∧ (decode cX6_copyFrom 33 = .ok (.iload_n 2, 1)) ∧ (decode cX6_copyFrom 34 = .ok (.iaload, 1)) ∧ (decode cX6_copyFrom 35 = .ok (.iastore, 1)) ∧ (decode cX6_copyFrom 36 = .ok (.aload_n 0, 1)) ∧ (decode cX6_copyFrom 37 = .ok (.getfield 15, 3)) ∧ (decode cX6_copyFrom 40 = .ok (.iload_n 2, 1)) := by decide +kernel
theorem dX6_copyFrom_29 : decode cX6_copyFrom 29 = .ok (.aload_n 1, 1) := bX6_copyFrom_29.1
theorem dX6_copyFrom_30 : decode cX6_copyFrom 30 = .ok (.getfield 9, 3) := bX6_copyFrom_29.2.1
theorem dX6_copyFrom_33 : decode cX6_copyFrom 33 = .ok (.iload_n 2, 1) := bX6_copyFrom_29.2.2.1
theorem dX6_copyFrom_34 : decode cX6_copyFrom 34 = .ok (.iaload, 1) := bX6_copyFrom_29.2.2.2.1
theorem dX6_copyFrom_35 : decode cX6_copyFrom 35 = .ok (.iastore, 1) := bX6_copyFrom_29.2.2.2.2.1
theorem dX6_copyFrom_36 : decode cX6_copyFrom 36 = .ok (.aload_n 0, 1) := bX6_copyFrom_29.2.2.2.2.2.1
theorem dX6_copyFrom_37 : decode cX6_copyFrom 37 = .ok (.getfield 15, 3) := bX6_copyFrom_29.2.2.2.2.2.2.1
theorem dX6_copyFrom_40 : decode cX6_copyFrom 40 = .ok (.iload_n 2, 1) := bX6_copyFrom_29.2.2.2.2.2.2.2
