theorem bX8_tell_77 : (decode cX8_tell 77 = .ok (.bipush 20, 2)) ∧ (decode cX8_tell 79 = .ok (.iload_n 1, 1)) ∧ (decode cX8_tell 80 = .ok (.iadd, 1)) ∧ (decode cX8_tell 81 = .ok (.iaload, 1)) ∧ (decode cX8_tell 82 = .ok (.iload 8, 2)) ∧ (decode cX8_tell 84 = .ok (.bipush 10, 2)) ∧ (decode cX8_tell 86 = .ok (.iload 5, 2)) ∧ (decode cX8_tell 88 = .ok (.imul, 1)) ∧ (decode cX8_tell 89 = .ok (.invokestatic 52, 3)) ∧ (decode cX8_tell 92 = .ok (.iload 6, 2)) ∧ (decode cX8_tell 94 = .ok (.if_icmp .lt 7, 3)) ∧ (decode cX8_tell 97 = .ok (.iconst 1, 1)) ∧ (decode cX8_tell 98 = .ok (.goto 4, 3)) ∧ (decode cX8_tell 101 = .ok (.iconst 0, 1)) ∧ (decode cX8_tell 102 = .ok (.iadd, 1)) ∧ (decode cX8_tell 103 = .ok (.istore 7, 2)) := by decide +kernel
theorem dX8_tell_77 : decode cX8_tell 77 = .ok (.bipush 20, 2) := bX8_tell_77.1
theorem dX8_tell_79 : decode cX8_tell 79 = .ok (.iload_n 1, 1) := bX8_tell_77.2.1
theorem dX8_tell_80 : decode cX8_tell 80 = .ok (.iadd, 1) := bX8_tell_77.2.2.1
theorem dX8_tell_81 : decode cX8_tell 81 = .ok (.iaload, 1) := bX8_tell_77.2.2.2.1
theorem dX8_tell_82 : decode cX8_tell 82 = .ok (.iload 8, 2) := bX8_tell_77.2.2.2.2.1
theorem dX8_tell_84 : decode cX8_tell 84 = .ok (.bipush 10, 2) := bX8_tell_77.2.2.2.2.2.1
theorem dX8_tell_86 : decode cX8_tell 86 = .ok (.iload 5, 2) := bX8_tell_77.2.2.2.2.2.2.1
theorem dX8_tell_88 : decode cX8_tell 88 = .ok (.imul, 1) := bX8_tell_77.2.2.2.2.2.2.2.1
theorem dX8_tell_89 : decode cX8_tell 89 = .ok (.invokestatic 52, 3) := bX8_tell_77.2.2.2.2.2.2.2.2.1
theorem dX8_tell_92 : decode cX8_tell 92 = .ok (.iload 6, 2) := bX8_tell_77.2.2.2.2.2.2.2.2.2.1
theorem dX8_tell_94 : decode cX8_tell 94 = .ok (.if_icmp .lt 7, 3) := bX8_tell_77.2.2.2.2.2.2.2.2.2.2.1
theorem dX8_tell_97 : decode cX8_tell 97 = .ok (.iconst 1, 1) := bX8_tell_77.2.2.2.2.2.2.2.2.2.2.2.1
theorem dX8_tell_98 : decode cX8_tell 98 = .ok (.goto 4, 3) := bX8_tell_77.2.2.2.2.2.2.2.2.2.2.2.2.1
theorem dX8_tell_101 : decode cX8_tell 101 = .ok (.iconst 0, 1) := bX8_tell_77.2.2.2.2.2.2.2.2.2.2.2.2.2.1
theorem dX8_tell_102 : decode cX8_tell 102 = .ok (.iadd, 1) := bX8_tell_77.2.2.2.2.2.2.2.2.2.2.2.2.2.2.1
theorem dX8_tell_103 : decode cX8_tell 103 = .ok (.istore 7, 2) := bX8_tell_77.2.2.2.2.2.2.2.2.2.2.2.2.2.2.2
theorem bX8_tell_105 : (decode cX8_tell 105 = .ok (.iinc 8 1, 3)) ∧ (decode cX8_tell 108 = .ok (.goto (-53), 3)) ∧ (decode cX8_tell 111 = .ok (.iload 7, 2)) ∧ (decode cX8_tell 113 = .ok (.iload_n 2, 1)) ∧ (decode cX8_tell 114 = .ok (.invokestatic 180, 3)) ∧ (decode cX8_tell 117 = .ok (.iload 7, 2)) ∧ (decode cX8_tell 119 = .ok (.isub, 1)) ∧ (decode cX8_tell 120 = .ok (.if_icmp .le 8, 3)) ∧ (decode cX8_tell 123 = .ok (.iload 7, 2)) ∧ (decode cX8_tell 125 = .ok (.goto 10, 3)) ∧ (decode cX8_tell 128 = .ok (.iload_n 2, 1)) ∧ (decode cX8_tell 129 = .ok (.invokestatic 180, 3)) ∧ (decode cX8_tell 132 = .ok (.iload 7, 2)) ∧ (decode cX8_tell 134 = .ok (.isub, 1)) ∧ (decode cX8_tell 135 = .ok (.istore 8, 2)) ∧ (decode cX8_tell 137 = .ok (.iload 8, 2)) := by decide +kernel
theorem dX8_tell_105 : decode cX8_tell 105 = .ok (.iinc 8 1, 3) := bX8_tell_105.1
theorem dX8_tell_108 : decode cX8_tell 108 = .ok (.goto (-53), 3) := bX8_tell_105.2.1
theorem dX8_tell_111 : decode cX8_tell 111 = .ok (.iload 7, 2) := bX8_tell_105.2.2.1
theorem dX8_tell_113 : decode cX8_tell 113 = .ok (.iload_n 2, 1) := bX8_tell_105.2.2.2.1
theorem dX8_tell_114 : decode cX8_tell 114 = .ok (.invokestatic 180, 3) := bX8_tell_105.2.2.2.2.1
theorem dX8_tell_117 : decode cX8_tell 117 = .ok (.iload 7, 2) := bX8_tell_105.2.2.2.2.2.1
theorem dX8_tell_119 : decode cX8_tell 119 = .ok (.isub, 1) := bX8_tell_105.2.2.2.2.2.2.1
theorem dX8_tell_120 : decode cX8_tell 120 = .ok (.if_icmp .le 8, 3) := bX8_tell_105.2.2.2.2.2.2.2.1
theorem dX8_tell_123 : decode cX8_tell 123 = .ok (.iload 7, 2) := bX8_tell_105.2.2.2.2.2.2.2.2.1
theorem dX8_tell_125 : decode cX8_tell 125 = .ok (.goto 10, 3) := bX8_tell_105.2.2.2.2.2.2.2.2.2.1
theorem dX8_tell_128 : decode cX8_tell 128 = .ok (.iload_n 2, 1) := bX8_tell_105.2.2.2.2.2.2.2.2.2.2.1
theorem dX8_tell_129 : decode cX8_tell 129 = .ok (.invokestatic 180, 3) := bX8_tell_105.2.2.2.2.2.2.2.2.2.2.2.1
theorem dX8_tell_132 : decode cX8_tell 132 = .ok (.iload 7, 2) := bX8_tell_105.2.2.2.2.2.2.2.2.2.2.2.2.1
theorem dX8_tell_134 : decode cX8_tell 134 = .ok (.isub, 1) := bX8_tell_105.2.2.2.2.2.2.2.2.2.2.2.2.2.1
theorem dX8_tell_135 : decode cX8_tell 135 = .ok (.istore 8, 2) := bX8_tell_105.2.2.2.2.2.2.2.2.2.2.2.2.2.2.1
theorem dX8_tell_137 : decode cX8_tell 137 = .ok (.iload 8, 2) := bX8_tell_105.2.2.2.2.2.2.2.2.2.2.2.2.2.2.2
theorem bX8_tell_139 : (decode cX8_tell 139 = .ok (.iload 4, 2)) ∧ (decode cX8_tell 141 = .ok (.if_icmp .ge 14, 3)) ∧ (decode cX8_tell 144 = .ok (.bipush 100, 2)) ∧ (decode cX8_tell 146 = .ok (.iload 5, 2)) ∧ (decode cX8_tell 148 = .ok (.imul, 1)) ∧ (decode cX8_tell 149 = .ok (.iload 6, 2)) ∧ (decode cX8_tell 151 = .ok (.iadd, 1)) ∧ (decode cX8_tell 152 = .ok (.goto 4, 3)) ∧ (decode cX8_tell 155 = .ok (.iload_n 3, 1)) ∧ (decode cX8_tell 156 = .ok (.istore_n 3, 1)) ∧ (decode cX8_tell 157 = .ok (.iload 8, 2)) ∧ (decode cX8_tell 159 = .ok (.iload 4, 2)) ∧ (decode cX8_tell 161 = .ok (.if_icmp .ge 8, 3)) ∧ (decode cX8_tell 164 = .ok (.iload 8, 2)) ∧ (decode cX8_tell 166 = .ok (.goto 5, 3)) ∧ (decode cX8_tell 169 = .ok (.iload 4, 2)) := by decide +kernel
theorem dX8_tell_139 : decode cX8_tell 139 = .ok (.iload 4, 2) := bX8_tell_139.1
theorem dX8_tell_141 : decode cX8_tell 141 = .ok (.if_icmp .ge 14, 3) := bX8_tell_139.2.1
theorem dX8_tell_144 : decode cX8_tell 144 = .ok (.bipush 100, 2) := bX8_tell_139.2.2.1
theorem dX8_tell_146 : decode cX8_tell 146 = .ok (.iload 5, 2) := bX8_tell_139.2.2.2.1
theorem dX8_tell_148 : decode cX8_tell 148 = .ok (.imul, 1) := bX8_tell_139.2.2.2.2.1
theorem dX8_tell_149 : decode cX8_tell 149 = .ok (.iload 6, 2) := bX8_tell_139.2.2.2.2.2.1
theorem dX8_tell_151 : decode cX8_tell 151 = .ok (.iadd, 1) := bX8_tell_139.2.2.2.2.2.2.1
theorem dX8_tell_152 : decode cX8_tell 152 = .ok (.goto 4, 3) := bX8_tell_139.2.2.2.2.2.2.2.1
theorem dX8_tell_155 : decode cX8_tell 155 = .ok (.iload_n 3, 1) := bX8_tell_139.2.2.2.2.2.2.2.2.1
theorem dX8_tell_156 : decode cX8_tell 156 = .ok (.istore_n 3, 1) := bX8_tell_139.2.2.2.2.2.2.2.2.2.1
theorem dX8_tell_157 : decode cX8_tell 157 = .ok (.iload 8, 2) := bX8_tell_139.2.2.2.2.2.2.2.2.2.2.1
theorem dX8_tell_159 : decode cX8_tell 159 = .ok (.iload 4, 2) := bX8_tell_139.2.2.2.2.2.2.2.2.2.2.2.1
theorem dX8_tell_161 : decode cX8_tell 161 = .ok (.if_icmp .ge 8, 3) := bX8_tell_139.2.2.2.2.2.2.2.2.2.2.2.2.1
theorem dX8_tell_164 : decode cX8_tell 164 = .ok (.iload 8, 2) := bX8_tell_139.2.2.2.2.2.2.2.2.2.2.2.2.2.1
theorem dX8_tell_166 : decode cX8_tell 166 = .ok (.goto 5, 3) := bX8_tell_139.2.2.2.2.2.2.2.2.2.2.2.2.2.2.1
theorem dX8_tell_169 : decode cX8_tell 169 = .ok (.iload 4, 2) := bX8_tell_139.2.2.2.2.2.2.2.2.2.2.2.2.2.2.2
theorem bX8_tell_171 : (decode cX8_tell 171 = .ok (.istore 4, 2)) ∧ (decode cX8_tell 173 = .ok (.iinc 6 1, 3)) ∧ (decode cX8_tell 176 = .ok (.goto (-134), 3)) ∧ (decode cX8_tell 179 = .ok (.iinc 5 1, 3)) ∧ (decode cX8_tell 182 = .ok (.goto (-154), 3)) ∧ (decode cX8_tell 185 = .ok (.iload_n 3, 1)) ∧ (decode cX8_tell 186 = .ok (.ireturn, 1)) := by decide +kernel
theorem dX8_tell_171 : decode cX8_tell 171 = .ok (.istore 4, 2) := bX8_tell_171.1
theorem dX8_tell_173 : decode cX8_tell 173 = .ok (.iinc 6 1, 3) := bX8_tell_171.2.1
theorem dX8_tell_176 : decode cX8_tell 176 = .ok (.goto (-134), 3) := bX8_tell_171.2.2.1
theorem dX8_tell_179 : decode cX8_tell 179 = .ok (.iinc 5 1, 3) := bX8_tell_171.2.2.2.1
theorem dX8_tell_182 : decode cX8_tell 182 = .ok (.goto (-154), 3) := bX8_tell_171.2.2.2.2.1
theorem dX8_tell_185 : decode cX8_tell 185 = .ok (.iload_n 3, 1) := bX8_tell_171.2.2.2.2.2.1
theorem dX8_tell_186 : decode cX8_tell 186 = .ok (.ireturn, 1) := bX8_tell_171.2.2.2.2.2.2
theorem bX8_note_0 : (decode cX8_note 0 = .ok (.aload_n 0, 1)) ∧ (decode cX8_note 1 = .ok (.iload_n 1, 1)) ∧ (decode cX8_note 2 = .ok (.invokevirtual 164, 3)) ∧ (decode cX8_note 5 = .ok (.ifCond .eq 34, 3)) ∧ (decode cX8_note 8 = .ok (.iload_n 2, 1)) ∧ (decode cX8_note 9 = .ok (.iconst 1, 1)) ∧ (decode cX8_note 10 = .ok (.bipush 30, 2)) ∧ (decode cX8_note 12 = .ok (.invokestatic 44, 3)) ∧ (decode cX8_note 15 = .ok (.ifCond .eq 24, 3)) ∧ (decode cX8_note 18 = .ok (.iload_n 3, 1)) ∧ (decode cX8_note 19 = .ok (.iconst 0, 1)) ∧ (decode cX8_note 20 = .ok (.bipush 99, 2)) ∧ (decode cX8_note 22 = .ok (.invokestatic 44, 3)) ∧ (decode cX8_note 25 = .ok (.ifCond .eq 14, 3)) ∧ (decode cX8_note 28 = .ok (.iload 4, 2)) ∧ (decode cX8_note 30 = .ok (.iconst 0, 1)) := by decide +kernel
theorem dX8_note_0 : decode cX8_note 0 = .ok (.aload_n 0, 1) := bX8_note_0.1
theorem dX8_note_1 : decode cX8_note 1 = .ok (.iload_n 1, 1) := bX8_note_0.2.1
theorem dX8_note_2 : decode cX8_note 2 = .ok (.invokevirtual 164, 3) := bX8_note_0.2.2.1
theorem dX8_note_5 : decode cX8_note 5 = .ok (.ifCond .eq 34, 3) := bX8_note_0.2.2.2.1
theorem dX8_note_8 : decode cX8_note 8 = .ok (.iload_n 2, 1) := bX8_note_0.2.2.2.2.1
theorem dX8_note_9 : decode cX8_note 9 = .ok (.iconst 1, 1) := bX8_note_0.2.2.2.2.2.1
theorem dX8_note_10 : decode cX8_note 10 = .ok (.bipush 30, 2) := bX8_note_0.2.2.2.2.2.2.1
theorem dX8_note_12 : decode cX8_note 12 = .ok (.invokestatic 44, 3) := bX8_note_0.2.2.2.2.2.2.2.1
theorem dX8_note_15 : decode cX8_note 15 = .ok (.ifCond .eq 24, 3) := bX8_note_0.2.2.2.2.2.2.2.2.1
theorem dX8_note_18 : decode cX8_note 18 = .ok (.iload_n 3, 1) := bX8_note_0.2.2.2.2.2.2.2.2.2.1
theorem dX8_note_19 : decode cX8_note 19 = .ok (.iconst 0, 1) := bX8_note_0.2.2.2.2.2.2.2.2.2.2.1
theorem dX8_note_20 : decode cX8_note 20 = .ok (.bipush 99, 2) := bX8_note_0.2.2.2.2.2.2.2.2.2.2.2.1
theorem dX8_note_22 : decode cX8_note 22 = .ok (.invokestatic 44, 3) := bX8_note_0.2.2.2.2.2.2.2.2.2.2.2.2.1
theorem dX8_note_25 : decode cX8_note 25 = .ok (.ifCond .eq 14, 3) := bX8_note_0.2.2.2.2.2.2.2.2.2.2.2.2.2.1
theorem dX8_note_28 : decode cX8_note 28 = .ok (.iload 4, 2) := bX8_note_0.2.2.2.2.2.2.2.2.2.2.2.2.2.2.1
theorem dX8_note_30 : decode cX8_note 30 = .ok (.iconst 0, 1) := bX8_note_0.2.2.2.2.2.2.2.2.2.2.2.2.2.2.2
theorem bX8_note_31 : (decode cX8_note 31 = .ok (.bipush 99, 2)) ∧ (decode cX8_note 33 = .ok (.invokestatic 44, 3)) ∧ (decode cX8_note 36 = .ok (.ifCond .ne 8, 3)) ∧ (decode cX8_note 39 = .ok (.aload_n 0, 1)) ∧ (decode cX8_note 40 = .ok (.invokevirtual 69, 3)) ∧ (decode cX8_note 43 = .ok (.ireturn, 1)) ∧ (decode cX8_note 44 = .ok (.aload_n 0, 1)) ∧ (decode cX8_note 45 = .ok (.getfield 13, 3)) ∧ (decode cX8_note 48 = .ok (.iconst 3, 1)) ∧ (decode cX8_note 49 = .ok (.iaload, 1)) ∧ (decode cX8_note 50 = .ok (.bipush 6, 2)) ∧ (decode cX8_note 52 = .ok (.if_icmp .ne 10, 3)) ∧ (decode cX8_note 55 = .ok (.aload_n 0, 1)) ∧ (decode cX8_note 56 = .ok (.invokevirtual 73, 3)) ∧ (decode cX8_note 59 = .ok (.goto 15, 3)) ∧ (decode cX8_note 62 = .ok (.aload_n 0, 1)) := by decide +kernel
theorem dX8_note_31 : decode cX8_note 31 = .ok (.bipush 99, 2) := bX8_note_31.1
theorem dX8_note_33 : decode cX8_note 33 = .ok (.invokestatic 44, 3) := bX8_note_31.2.1
theorem dX8_note_36 : decode cX8_note 36 = .ok (.ifCond .ne 8, 3) := bX8_note_31.2.2.1
theorem dX8_note_39 : decode cX8_note 39 = .ok (.aload_n 0, 1) := bX8_note_31.2.2.2.1
theorem dX8_note_40 : decode cX8_note 40 = .ok (.invokevirtual 69, 3) := bX8_note_31.2.2.2.2.1
theorem dX8_note_43 : decode cX8_note 43 = .ok (.ireturn, 1) := bX8_note_31.2.2.2.2.2.1
theorem dX8_note_44 : decode cX8_note 44 = .ok (.aload_n 0, 1) := bX8_note_31.2.2.2.2.2.2.1
theorem dX8_note_45 : decode cX8_note 45 = .ok (.getfield 13, 3) := bX8_note_31.2.2.2.2.2.2.2.1
theorem dX8_note_48 : decode cX8_note 48 = .ok (.iconst 3, 1) := bX8_note_31.2.2.2.2.2.2.2.2.1
theorem dX8_note_49 : decode cX8_note 49 = .ok (.iaload, 1) := bX8_note_31.2.2.2.2.2.2.2.2.2.1
theorem dX8_note_50 : decode cX8_note 50 = .ok (.bipush 6, 2) := bX8_note_31.2.2.2.2.2.2.2.2.2.2.1
theorem dX8_note_52 : decode cX8_note 52 = .ok (.if_icmp .ne 10, 3) := bX8_note_31.2.2.2.2.2.2.2.2.2.2.2.1
theorem dX8_note_55 : decode cX8_note 55 = .ok (.aload_n 0, 1) := bX8_note_31.2.2.2.2.2.2.2.2.2.2.2.2.1
theorem dX8_note_56 : decode cX8_note 56 = .ok (.invokevirtual 73, 3) := bX8_note_31.2.2.2.2.2.2.2.2.2.2.2.2.2.1
theorem dX8_note_59 : decode cX8_note 59 = .ok (.goto 15, 3) := bX8_note_31.2.2.2.2.2.2.2.2.2.2.2.2.2.2.1
theorem dX8_note_62 : decode cX8_note 62 = .ok (.aload_n 0, 1) := bX8_note_31.2.2.2.2.2.2.2.2.2.2.2.2.2.2.2
theorem bX8_note_63 : (decode cX8_note 63 = .ok (.bipush 70, 2)) ∧ (decode cX8_note 65 = .ok (.iconst 3, 1)) ∧ (decode cX8_note 66 = .ok (.iload_n 1, 1)) ∧ (decode cX8_note 67 = .ok (.iload_n 2, 1)) ∧ (decode cX8_note 68 = .ok (.iload_n 3, 1)) ∧ (decode cX8_note 69 = .ok (.iload 4, 2)) ∧ (decode cX8_note 71 = .ok (.invokevirtual 209, 3)) ∧ (decode cX8_note 74 = .ok (.ireturn, 1)) := by decide +kernel
theorem dX8_note_63 : decode cX8_note 63 = .ok (.bipush 70, 2) := bX8_note_63.1
theorem dX8_note_65 : decode cX8_note 65 = .ok (.iconst 3, 1) := bX8_note_63.2.1
theorem dX8_note_66 : decode cX8_note 66 = .ok (.iload_n 1, 1) := bX8_note_63.2.2.1
theorem dX8_note_67 : decode cX8_note 67 = .ok (.iload_n 2, 1) := bX8_note_63.2.2.2.1
theorem dX8_note_68 : decode cX8_note 68 = .ok (.iload_n 3, 1) := bX8_note_63.2.2.2.2.1
theorem dX8_note_69 : decode cX8_note 69 = .ok (.iload 4, 2) := bX8_note_63.2.2.2.2.2.1
theorem dX8_note_71 : decode cX8_note 71 = .ok (.invokevirtual 209, 3) := bX8_note_63.2.2.2.2.2.2.1
theorem dX8_note_74 : decode cX8_note 74 = .ok (.ireturn, 1) := bX8_note_63.2.2.2.2.2.2.2
theorem bX8_mark_0 : (decode cX8_mark 0 = .ok (.aload_n 0, 1)) ∧ (decode cX8_mark 1 = .ok (.iload_n 1, 1)) ∧ (decode cX8_mark 2 = .ok (.invokevirtual 161, 3)) ∧ (decode cX8_mark 5 = .ok (.ifCond .eq 34, 3)) ∧ (decode cX8_mark 8 = .ok (.iload_n 2, 1)) ∧ (decode cX8_mark 9 = .ok (.iconst 1, 1)) ∧ (decode cX8_mark 10 = .ok (.bipush 9, 2)) ∧ (decode cX8_mark 12 = .ok (.invokestatic 44, 3)) ∧ (decode cX8_mark 15 = .ok (.ifCond .eq 24, 3)) ∧ (decode cX8_mark 18 = .ok (.iload_n 3, 1)) ∧ (decode cX8_mark 19 = .ok (.iconst 0, 1)) ∧ (decode cX8_mark 20 = .ok (.bipush 99, 2)) ∧ (decode cX8_mark 22 = .ok (.invokestatic 44, 3)) ∧ (decode cX8_mark 25 = .ok (.ifCond .eq 14, 3)) ∧ (decode cX8_mark 28 = .ok (.iload 4, 2)) ∧ (decode cX8_mark 30 = .ok (.iconst 0, 1)) := by decide +kernel
theorem dX8_mark_0 : decode cX8_mark 0 = .ok (.aload_n 0, 1) := bX8_mark_0.1
theorem dX8_mark_1 : decode cX8_mark 1 = .ok (.iload_n 1, 1) := bX8_mark_0.2.1
theorem dX8_mark_2 : decode cX8_mark 2 = .ok (.invokevirtual 161, 3) := bX8_mark_0.2.2.1
theorem dX8_mark_5 : decode cX8_mark 5 = .ok (.ifCond .eq 34, 3) := bX8_mark_0.2.2.2.1
theorem dX8_mark_8 : decode cX8_mark 8 = .ok (.iload_n 2, 1) := bX8_mark_0.2.2.2.2.1
theorem dX8_mark_9 : decode cX8_mark 9 = .ok (.iconst 1, 1) := bX8_mark_0.2.2.2.2.2.1
theorem dX8_mark_10 : decode cX8_mark 10 = .ok (.bipush 9, 2) := bX8_mark_0.2.2.2.2.2.2.1
theorem dX8_mark_12 : decode cX8_mark 12 = .ok (.invokestatic 44, 3) := bX8_mark_0.2.2.2.2.2.2.2.1
theorem dX8_mark_15 : decode cX8_mark 15 = .ok (.ifCond .eq 24, 3) := bX8_mark_0.2.2.2.2.2.2.2.2.1
theorem dX8_mark_18 : decode cX8_mark 18 = .ok (.iload_n 3, 1) := bX8_mark_0.2.2.2.2.2.2.2.2.2.1
theorem dX8_mark_19 : decode cX8_mark 19 = .ok (.iconst 0, 1) := bX8_mark_0.2.2.2.2.2.2.2.2.2.2.1
theorem dX8_mark_20 : decode cX8_mark 20 = .ok (.bipush 99, 2) := bX8_mark_0.2.2.2.2.2.2.2.2.2.2.2.1
theorem dX8_mark_22 : decode cX8_mark 22 = .ok (.invokestatic 44, 3) := bX8_mark_0.2.2.2.2.2.2.2.2.2.2.2.2.1
theorem dX8_mark_25 : decode cX8_mark 25 = .ok (.ifCond .eq 14, 3) := bX8_mark_0.2.2.2.2.2.2.2.2.2.2.2.2.2.1
theorem dX8_mark_28 : decode cX8_mark 28 = .ok (.iload 4, 2) := bX8_mark_0.2.2.2.2.2.2.2.2.2.2.2.2.2.2.1
theorem dX8_mark_30 : decode cX8_mark 30 = .ok (.iconst 0, 1) := bX8_mark_0.2.2.2.2.2.2.2.2.2.2.2.2.2.2.2
theorem bX8_mark_31 : (decode cX8_mark 31 = .ok (.bipush 99, 2)) ∧ (decode cX8_mark 33 = .ok (.invokestatic 44, 3)) ∧ (decode cX8_mark 36 = .ok (.ifCond .ne 8, 3)) ∧ (decode cX8_mark 39 = .ok (.aload_n 0, 1)) ∧ (decode cX8_mark 40 = .ok (.invokevirtual 69, 3)) ∧ (decode cX8_mark 43 = .ok (.ireturn, 1)) ∧ (decode cX8_mark 44 = .ok (.aload_n 0, 1)) ∧ (decode cX8_mark 45 = .ok (.getfield 13, 3)) ∧ (decode cX8_mark 48 = .ok (.iconst 4, 1)) ∧ (decode cX8_mark 49 = .ok (.iaload, 1)) ∧ (decode cX8_mark 50 = .ok (.bipush 6, 2)) ∧ (decode cX8_mark 52 = .ok (.if_icmp .ne 10, 3)) ∧ (decode cX8_mark 55 = .ok (.aload_n 0, 1)) ∧ (decode cX8_mark 56 = .ok (.invokevirtual 73, 3)) ∧ (decode cX8_mark 59 = .ok (.goto 15, 3)) ∧ (decode cX8_mark 62 = .ok (.aload_n 0, 1)) := by decide +kernel
theorem dX8_mark_31 : decode cX8_mark 31 = .ok (.bipush 99, 2) := bX8_mark_31.1
theorem dX8_mark_33 : decode cX8_mark 33 = .ok (.invokestatic 44, 3) := bX8_mark_31.2.1
theorem dX8_mark_36 : decode cX8_mark 36 = .ok (.ifCond .ne 8, 3) := bX8_mark_31.2.2.1
theorem dX8_mark_39 : decode cX8_mark 39 = .ok (.aload_n 0, 1) := bX8_mark_31.2.2.2.1
theorem dX8_mark_40 : decode cX8_mark 40 = .ok (.invokevirtual 69, 3) := bX8_mark_31.2.2.2.2.1
theorem dX8_mark_43 : decode cX8_mark 43 = .ok (.ireturn, 1) := bX8_mark_31.2.2.2.2.2.1
theorem dX8_mark_44 : decode cX8_mark 44 = .ok (.aload_n 0, 1) := bX8_mark_31.2.2.2.2.2.2.1
theorem dX8_mark_45 : decode cX8_mark 45 = .ok (.getfield 13, 3) := bX8_mark_31.2.2.2.2.2.2.2.1
theorem dX8_mark_48 : decode cX8_mark 48 = .ok (.iconst 4, 1) := bX8_mark_31.2.2.2.2.2.2.2.2.1
theorem dX8_mark_49 : decode cX8_mark 49 = .ok (.iaload, 1) := bX8_mark_31.2.2.2.2.2.2.2.2.2.1
theorem dX8_mark_50 : decode cX8_mark 50 = .ok (.bipush 6, 2) := bX8_mark_31.2.2.2.2.2.2.2.2.2.2.1
theorem dX8_mark_52 : decode cX8_mark 52 = .ok (.if_icmp .ne 10, 3) := bX8_mark_31.2.2.2.2.2.2.2.2.2.2.2.1
theorem dX8_mark_55 : decode cX8_mark 55 = .ok (.aload_n 0, 1) := bX8_mark_31.2.2.2.2.2.2.2.2.2.2.2.2.1
theorem dX8_mark_56 : decode cX8_mark 56 = .ok (.invokevirtual 73, 3) := bX8_mark_31.2.2.2.2.2.2.2.2.2.2.2.2.2.1
theorem dX8_mark_59 : decode cX8_mark 59 = .ok (.goto 15, 3) := bX8_mark_31.2.2.2.2.2.2.2.2.2.2.2.2.2.2.1
theorem dX8_mark_62 : decode cX8_mark 62 = .ok (.aload_n 0, 1) := bX8_mark_31.2.2.2.2.2.2.2.2.2.2.2.2.2.2.2
theorem bX8_mark_63 : (decode cX8_mark 63 = .ok (.bipush 94, 2)) ∧ (decode cX8_mark 65 = .ok (.iconst 4, 1)) ∧ (decode cX8_mark 66 = .ok (.iload_n 1, 1)) ∧ (decode cX8_mark 67 = .ok (.iload_n 2, 1)) ∧ (decode cX8_mark 68 = .ok (.iload_n 3, 1)) ∧ (decode cX8_mark 69 = .ok (.iload 4, 2)) ∧ (decode cX8_mark 71 = .ok (.invokevirtual 209, 3)) ∧ (decode cX8_mark 74 = .ok (.ireturn, 1)) := by decide +kernel
theorem dX8_mark_63 : decode cX8_mark 63 = .ok (.bipush 94, 2) := bX8_mark_63.1
theorem dX8_mark_65 : decode cX8_mark 65 = .ok (.iconst 4, 1) := bX8_mark_63.2.1
theorem dX8_mark_66 : decode cX8_mark 66 = .ok (.iload_n 1, 1) := bX8_mark_63.2.2.1
theorem dX8_mark_67 : decode cX8_mark 67 = .ok (.iload_n 2, 1) := bX8_mark_63.2.2.2.1
theorem dX8_mark_68 : decode cX8_mark 68 = .ok (.iload_n 3, 1) := bX8_mark_63.2.2.2.2.1
theorem dX8_mark_69 : decode cX8_mark 69 = .ok (.iload 4, 2) := bX8_mark_63.2.2.2.2.2.1
theorem dX8_mark_71 : decode cX8_mark 71 = .ok (.invokevirtual 209, 3) := bX8_mark_63.2.2.2.2.2.2.1
theorem dX8_mark_74 : decode cX8_mark 74 = .ok (.ireturn, 1) := bX8_mark_63.2.2.2.2.2.2.2
theorem bX8_forget_0 : (decode cX8_forget 0 = .ok (.iload_n 1, 1)) ∧ (decode cX8_forget 1 = .ok (.iconst 0, 1)) ∧ (decode cX8_forget 2 = .ok (.iconst 2, 1)) ∧ (decode cX8_forget 3 = .ok (.invokestatic 44, 3)) ∧ (decode cX8_forget 6 = .ok (.ifCond .ne 8, 3)) ∧ (decode cX8_forget 9 = .ok (.aload_n 0, 1)) ∧ (decode cX8_forget 10 = .ok (.invokevirtual 69, 3)) ∧ (decode cX8_forget 13 = .ok (.ireturn, 1)) ∧ (decode cX8_forget 14 = .ok (.aload_n 0, 1)) ∧ (decode cX8_forget 15 = .ok (.getfield 13, 3)) ∧ (decode cX8_forget 18 = .ok (.iconst 2, 1)) ∧ (decode cX8_forget 19 = .ok (.iload_n 1, 1)) ∧ (decode cX8_forget 20 = .ok (.iadd, 1)) ∧ (decode cX8_forget 21 = .ok (.iaload, 1)) ∧ (decode cX8_forget 22 = .ok (.istore_n 2, 1)) ∧ (decode cX8_forget 23 = .ok (.iload_n 1, 1)) := by decide +kernel
theorem dX8_forget_0 : decode cX8_forget 0 = .ok (.iload_n 1, 1) := bX8_forget_0.1
theorem dX8_forget_1 : decode cX8_forget 1 = .ok (.iconst 0, 1) := bX8_forget_0.2.1
theorem dX8_forget_2 : decode cX8_forget 2 = .ok (.iconst 2, 1) := bX8_forget_0.2.2.1
theorem dX8_forget_3 : decode cX8_forget 3 = .ok (.invokestatic 44, 3) := bX8_forget_0.2.2.2.1
theorem dX8_forget_6 : decode cX8_forget 6 = .ok (.ifCond .ne 8, 3) := bX8_forget_0.2.2.2.2.1
theorem dX8_forget_9 : decode cX8_forget 9 = .ok (.aload_n 0, 1) := bX8_forget_0.2.2.2.2.2.1
theorem dX8_forget_10 : decode cX8_forget 10 = .ok (.invokevirtual 69, 3) := bX8_forget_0.2.2.2.2.2.2.1
theorem dX8_forget_13 : decode cX8_forget 13 = .ok (.ireturn, 1) := bX8_forget_0.2.2.2.2.2.2.2.1
theorem dX8_forget_14 : decode cX8_forget 14 = .ok (.aload_n 0, 1) := bX8_forget_0.2.2.2.2.2.2.2.2.1
theorem dX8_forget_15 : decode cX8_forget 15 = .ok (.getfield 13, 3) := bX8_forget_0.2.2.2.2.2.2.2.2.2.1
theorem dX8_forget_18 : decode cX8_forget 18 = .ok (.iconst 2, 1) := bX8_forget_0.2.2.2.2.2.2.2.2.2.2.1
theorem dX8_forget_19 : decode cX8_forget 19 = .ok (.iload_n 1, 1) := bX8_forget_0.2.2.2.2.2.2.2.2.2.2.2.1
theorem dX8_forget_20 : decode cX8_forget 20 = .ok (.iadd, 1) := bX8_forget_0.2.2.2.2.2.2.2.2.2.2.2.2.1
theorem dX8_forget_21 : decode cX8_forget 21 = .ok (.iaload, 1) := bX8_forget_0.2.2.2.2.2.2.2.2.2.2.2.2.2.1
theorem dX8_forget_22 : decode cX8_forget 22 = .ok (.istore_n 2, 1) := bX8_forget_0.2.2.2.2.2.2.2.2.2.2.2.2.2.2.1
theorem dX8_forget_23 : decode cX8_forget 23 = .ok (.iload_n 1, 1) := bX8_forget_0.2.2.2.2.2.2.2.2.2.2.2.2.2.2.2
theorem bX8_forget_24 : (decode cX8_forget 24 = .ok (.ifCond .ne 8, 3)) ∧ (decode cX8_forget 27 = .ok (.bipush 50, 2)) ∧ (decode cX8_forget 29 = .ok (.goto 15, 3)) ∧ (decode cX8_forget 32 = .ok (.iload_n 1, 1)) ∧ (decode cX8_forget 33 = .ok (.iconst 1, 1)) ∧ (decode cX8_forget 34 = .ok (.if_icmp .ne 8, 3)) ∧ (decode cX8_forget 37 = .ok (.bipush 70, 2)) ∧ (decode cX8_forget 39 = .ok (.goto 5, 3)) ∧ (decode cX8_forget 42 = .ok (.bipush 94, 2)) ∧ (decode cX8_forget 44 = .ok (.istore_n 3, 1)) ∧ (decode cX8_forget 45 = .ok (.aload_n 0, 1)) ∧ (decode cX8_forget 46 = .ok (.getfield 13, 3)) ∧ (decode cX8_forget 49 = .ok (.iconst 2, 1)) ∧ (decode cX8_forget 50 = .ok (.iload_n 1, 1)) ∧ (decode cX8_forget 51 = .ok (.iadd, 1)) ∧ (decode cX8_forget 52 = .ok (.iconst 0, 1)) := by decide +kernel
theorem dX8_forget_24 : decode cX8_forget 24 = .ok (.ifCond .ne 8, 3) := bX8_forget_24.1
theorem dX8_forget_27 : decode cX8_forget 27 = .ok (.bipush 50, 2) := bX8_forget_24.2.1
theorem dX8_forget_29 : decode cX8_forget 29 = .ok (.goto 15, 3) := bX8_forget_24.2.2.1
theorem dX8_forget_32 : decode cX8_forget 32 = .ok (.iload_n 1, 1) := bX8_forget_24.2.2.2.1
theorem dX8_forget_33 : decode cX8_forget 33 = .ok (.iconst 1, 1) := bX8_forget_24.2.2.2.2.1
theorem dX8_forget_34 : decode cX8_forget 34 = .ok (.if_icmp .ne 8, 3) := bX8_forget_24.2.2.2.2.2.1
theorem dX8_forget_37 : decode cX8_forget 37 = .ok (.bipush 70, 2) := bX8_forget_24.2.2.2.2.2.2.1
theorem dX8_forget_39 : decode cX8_forget 39 = .ok (.goto 5, 3) := bX8_forget_24.2.2.2.2.2.2.2.1
theorem dX8_forget_42 : decode cX8_forget 42 = .ok (.bipush 94, 2) := bX8_forget_24.2.2.2.2.2.2.2.2.1
theorem dX8_forget_44 : decode cX8_forget 44 = .ok (.istore_n 3, 1) := bX8_forget_24.2.2.2.2.2.2.2.2.2.1
theorem dX8_forget_45 : decode cX8_forget 45 = .ok (.aload_n 0, 1) := bX8_forget_24.2.2.2.2.2.2.2.2.2.2.1
theorem dX8_forget_46 : decode cX8_forget 46 = .ok (.getfield 13, 3) := bX8_forget_24.2.2.2.2.2.2.2.2.2.2.2.1
theorem dX8_forget_49 : decode cX8_forget 49 = .ok (.iconst 2, 1) := bX8_forget_24.2.2.2.2.2.2.2.2.2.2.2.2.1
theorem dX8_forget_50 : decode cX8_forget 50 = .ok (.iload_n 1, 1) := bX8_forget_24.2.2.2.2.2.2.2.2.2.2.2.2.2.1
theorem dX8_forget_51 : decode cX8_forget 51 = .ok (.iadd, 1) := bX8_forget_24.2.2.2.2.2.2.2.2.2.2.2.2.2.2.1
theorem dX8_forget_52 : decode cX8_forget 52 = .ok (.iconst 0, 1) := bX8_forget_24.2.2.2.2.2.2.2.2.2.2.2.2.2.2.2
theorem bX8_forget_53 : (decode cX8_forget 53 = .ok (.iastore, 1)) ∧ (decode cX8_forget 54 = .ok (.iconst 0, 1)) ∧ (decode cX8_forget 55 = .ok (.istore 4, 2)) ∧ (decode cX8_forget 57 = .ok (.iload 4, 2)) ∧ (decode cX8_forget 59 = .ok (.iconst 4, 1)) ∧ (decode cX8_forget 60 = .ok (.iload_n 2, 1)) ∧ (decode cX8_forget 61 = .ok (.imul, 1)) ∧ (decode cX8_forget 62 = .ok (.if_icmp .ge 19, 3)) ∧ (decode cX8_forget 65 = .ok (.aload_n 0, 1)) ∧ (decode cX8_forget 66 = .ok (.getfield 13, 3)) ∧ (decode cX8_forget 69 = .ok (.iload_n 3, 1)) ∧ (decode cX8_forget 70 = .ok (.iload 4, 2)) ∧ (decode cX8_forget 72 = .ok (.iadd, 1)) ∧ (decode cX8_forget 73 = .ok (.iconst 0, 1)) ∧ (decode cX8_forget 74 = .ok (.iastore, 1)) ∧ (decode cX8_forget 75 = .ok (.iinc 4 1, 3)) := by decide +kernel
theorem dX8_forget_53 : decode cX8_forget 53 = .ok (.iastore, 1) := bX8_forget_53.1
theorem dX8_forget_54 : decode cX8_forget 54 = .ok (.iconst 0, 1) := bX8_forget_53.2.1
theorem dX8_forget_55 : decode cX8_forget 55 = .ok (.istore 4, 2) := bX8_forget_53.2.2.1
theorem dX8_forget_57 : decode cX8_forget 57 = .ok (.iload 4, 2) := bX8_forget_53.2.2.2.1
theorem dX8_forget_59 : decode cX8_forget 59 = .ok (.iconst 4, 1) := bX8_forget_53.2.2.2.2.1
theorem dX8_forget_60 : decode cX8_forget 60 = .ok (.iload_n 2, 1) := bX8_forget_53.2.2.2.2.2.1
theorem dX8_forget_61 : decode cX8_forget 61 = .ok (.imul, 1) := bX8_forget_53.2.2.2.2.2.2.1
theorem dX8_forget_62 : decode cX8_forget 62 = .ok (.if_icmp .ge 19, 3) := bX8_forget_53.2.2.2.2.2.2.2.1
theorem dX8_forget_65 : decode cX8_forget 65 = .ok (.aload_n 0, 1) := bX8_forget_53.2.2.2.2.2.2.2.2.1
theorem dX8_forget_66 : decode cX8_forget 66 = .ok (.getfield 13, 3) := bX8_forget_53.2.2.2.2.2.2.2.2.2.1
theorem dX8_forget_69 : decode cX8_forget 69 = .ok (.iload_n 3, 1) := bX8_forget_53.2.2.2.2.2.2.2.2.2.2.1
theorem dX8_forget_70 : decode cX8_forget 70 = .ok (.iload 4, 2) := bX8_forget_53.2.2.2.2.2.2.2.2.2.2.2.1
theorem dX8_forget_72 : decode cX8_forget 72 = .ok (.iadd, 1) := bX8_forget_53.2.2.2.2.2.2.2.2.2.2.2.2.1
theorem dX8_forget_73 : decode cX8_forget 73 = .ok (.iconst 0, 1) := bX8_forget_53.2.2.2.2.2.2.2.2.2.2.2.2.2.1
theorem dX8_forget_74 : decode cX8_forget 74 = .ok (.iastore, 1) := bX8_forget_53.2.2.2.2.2.2.2.2.2.2.2.2.2.2.1
theorem dX8_forget_75 : decode cX8_forget 75 = .ok (.iinc 4 1, 3) := bX8_forget_53.2.2.2.2.2.2.2.2.2.2.2.2.2.2.2
theorem bX8_forget_78 : (decode cX8_forget 78 = .ok (.goto (-21), 3)) ∧ (decode cX8_forget 81 = .ok (.iload_n 2, 1)) ∧ (decode cX8_forget 82 = .ok (.ireturn, 1)) := by decide +kernel
theorem dX8_forget_78 : decode cX8_forget 78 = .ok (.goto (-21), 3) := bX8_forget_78.1
theorem dX8_forget_81 : decode cX8_forget 81 = .ok (.iload_n 2, 1) := bX8_forget_78.2.1
theorem dX8_forget_82 : decode cX8_forget 82 = .ok (.ireturn, 1) := bX8_forget_78.2.2
theorem bX8_kindsOf_0 : (decode cX8_kindsOf 0 = .ok (.iconst 0, 1)) ∧ (decode cX8_kindsOf 1 = .ok (.istore_n 3, 1)) ∧ (decode cX8_kindsOf 2 = .ok (.iload_n 2, 1)) ∧ (decode cX8_kindsOf 3 = .ok (.ifCond .eq 8, 3)) ∧ (decode cX8_kindsOf 6 = .ok (.bipush 70, 2)) ∧ (decode cX8_kindsOf 8 = .ok (.goto 5, 3)) ∧ (decode cX8_kindsOf 11 = .ok (.bipush 94, 2)) ∧ (decode cX8_kindsOf 13 = .ok (.istore 4, 2)) ∧ (decode cX8_kindsOf 15 = .ok (.iconst 0, 1)) ∧ (decode cX8_kindsOf 16 = .ok (.istore 5, 2)) ∧ (decode cX8_kindsOf 18 = .ok (.iload 5, 2)) ∧ (decode cX8_kindsOf 20 = .ok (.iconst 5, 1)) ∧ (decode cX8_kindsOf 21 = .ok (.if_icmp .gt 162, 3)) ∧ (decode cX8_kindsOf 24 = .ok (.iconst 1, 1)) ∧ (decode cX8_kindsOf 25 = .ok (.istore 6, 2)) ∧ (decode cX8_kindsOf 27 = .ok (.iconst 0, 1)) := by decide +kernel
theorem dX8_kindsOf_0 : decode cX8_kindsOf 0 = .ok (.iconst 0, 1) := bX8_kindsOf_0.1
theorem dX8_kindsOf_1 : decode cX8_kindsOf 1 = .ok (.istore_n 3, 1) := bX8_kindsOf_0.2.1
theorem dX8_kindsOf_2 : decode cX8_kindsOf 2 = .ok (.iload_n 2, 1) := bX8_kindsOf_0.2.2.1
theorem dX8_kindsOf_3 : decode cX8_kindsOf 3 = .ok (.ifCond .eq 8, 3) := bX8_kindsOf_0.2.2.2.1
theorem dX8_kindsOf_6 : decode cX8_kindsOf 6 = .ok (.bipush 70, 2) := bX8_kindsOf_0.2.2.2.2.1
theorem dX8_kindsOf_8 : decode cX8_kindsOf 8 = .ok (.goto 5, 3) := bX8_kindsOf_0.2.2.2.2.2.1
theorem dX8_kindsOf_11 : decode cX8_kindsOf 11 = .ok (.bipush 94, 2) := bX8_kindsOf_0.2.2.2.2.2.2.1
theorem dX8_kindsOf_13 : decode cX8_kindsOf 13 = .ok (.istore 4, 2) := bX8_kindsOf_0.2.2.2.2.2.2.2.1
theorem dX8_kindsOf_15 : decode cX8_kindsOf 15 = .ok (.iconst 0, 1) := bX8_kindsOf_0.2.2.2.2.2.2.2.2.1
theorem dX8_kindsOf_16 : decode cX8_kindsOf 16 = .ok (.istore 5, 2) := bX8_kindsOf_0.2.2.2.2.2.2.2.2.2.1
theorem dX8_kindsOf_18 : decode cX8_kindsOf 18 = .ok (.iload 5, 2) := bX8_kindsOf_0.2.2.2.2.2.2.2.2.2.2.1
theorem dX8_kindsOf_20 : decode cX8_kindsOf 20 = .ok (.iconst 5, 1) := bX8_kindsOf_0.2.2.2.2.2.2.2.2.2.2.2.1
theorem dX8_kindsOf_21 : decode cX8_kindsOf 21 = .ok (.if_icmp .gt 162, 3) := bX8_kindsOf_0.2.2.2.2.2.2.2.2.2.2.2.2.1
theorem dX8_kindsOf_24 : decode cX8_kindsOf 24 = .ok (.iconst 1, 1) := bX8_kindsOf_0.2.2.2.2.2.2.2.2.2.2.2.2.2.1
theorem dX8_kindsOf_25 : decode cX8_kindsOf 25 = .ok (.istore 6, 2) := bX8_kindsOf_0.2.2.2.2.2.2.2.2.2.2.2.2.2.2.1
theorem dX8_kindsOf_27 : decode cX8_kindsOf 27 = .ok (.iconst 0, 1) := bX8_kindsOf_0.2.2.2.2.2.2.2.2.2.2.2.2.2.2.2
theorem bX8_kindsOf_28 : (decode cX8_kindsOf 28 = .ok (.istore 7, 2)) ∧ (decode cX8_kindsOf 30 = .ok (.iload 7, 2)) ∧ (decode cX8_kindsOf 32 = .ok (.aload_n 0, 1)) ∧ (decode cX8_kindsOf 33 = .ok (.getfield 13, 3)) ∧ (decode cX8_kindsOf 36 = .ok (.iload_n 2, 1)) ∧ (decode cX8_kindsOf 37 = .ok (.ifCond .eq 7, 3)) ∧ (decode cX8_kindsOf 40 = .ok (.iconst 3, 1)) ∧ (decode cX8_kindsOf 41 = .ok (.goto 4, 3)) ∧ (decode cX8_kindsOf 44 = .ok (.iconst 4, 1)) ∧ (decode cX8_kindsOf 45 = .ok (.iaload, 1)) ∧ (decode cX8_kindsOf 46 = .ok (.if_icmp .ge 115, 3)) ∧ (decode cX8_kindsOf 49 = .ok (.aload_n 0, 1)) ∧ (decode cX8_kindsOf 50 = .ok (.getfield 13, 3)) ∧ (decode cX8_kindsOf 53 = .ok (.iload 4, 2)) ∧ (decode cX8_kindsOf 55 = .ok (.iconst 4, 1)) ∧ (decode cX8_kindsOf 56 = .ok (.iload 7, 2)) := by decide +kernel
theorem dX8_kindsOf_28 : decode cX8_kindsOf 28 = .ok (.istore 7, 2) := bX8_kindsOf_28.1
theorem dX8_kindsOf_30 : decode cX8_kindsOf 30 = .ok (.iload 7, 2) := bX8_kindsOf_28.2.1
theorem dX8_kindsOf_32 : decode cX8_kindsOf 32 = .ok (.aload_n 0, 1) := bX8_kindsOf_28.2.2.1
theorem dX8_kindsOf_33 : decode cX8_kindsOf 33 = .ok (.getfield 13, 3) := bX8_kindsOf_28.2.2.2.1
theorem dX8_kindsOf_36 : decode cX8_kindsOf 36 = .ok (.iload_n 2, 1) := bX8_kindsOf_28.2.2.2.2.1
theorem dX8_kindsOf_37 : decode cX8_kindsOf 37 = .ok (.ifCond .eq 7, 3) := bX8_kindsOf_28.2.2.2.2.2.1
theorem dX8_kindsOf_40 : decode cX8_kindsOf 40 = .ok (.iconst 3, 1) := bX8_kindsOf_28.2.2.2.2.2.2.1
theorem dX8_kindsOf_41 : decode cX8_kindsOf 41 = .ok (.goto 4, 3) := bX8_kindsOf_28.2.2.2.2.2.2.2.1
theorem dX8_kindsOf_44 : decode cX8_kindsOf 44 = .ok (.iconst 4, 1) := bX8_kindsOf_28.2.2.2.2.2.2.2.2.1
theorem dX8_kindsOf_45 : decode cX8_kindsOf 45 = .ok (.iaload, 1) := bX8_kindsOf_28.2.2.2.2.2.2.2.2.2.1
theorem dX8_kindsOf_46 : decode cX8_kindsOf 46 = .ok (.if_icmp .ge 115, 3) := bX8_kindsOf_28.2.2.2.2.2.2.2.2.2.2.1
theorem dX8_kindsOf_49 : decode cX8_kindsOf 49 = .ok (.aload_n 0, 1) := bX8_kindsOf_28.2.2.2.2.2.2.2.2.2.2.2.1
theorem dX8_kindsOf_50 : decode cX8_kindsOf 50 = .ok (.getfield 13, 3) := bX8_kindsOf_28.2.2.2.2.2.2.2.2.2.2.2.2.1
theorem dX8_kindsOf_53 : decode cX8_kindsOf 53 = .ok (.iload 4, 2) := bX8_kindsOf_28.2.2.2.2.2.2.2.2.2.2.2.2.2.1
theorem dX8_kindsOf_55 : decode cX8_kindsOf 55 = .ok (.iconst 4, 1) := bX8_kindsOf_28.2.2.2.2.2.2.2.2.2.2.2.2.2.2.1
theorem dX8_kindsOf_56 : decode cX8_kindsOf 56 = .ok (.iload 7, 2) := bX8_kindsOf_28.2.2.2.2.2.2.2.2.2.2.2.2.2.2.2
theorem bX8_kindsOf_58 : (decode cX8_kindsOf 58 = .ok (.imul, 1)) ∧ (decode cX8_kindsOf 59 = .ok (.iadd, 1)) ∧ (decode cX8_kindsOf 60 = .ok (.iconst 1, 1)) ∧ (decode cX8_kindsOf 61 = .ok (.iadd, 1)) ∧ (decode cX8_kindsOf 62 = .ok (.iaload, 1)) ∧ (decode cX8_kindsOf 63 = .ok (.istore 8, 2)) ∧ (decode cX8_kindsOf 65 = .ok (.aload_n 0, 1)) ∧ (decode cX8_kindsOf 66 = .ok (.getfield 13, 3)) ∧ (decode cX8_kindsOf 69 = .ok (.iload 4, 2)) ∧ (decode cX8_kindsOf 71 = .ok (.iconst 4, 1)) ∧ (decode cX8_kindsOf 72 = .ok (.iload 7, 2)) ∧ (decode cX8_kindsOf 74 = .ok (.imul, 1)) ∧ (decode cX8_kindsOf 75 = .ok (.iadd, 1)) ∧ (decode cX8_kindsOf 76 = .ok (.iconst 2, 1)) ∧ (decode cX8_kindsOf 77 = .ok (.iadd, 1)) ∧ (decode cX8_kindsOf 78 = .ok (.iaload, 1)) := by decide +kernel
theorem dX8_kindsOf_58 : decode cX8_kindsOf 58 = .ok (.imul, 1) := bX8_kindsOf_58.1
theorem dX8_kindsOf_59 : decode cX8_kindsOf 59 = .ok (.iadd, 1) := bX8_kindsOf_58.2.1
theorem dX8_kindsOf_60 : decode cX8_kindsOf 60 = .ok (.iconst 1, 1) := bX8_kindsOf_58.2.2.1
theorem dX8_kindsOf_61 : decode cX8_kindsOf 61 = .ok (.iadd, 1) := bX8_kindsOf_58.2.2.2.1
theorem dX8_kindsOf_62 : decode cX8_kindsOf 62 = .ok (.iaload, 1) := bX8_kindsOf_58.2.2.2.2.1
theorem dX8_kindsOf_63 : decode cX8_kindsOf 63 = .ok (.istore 8, 2) := bX8_kindsOf_58.2.2.2.2.2.1
theorem dX8_kindsOf_65 : decode cX8_kindsOf 65 = .ok (.aload_n 0, 1) := bX8_kindsOf_58.2.2.2.2.2.2.1
theorem dX8_kindsOf_66 : decode cX8_kindsOf 66 = .ok (.getfield 13, 3) := bX8_kindsOf_58.2.2.2.2.2.2.2.1
theorem dX8_kindsOf_69 : decode cX8_kindsOf 69 = .ok (.iload 4, 2) := bX8_kindsOf_58.2.2.2.2.2.2.2.2.1
theorem dX8_kindsOf_71 : decode cX8_kindsOf 71 = .ok (.iconst 4, 1) := bX8_kindsOf_58.2.2.2.2.2.2.2.2.2.1
theorem dX8_kindsOf_72 : decode cX8_kindsOf 72 = .ok (.iload 7, 2) := bX8_kindsOf_58.2.2.2.2.2.2.2.2.2.2.1
theorem dX8_kindsOf_74 : decode cX8_kindsOf 74 = .ok (.imul, 1) := bX8_kindsOf_58.2.2.2.2.2.2.2.2.2.2.2.1
theorem dX8_kindsOf_75 : decode cX8_kindsOf 75 = .ok (.iadd, 1) := bX8_kindsOf_58.2.2.2.2.2.2.2.2.2.2.2.2.1
theorem dX8_kindsOf_76 : decode cX8_kindsOf 76 = .ok (.iconst 2, 1) := bX8_kindsOf_58.2.2.2.2.2.2.2.2.2.2.2.2.2.1
theorem dX8_kindsOf_77 : decode cX8_kindsOf 77 = .ok (.iadd, 1) := bX8_kindsOf_58.2.2.2.2.2.2.2.2.2.2.2.2.2.2.1
theorem dX8_kindsOf_78 : decode cX8_kindsOf 78 = .ok (.iaload, 1) := bX8_kindsOf_58.2.2.2.2.2.2.2.2.2.2.2.2.2.2.2
theorem bX8_kindsOf_79 : (decode cX8_kindsOf 79 = .ok (.istore 9, 2)) ∧ (decode cX8_kindsOf 81 = .ok (.iload_n 2, 1)) ∧ (decode cX8_kindsOf 82 = .ok (.ifCond .eq 15, 3)) ∧ (decode cX8_kindsOf 85 = .ok (.iload 5, 2)) ∧ (decode cX8_kindsOf 87 = .ok (.iload 8, 2)) ∧ (decode cX8_kindsOf 89 = .ok (.iload 9, 2)) ∧ (decode cX8_kindsOf 91 = .ok (.invokestatic 48, 3)) ∧ (decode cX8_kindsOf 94 = .ok (.goto 12, 3)) ∧ (decode cX8_kindsOf 97 = .ok (.iload 5, 2)) ∧ (decode cX8_kindsOf 99 = .ok (.iload 8, 2)) ∧ (decode cX8_kindsOf 101 = .ok (.iload 9, 2)) ∧ (decode cX8_kindsOf 103 = .ok (.invokestatic 52, 3)) ∧ (decode cX8_kindsOf 106 = .ok (.istore 10, 2)) ∧ (decode cX8_kindsOf 108 = .ok (.iload 6, 2)) ∧ (decode cX8_kindsOf 110 = .ok (.ifCond .eq 42, 3)) ∧ (decode cX8_kindsOf 113 = .ok (.aload_n 0, 1)) := by decide +kernel
theorem dX8_kindsOf_79 : decode cX8_kindsOf 79 = .ok (.istore 9, 2) := bX8_kindsOf_79.1
theorem dX8_kindsOf_81 : decode cX8_kindsOf 81 = .ok (.iload_n 2, 1) := bX8_kindsOf_79.2.1
theorem dX8_kindsOf_82 : decode cX8_kindsOf 82 = .ok (.ifCond .eq 15, 3) := bX8_kindsOf_79.2.2.1
theorem dX8_kindsOf_85 : decode cX8_kindsOf 85 = .ok (.iload 5, 2) := bX8_kindsOf_79.2.2.2.1
theorem dX8_kindsOf_87 : decode cX8_kindsOf 87 = .ok (.iload 8, 2) := bX8_kindsOf_79.2.2.2.2.1
theorem dX8_kindsOf_89 : decode cX8_kindsOf 89 = .ok (.iload 9, 2) := bX8_kindsOf_79.2.2.2.2.2.1
theorem dX8_kindsOf_91 : decode cX8_kindsOf 91 = .ok (.invokestatic 48, 3) := bX8_kindsOf_79.2.2.2.2.2.2.1
theorem dX8_kindsOf_94 : decode cX8_kindsOf 94 = .ok (.goto 12, 3) := bX8_kindsOf_79.2.2.2.2.2.2.2.1
theorem dX8_kindsOf_97 : decode cX8_kindsOf 97 = .ok (.iload 5, 2) := bX8_kindsOf_79.2.2.2.2.2.2.2.2.1
theorem dX8_kindsOf_99 : decode cX8_kindsOf 99 = .ok (.iload 8, 2) := bX8_kindsOf_79.2.2.2.2.2.2.2.2.2.1
theorem dX8_kindsOf_101 : decode cX8_kindsOf 101 = .ok (.iload 9, 2) := bX8_kindsOf_79.2.2.2.2.2.2.2.2.2.2.1
theorem dX8_kindsOf_103 : decode cX8_kindsOf 103 = .ok (.invokestatic 52, 3) := bX8_kindsOf_79.2.2.2.2.2.2.2.2.2.2.2.1
theorem dX8_kindsOf_106 : decode cX8_kindsOf 106 = .ok (.istore 10, 2) := bX8_kindsOf_79.2.2.2.2.2.2.2.2.2.2.2.2.1
theorem dX8_kindsOf_108 : decode cX8_kindsOf 108 = .ok (.iload 6, 2) := bX8_kindsOf_79.2.2.2.2.2.2.2.2.2.2.2.2.2.1
theorem dX8_kindsOf_110 : decode cX8_kindsOf 110 = .ok (.ifCond .eq 42, 3) := bX8_kindsOf_79.2.2.2.2.2.2.2.2.2.2.2.2.2.2.1
theorem dX8_kindsOf_113 : decode cX8_kindsOf 113 = .ok (.aload_n 0, 1) := bX8_kindsOf_79.2.2.2.2.2.2.2.2.2.2.2.2.2.2.2
theorem bX8_kindsOf_114 : (decode cX8_kindsOf 114 = .ok (.getfield 13, 3)) ∧ (decode cX8_kindsOf 117 = .ok (.iload 4, 2)) ∧ (decode cX8_kindsOf 119 = .ok (.iconst 4, 1)) ∧ (decode cX8_kindsOf 120 = .ok (.iload 7, 2)) ∧ (decode cX8_kindsOf 122 = .ok (.imul, 1)) ∧ (decode cX8_kindsOf 123 = .ok (.iadd, 1)) ∧ (decode cX8_kindsOf 124 = .ok (.iaload, 1)) ∧ (decode cX8_kindsOf 125 = .ok (.iload_n 1, 1)) ∧ (decode cX8_kindsOf 126 = .ok (.if_icmp .ne 22, 3)) ∧ (decode cX8_kindsOf 129 = .ok (.iload 10, 2)) ∧ (decode cX8_kindsOf 131 = .ok (.aload_n 0, 1)) ∧ (decode cX8_kindsOf 132 = .ok (.getfield 13, 3)) ∧ (decode cX8_kindsOf 135 = .ok (.iload 4, 2)) ∧ (decode cX8_kindsOf 137 = .ok (.iconst 4, 1)) ∧ (decode cX8_kindsOf 138 = .ok (.iload 7, 2)) ∧ (decode cX8_kindsOf 140 = .ok (.imul, 1)) := by decide +kernel
theorem dX8_kindsOf_114 : decode cX8_kindsOf 114 = .ok (.getfield 13, 3) := bX8_kindsOf_114.1
theorem dX8_kindsOf_117 : decode cX8_kindsOf 117 = .ok (.iload 4, 2) := bX8_kindsOf_114.2.1
theorem dX8_kindsOf_119 : decode cX8_kindsOf 119 = .ok (.iconst 4, 1) := bX8_kindsOf_114.2.2.1
theorem dX8_kindsOf_120 : decode cX8_kindsOf 120 = .ok (.iload 7, 2) := bX8_kindsOf_114.2.2.2.1
theorem dX8_kindsOf_122 : decode cX8_kindsOf 122 = .ok (.imul, 1) := bX8_kindsOf_114.2.2.2.2.1
theorem dX8_kindsOf_123 : decode cX8_kindsOf 123 = .ok (.iadd, 1) := bX8_kindsOf_114.2.2.2.2.2.1
theorem dX8_kindsOf_124 : decode cX8_kindsOf 124 = .ok (.iaload, 1) := bX8_kindsOf_114.2.2.2.2.2.2.1
theorem dX8_kindsOf_125 : decode cX8_kindsOf 125 = .ok (.iload_n 1, 1) := bX8_kindsOf_114.2.2.2.2.2.2.2.1
theorem dX8_kindsOf_126 : decode cX8_kindsOf 126 = .ok (.if_icmp .ne 22, 3) := bX8_kindsOf_114.2.2.2.2.2.2.2.2.1
theorem dX8_kindsOf_129 : decode cX8_kindsOf 129 = .ok (.iload 10, 2) := bX8_kindsOf_114.2.2.2.2.2.2.2.2.2.1
theorem dX8_kindsOf_131 : decode cX8_kindsOf 131 = .ok (.aload_n 0, 1) := bX8_kindsOf_114.2.2.2.2.2.2.2.2.2.2.1
theorem dX8_kindsOf_132 : decode cX8_kindsOf 132 = .ok (.getfield 13, 3) := bX8_kindsOf_114.2.2.2.2.2.2.2.2.2.2.2.1
theorem dX8_kindsOf_135 : decode cX8_kindsOf 135 = .ok (.iload 4, 2) := bX8_kindsOf_114.2.2.2.2.2.2.2.2.2.2.2.2.1
theorem dX8_kindsOf_137 : decode cX8_kindsOf 137 = .ok (.iconst 4, 1) := bX8_kindsOf_114.2.2.2.2.2.2.2.2.2.2.2.2.2.1
theorem dX8_kindsOf_138 : decode cX8_kindsOf 138 = .ok (.iload 7, 2) := bX8_kindsOf_114.2.2.2.2.2.2.2.2.2.2.2.2.2.2.1
theorem dX8_kindsOf_140 : decode cX8_kindsOf 140 = .ok (.imul, 1) := bX8_kindsOf_114.2.2.2.2.2.2.2.2.2.2.2.2.2.2.2
theorem bX8_kindsOf_141 : (decode cX8_kindsOf 141 = .ok (.iadd, 1)) ∧ (decode cX8_kindsOf 142 = .ok (.iconst 3, 1)) ∧ (decode cX8_kindsOf 143 = .ok (.iadd, 1)) ∧ (decode cX8_kindsOf 144 = .ok (.iaload, 1)) ∧ (decode cX8_kindsOf 145 = .ok (.if_icmp .ne 7, 3)) ∧ (decode cX8_kindsOf 148 = .ok (.iconst 1, 1)) ∧ (decode cX8_kindsOf 149 = .ok (.goto 4, 3)) ∧ (decode cX8_kindsOf 152 = .ok (.iconst 0, 1)) ∧ (decode cX8_kindsOf 153 = .ok (.istore 6, 2)) ∧ (decode cX8_kindsOf 155 = .ok (.iinc 7 1, 3)) ∧ (decode cX8_kindsOf 158 = .ok (.goto (-128), 3)) ∧ (decode cX8_kindsOf 161 = .ok (.iload_n 3, 1)) ∧ (decode cX8_kindsOf 162 = .ok (.iload 6, 2)) ∧ (decode cX8_kindsOf 164 = .ok (.ifCond .eq 10, 3)) ∧ (decode cX8_kindsOf 167 = .ok (.iconst 1, 1)) ∧ (decode cX8_kindsOf 168 = .ok (.iload 5, 2)) := by decide +kernel
theorem dX8_kindsOf_141 : decode cX8_kindsOf 141 = .ok (.iadd, 1) := bX8_kindsOf_141.1
theorem dX8_kindsOf_142 : decode cX8_kindsOf 142 = .ok (.iconst 3, 1) := bX8_kindsOf_141.2.1
theorem dX8_kindsOf_143 : decode cX8_kindsOf 143 = .ok (.iadd, 1) := bX8_kindsOf_141.2.2.1
theorem dX8_kindsOf_144 : decode cX8_kindsOf 144 = .ok (.iaload, 1) := bX8_kindsOf_141.2.2.2.1
theorem dX8_kindsOf_145 : decode cX8_kindsOf 145 = .ok (.if_icmp .ne 7, 3) := bX8_kindsOf_141.2.2.2.2.1
theorem dX8_kindsOf_148 : decode cX8_kindsOf 148 = .ok (.iconst 1, 1) := bX8_kindsOf_141.2.2.2.2.2.1
theorem dX8_kindsOf_149 : decode cX8_kindsOf 149 = .ok (.goto 4, 3) := bX8_kindsOf_141.2.2.2.2.2.2.1
theorem dX8_kindsOf_152 : decode cX8_kindsOf 152 = .ok (.iconst 0, 1) := bX8_kindsOf_141.2.2.2.2.2.2.2.1
theorem dX8_kindsOf_153 : decode cX8_kindsOf 153 = .ok (.istore 6, 2) := bX8_kindsOf_141.2.2.2.2.2.2.2.2.1
theorem dX8_kindsOf_155 : decode cX8_kindsOf 155 = .ok (.iinc 7 1, 3) := bX8_kindsOf_141.2.2.2.2.2.2.2.2.2.1
theorem dX8_kindsOf_158 : decode cX8_kindsOf 158 = .ok (.goto (-128), 3) := bX8_kindsOf_141.2.2.2.2.2.2.2.2.2.2.1
theorem dX8_kindsOf_161 : decode cX8_kindsOf 161 = .ok (.iload_n 3, 1) := bX8_kindsOf_141.2.2.2.2.2.2.2.2.2.2.2.1
theorem dX8_kindsOf_162 : decode cX8_kindsOf 162 = .ok (.iload 6, 2) := bX8_kindsOf_141.2.2.2.2.2.2.2.2.2.2.2.2.1
theorem dX8_kindsOf_164 : decode cX8_kindsOf 164 = .ok (.ifCond .eq 10, 3) := bX8_kindsOf_141.2.2.2.2.2.2.2.2.2.2.2.2.2.1
theorem dX8_kindsOf_167 : decode cX8_kindsOf 167 = .ok (.iconst 1, 1) := bX8_kindsOf_141.2.2.2.2.2.2.2.2.2.2.2.2.2.2.1
theorem dX8_kindsOf_168 : decode cX8_kindsOf 168 = .ok (.iload 5, 2) := bX8_kindsOf_141.2.2.2.2.2.2.2.2.2.2.2.2.2.2.2
theorem bX8_kindsOf_170 : (decode cX8_kindsOf 170 = .ok (.ishl, 1)) ∧ (decode cX8_kindsOf 171 = .ok (.goto 4, 3)) ∧ (decode cX8_kindsOf 174 = .ok (.iconst 0, 1)) ∧ (decode cX8_kindsOf 175 = .ok (.ior, 1)) ∧ (decode cX8_kindsOf 176 = .ok (.istore_n 3, 1)) ∧ (decode cX8_kindsOf 177 = .ok (.iinc 5 1, 3)) ∧ (decode cX8_kindsOf 180 = .ok (.goto (-162), 3)) ∧ (decode cX8_kindsOf 183 = .ok (.iload_n 3, 1)) ∧ (decode cX8_kindsOf 184 = .ok (.ireturn, 1)) := by decide +kernel
theorem dX8_kindsOf_170 : decode cX8_kindsOf 170 = .ok (.ishl, 1) := bX8_kindsOf_170.1
theorem dX8_kindsOf_171 : decode cX8_kindsOf 171 = .ok (.goto 4, 3) := bX8_kindsOf_170.2.1
theorem dX8_kindsOf_174 : decode cX8_kindsOf 174 = .ok (.iconst 0, 1) := bX8_kindsOf_170.2.2.1
theorem dX8_kindsOf_175 : decode cX8_kindsOf 175 = .ok (.ior, 1) := bX8_kindsOf_170.2.2.2.1
theorem dX8_kindsOf_176 : decode cX8_kindsOf 176 = .ok (.istore_n 3, 1) := bX8_kindsOf_170.2.2.2.2.1
theorem dX8_kindsOf_177 : decode cX8_kindsOf 177 = .ok (.iinc 5 1, 3) := bX8_kindsOf_170.2.2.2.2.2.1
theorem dX8_kindsOf_180 : decode cX8_kindsOf 180 = .ok (.goto (-162), 3) := bX8_kindsOf_170.2.2.2.2.2.2.1
theorem dX8_kindsOf_183 : decode cX8_kindsOf 183 = .ok (.iload_n 3, 1) := bX8_kindsOf_170.2.2.2.2.2.2.2.1
theorem dX8_kindsOf_184 : decode cX8_kindsOf 184 = .ok (.ireturn, 1) := bX8_kindsOf_170.2.2.2.2.2.2.2.2
theorem bX8_is_0 : (decode cX8_is 0 = .ok (.aload_n 0, 1)) ∧ (decode cX8_is 1 = .ok (.iload_n 1, 1)) ∧ (decode cX8_is 2 = .ok (.invokevirtual 164, 3)) ∧ (decode cX8_is 5 = .ok (.ifCond .eq 12, 3)) ∧ (decode cX8_is 8 = .ok (.aload_n 0, 1)) ∧ (decode cX8_is 9 = .ok (.iload_n 1, 1)) ∧ (decode cX8_is 10 = .ok (.iconst 1, 1)) ∧ (decode cX8_is 11 = .ok (.invokevirtual 216, 3)) ∧ (decode cX8_is 14 = .ok (.goto 7, 3)) ∧ (decode cX8_is 17 = .ok (.aload_n 0, 1)) ∧ (decode cX8_is 18 = .ok (.invokevirtual 69, 3)) ∧ (decode cX8_is 21 = .ok (.ireturn, 1)) := by decide +kernel
theorem dX8_is_0 : decode cX8_is 0 = .ok (.aload_n 0, 1) := bX8_is_0.1
theorem dX8_is_1 : decode cX8_is 1 = .ok (.iload_n 1, 1) := bX8_is_0.2.1
theorem dX8_is_2 : decode cX8_is 2 = .ok (.invokevirtual 164, 3) := bX8_is_0.2.2.1
theorem dX8_is_5 : decode cX8_is 5 = .ok (.ifCond .eq 12, 3) := bX8_is_0.2.2.2.1
theorem dX8_is_8 : decode cX8_is 8 = .ok (.aload_n 0, 1) := bX8_is_0.2.2.2.2.1
theorem dX8_is_9 : decode cX8_is 9 = .ok (.iload_n 1, 1) := bX8_is_0.2.2.2.2.2.1
theorem dX8_is_10 : decode cX8_is 10 = .ok (.iconst 1, 1) := bX8_is_0.2.2.2.2.2.2.1
theorem dX8_is_11 : decode cX8_is 11 = .ok (.invokevirtual 216, 3) := bX8_is_0.2.2.2.2.2.2.2.1
theorem dX8_is_14 : decode cX8_is 14 = .ok (.goto 7, 3) := bX8_is_0.2.2.2.2.2.2.2.2.1
theorem dX8_is_17 : decode cX8_is 17 = .ok (.aload_n 0, 1) := bX8_is_0.2.2.2.2.2.2.2.2.2.1
theorem dX8_is_18 : decode cX8_is 18 = .ok (.invokevirtual 69, 3) := bX8_is_0.2.2.2.2.2.2.2.2.2.2.1
theorem dX8_is_21 : decode cX8_is 21 = .ok (.ireturn, 1) := bX8_is_0.2.2.2.2.2.2.2.2.2.2.2
theorem bX8_kinds_0 : (decode cX8_kinds 0 = .ok (.aload_n 0, 1)) ∧ (decode cX8_kinds 1 = .ok (.iload_n 1, 1)) ∧ (decode cX8_kinds 2 = .ok (.invokevirtual 161, 3)) ∧ (decode cX8_kinds 5 = .ok (.ifCond .eq 12, 3)) ∧ (decode cX8_kinds 8 = .ok (.aload_n 0, 1)) ∧ (decode cX8_kinds 9 = .ok (.iload_n 1, 1)) ∧ (decode cX8_kinds 10 = .ok (.iconst 0, 1)) ∧ (decode cX8_kinds 11 = .ok (.invokevirtual 216, 3)) ∧ (decode cX8_kinds 14 = .ok (.goto 7, 3)) ∧ (decode cX8_kinds 17 = .ok (.aload_n 0, 1)) ∧ (decode cX8_kinds 18 = .ok (.invokevirtual 69, 3)) ∧ (decode cX8_kinds 21 = .ok (.ireturn, 1)) := by decide +kernel
theorem dX8_kinds_0 : decode cX8_kinds 0 = .ok (.aload_n 0, 1) := bX8_kinds_0.1
theorem dX8_kinds_1 : decode cX8_kinds 1 = .ok (.iload_n 1, 1) := bX8_kinds_0.2.1
theorem dX8_kinds_2 : decode cX8_kinds 2 = .ok (.invokevirtual 161, 3) := bX8_kinds_0.2.2.1
theorem dX8_kinds_5 : decode cX8_kinds 5 = .ok (.ifCond .eq 12, 3) := bX8_kinds_0.2.2.2.1
theorem dX8_kinds_8 : decode cX8_kinds 8 = .ok (.aload_n 0, 1) := bX8_kinds_0.2.2.2.2.1
theorem dX8_kinds_9 : decode cX8_kinds 9 = .ok (.iload_n 1, 1) := bX8_kinds_0.2.2.2.2.2.1
theorem dX8_kinds_10 : decode cX8_kinds 10 = .ok (.iconst 0, 1) := bX8_kinds_0.2.2.2.2.2.2.1
theorem dX8_kinds_11 : decode cX8_kinds 11 = .ok (.invokevirtual 216, 3) := bX8_kinds_0.2.2.2.2.2.2.2.1
theorem dX8_kinds_14 : decode cX8_kinds 14 = .ok (.goto 7, 3) := bX8_kinds_0.2.2.2.2.2.2.2.2.1
theorem dX8_kinds_17 : decode cX8_kinds 17 = .ok (.aload_n 0, 1) := bX8_kinds_0.2.2.2.2.2.2.2.2.2.1
theorem dX8_kinds_18 : decode cX8_kinds 18 = .ok (.invokevirtual 69, 3) := bX8_kinds_0.2.2.2.2.2.2.2.2.2.2.1
theorem dX8_kinds_21 : decode cX8_kinds 21 = .ok (.ireturn, 1) := bX8_kinds_0.2.2.2.2.2.2.2.2.2.2.2
theorem bX8_partBy_0 : (decode cX8_partBy 0 = .ok (.iconst (-1), 1)) ∧ (decode cX8_partBy 1 = .ok (.istore 5, 2)) ∧ (decode cX8_partBy 3 = .ok (.ldc 202, 2)) ∧ (decode cX8_partBy 5 = .ok (.istore 6, 2)) ∧ (decode cX8_partBy 7 = .ok (.iconst 0, 1)) ∧ (decode cX8_partBy 8 = .ok (.istore 7, 2)) ∧ (decode cX8_partBy 10 = .ok (.iload 7, 2)) ∧ (decode cX8_partBy 12 = .ok (.iload_n 3, 1)) ∧ (decode cX8_partBy 13 = .ok (.if_icmp .gt 184, 3)) ∧ (decode cX8_partBy 16 = .ok (.iload_n 1, 1)) ∧ (decode cX8_partBy 17 = .ok (.ifCond .eq 180, 3)) ∧ (decode cX8_partBy 20 = .ok (.iconst 0, 1)) ∧ (decode cX8_partBy 21 = .ok (.istore 8, 2)) ∧ (decode cX8_partBy 23 = .ok (.iconst 0, 1)) ∧ (decode cX8_partBy 24 = .ok (.istore 9, 2)) ∧ (decode cX8_partBy 26 = .ok (.iload 9, 2)) := by decide +kernel
theorem dX8_partBy_0 : decode cX8_partBy 0 = .ok (.iconst (-1), 1) := bX8_partBy_0.1
theorem dX8_partBy_1 : decode cX8_partBy 1 = .ok (.istore 5, 2) := bX8_partBy_0.2.1
theorem dX8_partBy_3 : decode cX8_partBy 3 = .ok (.ldc 202, 2) := bX8_partBy_0.2.2.1
theorem dX8_partBy_5 : decode cX8_partBy 5 = .ok (.istore 6, 2) := bX8_partBy_0.2.2.2.1
theorem dX8_partBy_7 : decode cX8_partBy 7 = .ok (.iconst 0, 1) := bX8_partBy_0.2.2.2.2.1
theorem dX8_partBy_8 : decode cX8_partBy 8 = .ok (.istore 7, 2) := bX8_partBy_0.2.2.2.2.2.1
theorem dX8_partBy_10 : decode cX8_partBy 10 = .ok (.iload 7, 2) := bX8_partBy_0.2.2.2.2.2.2.1
theorem dX8_partBy_12 : decode cX8_partBy 12 = .ok (.iload_n 3, 1) := bX8_partBy_0.2.2.2.2.2.2.2.1
theorem dX8_partBy_13 : decode cX8_partBy 13 = .ok (.if_icmp .gt 184, 3) := bX8_partBy_0.2.2.2.2.2.2.2.2.1
theorem dX8_partBy_16 : decode cX8_partBy 16 = .ok (.iload_n 1, 1) := bX8_partBy_0.2.2.2.2.2.2.2.2.2.1
theorem dX8_partBy_17 : decode cX8_partBy 17 = .ok (.ifCond .eq 180, 3) := bX8_partBy_0.2.2.2.2.2.2.2.2.2.2.1
theorem dX8_partBy_20 : decode cX8_partBy 20 = .ok (.iconst 0, 1) := bX8_partBy_0.2.2.2.2.2.2.2.2.2.2.2.1
theorem dX8_partBy_21 : decode cX8_partBy 21 = .ok (.istore 8, 2) := bX8_partBy_0.2.2.2.2.2.2.2.2.2.2.2.2.1
theorem dX8_partBy_23 : decode cX8_partBy 23 = .ok (.iconst 0, 1) := bX8_partBy_0.2.2.2.2.2.2.2.2.2.2.2.2.2.1
theorem dX8_partBy_24 : decode cX8_partBy 24 = .ok (.istore 9, 2) := bX8_partBy_0.2.2.2.2.2.2.2.2.2.2.2.2.2.2.1
theorem dX8_partBy_26 : decode cX8_partBy 26 = .ok (.iload 9, 2) := bX8_partBy_0.2.2.2.2.2.2.2.2.2.2.2.2.2.2.2
theorem bX8_partBy_28 : (decode cX8_partBy 28 = .ok (.iconst 5, 1)) ∧ (decode cX8_partBy 29 = .ok (.if_icmp .gt 130, 3)) ∧ (decode cX8_partBy 32 = .ok (.iload 4, 2)) ∧ (decode cX8_partBy 34 = .ok (.ifCond .eq 14, 3)) ∧ (decode cX8_partBy 37 = .ok (.iload 9, 2)) ∧ (decode cX8_partBy 39 = .ok (.iload_n 2, 1)) ∧ (decode cX8_partBy 40 = .ok (.iload 7, 2)) ∧ (decode cX8_partBy 42 = .ok (.invokestatic 48, 3)) ∧ (decode cX8_partBy 45 = .ok (.goto 11, 3)) ∧ (decode cX8_partBy 48 = .ok (.iload 9, 2)) ∧ (decode cX8_partBy 50 = .ok (.iload_n 2, 1)) ∧ (decode cX8_partBy 51 = .ok (.iload 7, 2)) ∧ (decode cX8_partBy 53 = .ok (.invokestatic 52, 3)) ∧ (decode cX8_partBy 56 = .ok (.istore 10, 2)) ∧ (decode cX8_partBy 58 = .ok (.iconst 0, 1)) ∧ (decode cX8_partBy 59 = .ok (.istore 11, 2)) := by decide +kernel
theorem dX8_partBy_28 : decode cX8_partBy 28 = .ok (.iconst 5, 1) := bX8_partBy_28.1
theorem dX8_partBy_29 : decode cX8_partBy 29 = .ok (.if_icmp .gt 130, 3) := bX8_partBy_28.2.1
theorem dX8_partBy_32 : decode cX8_partBy 32 = .ok (.iload 4, 2) := bX8_partBy_28.2.2.1
theorem dX8_partBy_34 : decode cX8_partBy 34 = .ok (.ifCond .eq 14, 3) := bX8_partBy_28.2.2.2.1
theorem dX8_partBy_37 : decode cX8_partBy 37 = .ok (.iload 9, 2) := bX8_partBy_28.2.2.2.2.1
theorem dX8_partBy_39 : decode cX8_partBy 39 = .ok (.iload_n 2, 1) := bX8_partBy_28.2.2.2.2.2.1
theorem dX8_partBy_40 : decode cX8_partBy 40 = .ok (.iload 7, 2) := bX8_partBy_28.2.2.2.2.2.2.1
theorem dX8_partBy_42 : decode cX8_partBy 42 = .ok (.invokestatic 48, 3) := bX8_partBy_28.2.2.2.2.2.2.2.1
theorem dX8_partBy_45 : decode cX8_partBy 45 = .ok (.goto 11, 3) := bX8_partBy_28.2.2.2.2.2.2.2.2.1
theorem dX8_partBy_48 : decode cX8_partBy 48 = .ok (.iload 9, 2) := bX8_partBy_28.2.2.2.2.2.2.2.2.2.1
theorem dX8_partBy_50 : decode cX8_partBy 50 = .ok (.iload_n 2, 1) := bX8_partBy_28.2.2.2.2.2.2.2.2.2.2.1
theorem dX8_partBy_51 : decode cX8_partBy 51 = .ok (.iload 7, 2) := bX8_partBy_28.2.2.2.2.2.2.2.2.2.2.2.1
theorem dX8_partBy_53 : decode cX8_partBy 53 = .ok (.invokestatic 52, 3) := bX8_partBy_28.2.2.2.2.2.2.2.2.2.2.2.2.1
theorem dX8_partBy_56 : decode cX8_partBy 56 = .ok (.istore 10, 2) := bX8_partBy_28.2.2.2.2.2.2.2.2.2.2.2.2.2.1
theorem dX8_partBy_58 : decode cX8_partBy 58 = .ok (.iconst 0, 1) := bX8_partBy_28.2.2.2.2.2.2.2.2.2.2.2.2.2.2.1
theorem dX8_partBy_59 : decode cX8_partBy 59 = .ok (.istore 11, 2) := bX8_partBy_28.2.2.2.2.2.2.2.2.2.2.2.2.2.2.2
theorem bX8_partBy_61 : (decode cX8_partBy 61 = .ok (.iconst 0, 1)) ∧ (decode cX8_partBy 62 = .ok (.istore 12, 2)) ∧ (decode cX8_partBy 64 = .ok (.iload 12, 2)) ∧ (decode cX8_partBy 66 = .ok (.iconst 5, 1)) ∧ (decode cX8_partBy 67 = .ok (.if_icmp .gt 70, 3)) ∧ (decode cX8_partBy 70 = .ok (.iload 4, 2)) ∧ (decode cX8_partBy 72 = .ok (.ifCond .eq 14, 3)) ∧ (decode cX8_partBy 75 = .ok (.iload 12, 2)) ∧ (decode cX8_partBy 77 = .ok (.iload_n 2, 1)) ∧ (decode cX8_partBy 78 = .ok (.iload 7, 2)) ∧ (decode cX8_partBy 80 = .ok (.invokestatic 48, 3)) ∧ (decode cX8_partBy 83 = .ok (.goto 11, 3)) ∧ (decode cX8_partBy 86 = .ok (.iload 12, 2)) ∧ (decode cX8_partBy 88 = .ok (.iload_n 2, 1)) ∧ (decode cX8_partBy 89 = .ok (.iload 7, 2)) ∧ (decode cX8_partBy 91 = .ok (.invokestatic 52, 3)) := by decide +kernel
theorem dX8_partBy_61 : decode cX8_partBy 61 = .ok (.iconst 0, 1) := bX8_partBy_61.1
theorem dX8_partBy_62 : decode cX8_partBy 62 = .ok (.istore 12, 2) := bX8_partBy_61.2.1
theorem dX8_partBy_64 : decode cX8_partBy 64 = .ok (.iload 12, 2) := bX8_partBy_61.2.2.1
theorem dX8_partBy_66 : decode cX8_partBy 66 = .ok (.iconst 5, 1) := bX8_partBy_61.2.2.2.1
theorem dX8_partBy_67 : decode cX8_partBy 67 = .ok (.if_icmp .gt 70, 3) := bX8_partBy_61.2.2.2.2.1
theorem dX8_partBy_70 : decode cX8_partBy 70 = .ok (.iload 4, 2) := bX8_partBy_61.2.2.2.2.2.1
theorem dX8_partBy_72 : decode cX8_partBy 72 = .ok (.ifCond .eq 14, 3) := bX8_partBy_61.2.2.2.2.2.2.1
theorem dX8_partBy_75 : decode cX8_partBy 75 = .ok (.iload 12, 2) := bX8_partBy_61.2.2.2.2.2.2.2.1
theorem dX8_partBy_77 : decode cX8_partBy 77 = .ok (.iload_n 2, 1) := bX8_partBy_61.2.2.2.2.2.2.2.2.1
theorem dX8_partBy_78 : decode cX8_partBy 78 = .ok (.iload 7, 2) := bX8_partBy_61.2.2.2.2.2.2.2.2.2.1
theorem dX8_partBy_80 : decode cX8_partBy 80 = .ok (.invokestatic 48, 3) := bX8_partBy_61.2.2.2.2.2.2.2.2.2.2.1
theorem dX8_partBy_83 : decode cX8_partBy 83 = .ok (.goto 11, 3) := bX8_partBy_61.2.2.2.2.2.2.2.2.2.2.2.1
theorem dX8_partBy_86 : decode cX8_partBy 86 = .ok (.iload 12, 2) := bX8_partBy_61.2.2.2.2.2.2.2.2.2.2.2.2.1
theorem dX8_partBy_88 : decode cX8_partBy 88 = .ok (.iload_n 2, 1) := bX8_partBy_61.2.2.2.2.2.2.2.2.2.2.2.2.2.1
theorem dX8_partBy_89 : decode cX8_partBy 89 = .ok (.iload 7, 2) := bX8_partBy_61.2.2.2.2.2.2.2.2.2.2.2.2.2.2.1
theorem dX8_partBy_91 : decode cX8_partBy 91 = .ok (.invokestatic 52, 3) := bX8_partBy_61.2.2.2.2.2.2.2.2.2.2.2.2.2.2.2
theorem bX8_partBy_94 : (decode cX8_partBy 94 = .ok (.istore 13, 2)) ∧ (decode cX8_partBy 96 = .ok (.iload 11, 2)) ∧ (decode cX8_partBy 98 = .ok (.iload_n 1, 1)) ∧ (decode cX8_partBy 99 = .ok (.iload 9, 2)) ∧ (decode cX8_partBy 101 = .ok (.invokestatic 61, 3)) ∧ (decode cX8_partBy 104 = .ok (.ifCond .eq 23, 3)) ∧ (decode cX8_partBy 107 = .ok (.iload_n 1, 1)) ∧ (decode cX8_partBy 108 = .ok (.iload 12, 2)) ∧ (decode cX8_partBy 110 = .ok (.invokestatic 61, 3)) ∧ (decode cX8_partBy 113 = .ok (.ifCond .eq 14, 3)) ∧ (decode cX8_partBy 116 = .ok (.iload 10, 2)) ∧ (decode cX8_partBy 118 = .ok (.iload 13, 2)) ∧ (decode cX8_partBy 120 = .ok (.if_icmp .ne 7, 3)) ∧ (decode cX8_partBy 123 = .ok (.iconst 1, 1)) ∧ (decode cX8_partBy 124 = .ok (.goto 4, 3)) ∧ (decode cX8_partBy 127 = .ok (.iconst 0, 1)) := by decide +kernel
theorem dX8_partBy_94 : decode cX8_partBy 94 = .ok (.istore 13, 2) := bX8_partBy_94.1
theorem dX8_partBy_96 : decode cX8_partBy 96 = .ok (.iload 11, 2) := bX8_partBy_94.2.1
theorem dX8_partBy_98 : decode cX8_partBy 98 = .ok (.iload_n 1, 1) := bX8_partBy_94.2.2.1
theorem dX8_partBy_99 : decode cX8_partBy 99 = .ok (.iload 9, 2) := bX8_partBy_94.2.2.2.1
theorem dX8_partBy_101 : decode cX8_partBy 101 = .ok (.invokestatic 61, 3) := bX8_partBy_94.2.2.2.2.1
theorem dX8_partBy_104 : decode cX8_partBy 104 = .ok (.ifCond .eq 23, 3) := bX8_partBy_94.2.2.2.2.2.1
theorem dX8_partBy_107 : decode cX8_partBy 107 = .ok (.iload_n 1, 1) := bX8_partBy_94.2.2.2.2.2.2.1
theorem dX8_partBy_108 : decode cX8_partBy 108 = .ok (.iload 12, 2) := bX8_partBy_94.2.2.2.2.2.2.2.1
theorem dX8_partBy_110 : decode cX8_partBy 110 = .ok (.invokestatic 61, 3) := bX8_partBy_94.2.2.2.2.2.2.2.2.1
theorem dX8_partBy_113 : decode cX8_partBy 113 = .ok (.ifCond .eq 14, 3) := bX8_partBy_94.2.2.2.2.2.2.2.2.2.1
theorem dX8_partBy_116 : decode cX8_partBy 116 = .ok (.iload 10, 2) := bX8_partBy_94.2.2.2.2.2.2.2.2.2.2.1
theorem dX8_partBy_118 : decode cX8_partBy 118 = .ok (.iload 13, 2) := bX8_partBy_94.2.2.2.2.2.2.2.2.2.2.2.1
theorem dX8_partBy_120 : decode cX8_partBy 120 = .ok (.if_icmp .ne 7, 3) := bX8_partBy_94.2.2.2.2.2.2.2.2.2.2.2.2.1
theorem dX8_partBy_123 : decode cX8_partBy 123 = .ok (.iconst 1, 1) := bX8_partBy_94.2.2.2.2.2.2.2.2.2.2.2.2.2.1
theorem dX8_partBy_124 : decode cX8_partBy 124 = .ok (.goto 4, 3) := bX8_partBy_94.2.2.2.2.2.2.2.2.2.2.2.2.2.2.1
theorem dX8_partBy_127 : decode cX8_partBy 127 = .ok (.iconst 0, 1) := bX8_partBy_94.2.2.2.2.2.2.2.2.2.2.2.2.2.2.2
theorem bX8_partBy_128 : (decode cX8_partBy 128 = .ok (.iadd, 1)) ∧ (decode cX8_partBy 129 = .ok (.istore 11, 2)) ∧ (decode cX8_partBy 131 = .ok (.iinc 12 1, 3)) ∧ (decode cX8_partBy 134 = .ok (.goto (-70), 3)) ∧ (decode cX8_partBy 137 = .ok (.iload 11, 2)) ∧ (decode cX8_partBy 139 = .ok (.iload 8, 2)) ∧ (decode cX8_partBy 141 = .ok (.if_icmp .le 8, 3)) ∧ (decode cX8_partBy 144 = .ok (.iload 11, 2)) ∧ (decode cX8_partBy 146 = .ok (.goto 5, 3)) ∧ (decode cX8_partBy 149 = .ok (.iload 8, 2)) ∧ (decode cX8_partBy 151 = .ok (.istore 8, 2)) ∧ (decode cX8_partBy 153 = .ok (.iinc 9 1, 3)) ∧ (decode cX8_partBy 156 = .ok (.goto (-130), 3)) ∧ (decode cX8_partBy 159 = .ok (.iload 8, 2)) ∧ (decode cX8_partBy 161 = .ok (.iload 6, 2)) ∧ (decode cX8_partBy 163 = .ok (.if_icmp .ge 8, 3)) := by decide +kernel
theorem dX8_partBy_128 : decode cX8_partBy 128 = .ok (.iadd, 1) := bX8_partBy_128.1
theorem dX8_partBy_129 : decode cX8_partBy 129 = .ok (.istore 11, 2) := bX8_partBy_128.2.1
theorem dX8_partBy_131 : decode cX8_partBy 131 = .ok (.iinc 12 1, 3) := bX8_partBy_128.2.2.1
theorem dX8_partBy_134 : decode cX8_partBy 134 = .ok (.goto (-70), 3) := bX8_partBy_128.2.2.2.1
theorem dX8_partBy_137 : decode cX8_partBy 137 = .ok (.iload 11, 2) := bX8_partBy_128.2.2.2.2.1
theorem dX8_partBy_139 : decode cX8_partBy 139 = .ok (.iload 8, 2) := bX8_partBy_128.2.2.2.2.2.1
theorem dX8_partBy_141 : decode cX8_partBy 141 = .ok (.if_icmp .le 8, 3) := bX8_partBy_128.2.2.2.2.2.2.1
theorem dX8_partBy_144 : decode cX8_partBy 144 = .ok (.iload 11, 2) := bX8_partBy_128.2.2.2.2.2.2.2.1
theorem dX8_partBy_146 : decode cX8_partBy 146 = .ok (.goto 5, 3) := bX8_partBy_128.2.2.2.2.2.2.2.2.1
theorem dX8_partBy_149 : decode cX8_partBy 149 = .ok (.iload 8, 2) := bX8_partBy_128.2.2.2.2.2.2.2.2.2.1
theorem dX8_partBy_151 : decode cX8_partBy 151 = .ok (.istore 8, 2) := bX8_partBy_128.2.2.2.2.2.2.2.2.2.2.1
theorem dX8_partBy_153 : decode cX8_partBy 153 = .ok (.iinc 9 1, 3) := bX8_partBy_128.2.2.2.2.2.2.2.2.2.2.2.1
theorem dX8_partBy_156 : decode cX8_partBy 156 = .ok (.goto (-130), 3) := bX8_partBy_128.2.2.2.2.2.2.2.2.2.2.2.2.1
theorem dX8_partBy_159 : decode cX8_partBy 159 = .ok (.iload 8, 2) := bX8_partBy_128.2.2.2.2.2.2.2.2.2.2.2.2.2.1
theorem dX8_partBy_161 : decode cX8_partBy 161 = .ok (.iload 6, 2) := bX8_partBy_128.2.2.2.2.2.2.2.2.2.2.2.2.2.2.1
theorem dX8_partBy_163 : decode cX8_partBy 163 = .ok (.if_icmp .ge 8, 3) := bX8_partBy_128.2.2.2.2.2.2.2.2.2.2.2.2.2.2.2
theorem bX8_partBy_166 : (decode cX8_partBy 166 = .ok (.iload 7, 2)) ∧ (decode cX8_partBy 168 = .ok (.goto 5, 3)) ∧ (decode cX8_partBy 171 = .ok (.iload 5, 2)) ∧ (decode cX8_partBy 173 = .ok (.istore 5, 2)) ∧ (decode cX8_partBy 175 = .ok (.iload 8, 2)) ∧ (decode cX8_partBy 177 = .ok (.iload 6, 2)) ∧ (decode cX8_partBy 179 = .ok (.if_icmp .ge 8, 3)) ∧ (decode cX8_partBy 182 = .ok (.iload 8, 2)) ∧ (decode cX8_partBy 184 = .ok (.goto 5, 3)) ∧ (decode cX8_partBy 187 = .ok (.iload 6, 2)) ∧ (decode cX8_partBy 189 = .ok (.istore 6, 2)) ∧ (decode cX8_partBy 191 = .ok (.iinc 7 1, 3)) ∧ (decode cX8_partBy 194 = .ok (.goto (-184), 3)) ∧ (decode cX8_partBy 197 = .ok (.iload 5, 2)) ∧ (decode cX8_partBy 199 = .ok (.ireturn, 1)) := by decide +kernel
theorem dX8_partBy_166 : decode cX8_partBy 166 = .ok (.iload 7, 2) := bX8_partBy_166.1
theorem dX8_partBy_168 : decode cX8_partBy 168 = .ok (.goto 5, 3) := bX8_partBy_166.2.1
theorem dX8_partBy_171 : decode cX8_partBy 171 = .ok (.iload 5, 2) := bX8_partBy_166.2.2.1
theorem dX8_partBy_173 : decode cX8_partBy 173 = .ok (.istore 5, 2) := bX8_partBy_166.2.2.2.1
theorem dX8_partBy_175 : decode cX8_partBy 175 = .ok (.iload 8, 2) := bX8_partBy_166.2.2.2.2.1
theorem dX8_partBy_177 : decode cX8_partBy 177 = .ok (.iload 6, 2) := bX8_partBy_166.2.2.2.2.2.1
theorem dX8_partBy_179 : decode cX8_partBy 179 = .ok (.if_icmp .ge 8, 3) := bX8_partBy_166.2.2.2.2.2.2.1
theorem dX8_partBy_182 : decode cX8_partBy 182 = .ok (.iload 8, 2) := bX8_partBy_166.2.2.2.2.2.2.2.1
theorem dX8_partBy_184 : decode cX8_partBy 184 = .ok (.goto 5, 3) := bX8_partBy_166.2.2.2.2.2.2.2.2.1
theorem dX8_partBy_187 : decode cX8_partBy 187 = .ok (.iload 6, 2) := bX8_partBy_166.2.2.2.2.2.2.2.2.2.1
theorem dX8_partBy_189 : decode cX8_partBy 189 = .ok (.istore 6, 2) := bX8_partBy_166.2.2.2.2.2.2.2.2.2.2.1
theorem dX8_partBy_191 : decode cX8_partBy 191 = .ok (.iinc 7 1, 3) := bX8_partBy_166.2.2.2.2.2.2.2.2.2.2.2.1
theorem dX8_partBy_194 : decode cX8_partBy 194 = .ok (.goto (-184), 3) := bX8_partBy_166.2.2.2.2.2.2.2.2.2.2.2.2.1
theorem dX8_partBy_197 : decode cX8_partBy 197 = .ok (.iload 5, 2) := bX8_partBy_166.2.2.2.2.2.2.2.2.2.2.2.2.2.1
theorem dX8_partBy_199 : decode cX8_partBy 199 = .ok (.ireturn, 1) := bX8_partBy_166.2.2.2.2.2.2.2.2.2.2.2.2.2.2
theorem bX8_look_0 : (decode cX8_look 0 = .ok (.aload_n 0, 1)) ∧ (decode cX8_look 1 = .ok (.iload_n 1, 1)) ∧ (decode cX8_look 2 = .ok (.invokevirtual 164, 3)) ∧ (decode cX8_look 5 = .ok (.ifCond .eq 28, 3)) ∧ (decode cX8_look 8 = .ok (.aload_n 0, 1)) ∧ (decode cX8_look 9 = .ok (.aload_n 0, 1)) ∧ (decode cX8_look 10 = .ok (.iload_n 1, 1)) ∧ (decode cX8_look 11 = .ok (.iconst 1, 1)) ∧ (decode cX8_look 12 = .ok (.invokevirtual 216, 3)) ∧ (decode cX8_look 15 = .ok (.aload_n 0, 1)) ∧ (decode cX8_look 16 = .ok (.getfield 13, 3)) ∧ (decode cX8_look 19 = .ok (.bipush 13, 2)) ∧ (decode cX8_look 21 = .ok (.iload_n 1, 1)) ∧ (decode cX8_look 22 = .ok (.iadd, 1)) ∧ (decode cX8_look 23 = .ok (.iaload, 1)) ∧ (decode cX8_look 24 = .ok (.bipush 60, 2)) := by decide +kernel
theorem dX8_look_0 : decode cX8_look 0 = .ok (.aload_n 0, 1) := bX8_look_0.1
theorem dX8_look_1 : decode cX8_look 1 = .ok (.iload_n 1, 1) := bX8_look_0.2.1
theorem dX8_look_2 : decode cX8_look 2 = .ok (.invokevirtual 164, 3) := bX8_look_0.2.2.1
theorem dX8_look_5 : decode cX8_look 5 = .ok (.ifCond .eq 28, 3) := bX8_look_0.2.2.2.1
theorem dX8_look_8 : decode cX8_look 8 = .ok (.aload_n 0, 1) := bX8_look_0.2.2.2.2.1
theorem dX8_look_9 : decode cX8_look 9 = .ok (.aload_n 0, 1) := bX8_look_0.2.2.2.2.2.1
theorem dX8_look_10 : decode cX8_look 10 = .ok (.iload_n 1, 1) := bX8_look_0.2.2.2.2.2.2.1
theorem dX8_look_11 : decode cX8_look 11 = .ok (.iconst 1, 1) := bX8_look_0.2.2.2.2.2.2.2.1
theorem dX8_look_12 : decode cX8_look 12 = .ok (.invokevirtual 216, 3) := bX8_look_0.2.2.2.2.2.2.2.2.1
theorem dX8_look_15 : decode cX8_look 15 = .ok (.aload_n 0, 1) := bX8_look_0.2.2.2.2.2.2.2.2.2.1
theorem dX8_look_16 : decode cX8_look 16 = .ok (.getfield 13, 3) := bX8_look_0.2.2.2.2.2.2.2.2.2.2.1
theorem dX8_look_19 : decode cX8_look 19 = .ok (.bipush 13, 2) := bX8_look_0.2.2.2.2.2.2.2.2.2.2.2.1
theorem dX8_look_21 : decode cX8_look 21 = .ok (.iload_n 1, 1) := bX8_look_0.2.2.2.2.2.2.2.2.2.2.2.2.1
theorem dX8_look_22 : decode cX8_look 22 = .ok (.iadd, 1) := bX8_look_0.2.2.2.2.2.2.2.2.2.2.2.2.2.1
theorem dX8_look_23 : decode cX8_look 23 = .ok (.iaload, 1) := bX8_look_0.2.2.2.2.2.2.2.2.2.2.2.2.2.2.1
theorem dX8_look_24 : decode cX8_look 24 = .ok (.bipush 60, 2) := bX8_look_0.2.2.2.2.2.2.2.2.2.2.2.2.2.2.2
theorem bX8_look_26 : (decode cX8_look 26 = .ok (.iconst 1, 1)) ∧ (decode cX8_look 27 = .ok (.invokevirtual 220, 3)) ∧ (decode cX8_look 30 = .ok (.goto 7, 3)) ∧ (decode cX8_look 33 = .ok (.aload_n 0, 1)) ∧ (decode cX8_look 34 = .ok (.invokevirtual 69, 3)) ∧ (decode cX8_look 37 = .ok (.ireturn, 1)) := by decide +kernel
theorem dX8_look_26 : decode cX8_look 26 = .ok (.iconst 1, 1) := bX8_look_26.1
theorem dX8_look_27 : decode cX8_look 27 = .ok (.invokevirtual 220, 3) := bX8_look_26.2.1
theorem dX8_look_30 : decode cX8_look 30 = .ok (.goto 7, 3) := bX8_look_26.2.2.1
theorem dX8_look_33 : decode cX8_look 33 = .ok (.aload_n 0, 1) := bX8_look_26.2.2.2.1
theorem dX8_look_34 : decode cX8_look 34 = .ok (.invokevirtual 69, 3) := bX8_look_26.2.2.2.2.1
theorem dX8_look_37 : decode cX8_look 37 = .ok (.ireturn, 1) := bX8_look_26.2.2.2.2.2
theorem bX8_ask_0 : (decode cX8_ask 0 = .ok (.aload_n 0, 1)) ∧ (decode cX8_ask 1 = .ok (.iload_n 1, 1)) ∧ (decode cX8_ask 2 = .ok (.invokevirtual 161, 3)) ∧ (decode cX8_ask 5 = .ok (.ifCond .eq 28, 3)) ∧ (decode cX8_ask 8 = .ok (.aload_n 0, 1)) ∧ (decode cX8_ask 9 = .ok (.aload_n 0, 1)) ∧ (decode cX8_ask 10 = .ok (.iload_n 1, 1)) ∧ (decode cX8_ask 11 = .ok (.iconst 0, 1)) ∧ (decode cX8_ask 12 = .ok (.invokevirtual 216, 3)) ∧ (decode cX8_ask 15 = .ok (.aload_n 0, 1)) ∧ (decode cX8_ask 16 = .ok (.getfield 13, 3)) ∧ (decode cX8_ask 19 = .ok (.bipush 27, 2)) ∧ (decode cX8_ask 21 = .ok (.iload_n 1, 1)) ∧ (decode cX8_ask 22 = .ok (.iadd, 1)) ∧ (decode cX8_ask 23 = .ok (.iaload, 1)) ∧ (decode cX8_ask 24 = .ok (.bipush 99, 2)) := by decide +kernel
theorem dX8_ask_0 : decode cX8_ask 0 = .ok (.aload_n 0, 1) := bX8_ask_0.1
theorem dX8_ask_1 : decode cX8_ask 1 = .ok (.iload_n 1, 1) := bX8_ask_0.2.1
theorem dX8_ask_2 : decode cX8_ask 2 = .ok (.invokevirtual 161, 3) := bX8_ask_0.2.2.1
theorem dX8_ask_5 : decode cX8_ask 5 = .ok (.ifCond .eq 28, 3) := bX8_ask_0.2.2.2.1
theorem dX8_ask_8 : decode cX8_ask 8 = .ok (.aload_n 0, 1) := bX8_ask_0.2.2.2.2.1
theorem dX8_ask_9 : decode cX8_ask 9 = .ok (.aload_n 0, 1) := bX8_ask_0.2.2.2.2.2.1
theorem dX8_ask_10 : decode cX8_ask 10 = .ok (.iload_n 1, 1) := bX8_ask_0.2.2.2.2.2.2.1
theorem dX8_ask_11 : decode cX8_ask 11 = .ok (.iconst 0, 1) := bX8_ask_0.2.2.2.2.2.2.2.1
theorem dX8_ask_12 : decode cX8_ask 12 = .ok (.invokevirtual 216, 3) := bX8_ask_0.2.2.2.2.2.2.2.2.1
theorem dX8_ask_15 : decode cX8_ask 15 = .ok (.aload_n 0, 1) := bX8_ask_0.2.2.2.2.2.2.2.2.2.1
theorem dX8_ask_16 : decode cX8_ask 16 = .ok (.getfield 13, 3) := bX8_ask_0.2.2.2.2.2.2.2.2.2.2.1
theorem dX8_ask_19 : decode cX8_ask 19 = .ok (.bipush 27, 2) := bX8_ask_0.2.2.2.2.2.2.2.2.2.2.2.1
theorem dX8_ask_21 : decode cX8_ask 21 = .ok (.iload_n 1, 1) := bX8_ask_0.2.2.2.2.2.2.2.2.2.2.2.2.1
theorem dX8_ask_22 : decode cX8_ask 22 = .ok (.iadd, 1) := bX8_ask_0.2.2.2.2.2.2.2.2.2.2.2.2.2.1
theorem dX8_ask_23 : decode cX8_ask 23 = .ok (.iaload, 1) := bX8_ask_0.2.2.2.2.2.2.2.2.2.2.2.2.2.2.1
theorem dX8_ask_24 : decode cX8_ask 24 = .ok (.bipush 99, 2) := bX8_ask_0.2.2.2.2.2.2.2.2.2.2.2.2.2.2.2
theorem bX8_ask_26 : (decode cX8_ask 26 = .ok (.iconst 0, 1)) ∧ (decode cX8_ask 27 = .ok (.invokevirtual 220, 3)) ∧ (decode cX8_ask 30 = .ok (.goto 7, 3)) ∧ (decode cX8_ask 33 = .ok (.aload_n 0, 1)) ∧ (decode cX8_ask 34 = .ok (.invokevirtual 69, 3)) ∧ (decode cX8_ask 37 = .ok (.ireturn, 1)) := by decide +kernel
theorem dX8_ask_26 : decode cX8_ask 26 = .ok (.iconst 0, 1) := bX8_ask_26.1
theorem dX8_ask_27 : decode cX8_ask 27 = .ok (.invokevirtual 220, 3) := bX8_ask_26.2.1
theorem dX8_ask_30 : decode cX8_ask 30 = .ok (.goto 7, 3) := bX8_ask_26.2.2.1
theorem dX8_ask_33 : decode cX8_ask 33 = .ok (.aload_n 0, 1) := bX8_ask_26.2.2.2.1
theorem dX8_ask_34 : decode cX8_ask 34 = .ok (.invokevirtual 69, 3) := bX8_ask_26.2.2.2.2.1
theorem dX8_ask_37 : decode cX8_ask 37 = .ok (.ireturn, 1) := bX8_ask_26.2.2.2.2.2
theorem bX8_gets_0 : (decode cX8_gets 0 = .ok (.iload_n 0, 1)) ∧ (decode cX8_gets 1 = .ok (.ifCond .ne 17, 3)) ∧ (decode cX8_gets 4 = .ok (.iload_n 1, 1)) ∧ (decode cX8_gets 5 = .ok (.ifCond .eq 11, 3)) ∧ (decode cX8_gets 8 = .ok (.iload_n 3, 1)) ∧ (decode cX8_gets 9 = .ok (.ifCond .ne 7, 3)) ∧ (decode cX8_gets 12 = .ok (.iconst 1, 1)) ∧ (decode cX8_gets 13 = .ok (.goto 4, 3)) ∧ (decode cX8_gets 16 = .ok (.iconst 0, 1)) ∧ (decode cX8_gets 17 = .ok (.ireturn, 1)) ∧ (decode cX8_gets 18 = .ok (.iload_n 1, 1)) ∧ (decode cX8_gets 19 = .ok (.ifCond .eq 15, 3)) ∧ (decode cX8_gets 22 = .ok (.iload 4, 2)) ∧ (decode cX8_gets 24 = .ok (.ifCond .eq 7, 3)) ∧ (decode cX8_gets 27 = .ok (.iconst 3, 1)) ∧ (decode cX8_gets 28 = .ok (.goto 5, 3)) := by decide +kernel
theorem dX8_gets_0 : decode cX8_gets 0 = .ok (.iload_n 0, 1) := bX8_gets_0.1
theorem dX8_gets_1 : decode cX8_gets 1 = .ok (.ifCond .ne 17, 3) := bX8_gets_0.2.1
theorem dX8_gets_4 : decode cX8_gets 4 = .ok (.iload_n 1, 1) := bX8_gets_0.2.2.1
theorem dX8_gets_5 : decode cX8_gets 5 = .ok (.ifCond .eq 11, 3) := bX8_gets_0.2.2.2.1
theorem dX8_gets_8 : decode cX8_gets 8 = .ok (.iload_n 3, 1) := bX8_gets_0.2.2.2.2.1
theorem dX8_gets_9 : decode cX8_gets 9 = .ok (.ifCond .ne 7, 3) := bX8_gets_0.2.2.2.2.2.1
theorem dX8_gets_12 : decode cX8_gets 12 = .ok (.iconst 1, 1) := bX8_gets_0.2.2.2.2.2.2.1
theorem dX8_gets_13 : decode cX8_gets 13 = .ok (.goto 4, 3) := bX8_gets_0.2.2.2.2.2.2.2.1
theorem dX8_gets_16 : decode cX8_gets 16 = .ok (.iconst 0, 1) := bX8_gets_0.2.2.2.2.2.2.2.2.1
theorem dX8_gets_17 : decode cX8_gets 17 = .ok (.ireturn, 1) := bX8_gets_0.2.2.2.2.2.2.2.2.2.1
theorem dX8_gets_18 : decode cX8_gets 18 = .ok (.iload_n 1, 1) := bX8_gets_0.2.2.2.2.2.2.2.2.2.2.1
theorem dX8_gets_19 : decode cX8_gets 19 = .ok (.ifCond .eq 15, 3) := bX8_gets_0.2.2.2.2.2.2.2.2.2.2.2.1
theorem dX8_gets_22 : decode cX8_gets 22 = .ok (.iload 4, 2) := bX8_gets_0.2.2.2.2.2.2.2.2.2.2.2.2.1
theorem dX8_gets_24 : decode cX8_gets 24 = .ok (.ifCond .eq 7, 3) := bX8_gets_0.2.2.2.2.2.2.2.2.2.2.2.2.2.1
theorem dX8_gets_27 : decode cX8_gets 27 = .ok (.iconst 3, 1) := bX8_gets_0.2.2.2.2.2.2.2.2.2.2.2.2.2.2.1
theorem dX8_gets_28 : decode cX8_gets 28 = .ok (.goto 5, 3) := bX8_gets_0.2.2.2.2.2.2.2.2.2.2.2.2.2.2.2
theorem bX8_gets_31 : (decode cX8_gets 31 = .ok (.bipush (-3), 2)) ∧ (decode cX8_gets 33 = .ok (.ireturn, 1)) ∧ (decode cX8_gets 34 = .ok (.iload_n 2, 1)) ∧ (decode cX8_gets 35 = .ok (.ifCond .eq 7, 3)) ∧ (decode cX8_gets 38 = .ok (.iconst 5, 1)) ∧ (decode cX8_gets 39 = .ok (.goto 5, 3)) ∧ (decode cX8_gets 42 = .ok (.bipush (-2), 2)) ∧ (decode cX8_gets 44 = .ok (.ireturn, 1)) := by decide +kernel
theorem dX8_gets_31 : decode cX8_gets 31 = .ok (.bipush (-3), 2) := bX8_gets_31.1
theorem dX8_gets_33 : decode cX8_gets 33 = .ok (.ireturn, 1) := bX8_gets_31.2.1
theorem dX8_gets_34 : decode cX8_gets 34 = .ok (.iload_n 2, 1) := bX8_gets_31.2.2.1
theorem dX8_gets_35 : decode cX8_gets 35 = .ok (.ifCond .eq 7, 3) := bX8_gets_31.2.2.2.1
theorem dX8_gets_38 : decode cX8_gets 38 = .ok (.iconst 5, 1) := bX8_gets_31.2.2.2.2.1
theorem dX8_gets_39 : decode cX8_gets 39 = .ok (.goto 5, 3) := bX8_gets_31.2.2.2.2.2.1
theorem dX8_gets_42 : decode cX8_gets 42 = .ok (.bipush (-2), 2) := bX8_gets_31.2.2.2.2.2.2.1
theorem dX8_gets_44 : decode cX8_gets 44 = .ok (.ireturn, 1) := bX8_gets_31.2.2.2.2.2.2.2
theorem bX8_tries_0 : (decode cX8_tries 0 = .ok (.aload_n 0, 1)) ∧ (decode cX8_tries 1 = .ok (.iload_n 1, 1)) ∧ (decode cX8_tries 2 = .ok (.invokevirtual 161, 3)) ∧ (decode cX8_tries 5 = .ok (.ifCond .eq 24, 3)) ∧ (decode cX8_tries 8 = .ok (.aload_n 0, 1)) ∧ (decode cX8_tries 9 = .ok (.iload_n 2, 1)) ∧ (decode cX8_tries 10 = .ok (.invokevirtual 161, 3)) ∧ (decode cX8_tries 13 = .ok (.ifCond .eq 16, 3)) ∧ (decode cX8_tries 16 = .ok (.iload_n 1, 1)) ∧ (decode cX8_tries 17 = .ok (.iload_n 2, 1)) ∧ (decode cX8_tries 18 = .ok (.if_icmp .eq 11, 3)) ∧ (decode cX8_tries 21 = .ok (.aload_n 0, 1)) ∧ (decode cX8_tries 22 = .ok (.iload_n 3, 1)) ∧ (decode cX8_tries 23 = .ok (.invokevirtual 164, 3)) ∧ (decode cX8_tries 26 = .ok (.ifCond .ne 8, 3)) ∧ (decode cX8_tries 29 = .ok (.aload_n 0, 1)) := by decide +kernel
theorem dX8_tries_0 : decode cX8_tries 0 = .ok (.aload_n 0, 1) := bX8_tries_0.1
theorem dX8_tries_1 : decode cX8_tries 1 = .ok (.iload_n 1, 1) := bX8_tries_0.2.1
theorem dX8_tries_2 : decode cX8_tries 2 = .ok (.invokevirtual 161, 3) := bX8_tries_0.2.2.1
theorem dX8_tries_5 : decode cX8_tries 5 = .ok (.ifCond .eq 24, 3) := bX8_tries_0.2.2.2.1
theorem dX8_tries_8 : decode cX8_tries 8 = .ok (.aload_n 0, 1) := bX8_tries_0.2.2.2.2.1
theorem dX8_tries_9 : decode cX8_tries 9 = .ok (.iload_n 2, 1) := bX8_tries_0.2.2.2.2.2.1
theorem dX8_tries_10 : decode cX8_tries 10 = .ok (.invokevirtual 161, 3) := bX8_tries_0.2.2.2.2.2.2.1
theorem dX8_tries_13 : decode cX8_tries 13 = .ok (.ifCond .eq 16, 3) := bX8_tries_0.2.2.2.2.2.2.2.1
theorem dX8_tries_16 : decode cX8_tries 16 = .ok (.iload_n 1, 1) := bX8_tries_0.2.2.2.2.2.2.2.2.1
theorem dX8_tries_17 : decode cX8_tries 17 = .ok (.iload_n 2, 1) := bX8_tries_0.2.2.2.2.2.2.2.2.2.1
theorem dX8_tries_18 : decode cX8_tries 18 = .ok (.if_icmp .eq 11, 3) := bX8_tries_0.2.2.2.2.2.2.2.2.2.2.1
theorem dX8_tries_21 : decode cX8_tries 21 = .ok (.aload_n 0, 1) := bX8_tries_0.2.2.2.2.2.2.2.2.2.2.2.1
theorem dX8_tries_22 : decode cX8_tries 22 = .ok (.iload_n 3, 1) := bX8_tries_0.2.2.2.2.2.2.2.2.2.2.2.2.1
theorem dX8_tries_23 : decode cX8_tries 23 = .ok (.invokevirtual 164, 3) := bX8_tries_0.2.2.2.2.2.2.2.2.2.2.2.2.2.1
theorem dX8_tries_26 : decode cX8_tries 26 = .ok (.ifCond .ne 8, 3) := bX8_tries_0.2.2.2.2.2.2.2.2.2.2.2.2.2.2.1
theorem dX8_tries_29 : decode cX8_tries 29 = .ok (.aload_n 0, 1) := bX8_tries_0.2.2.2.2.2.2.2.2.2.2.2.2.2.2.2
theorem bX8_tries_30 : (decode cX8_tries 30 = .ok (.invokevirtual 69, 3)) ∧ (decode cX8_tries 33 = .ok (.ireturn, 1)) ∧ (decode cX8_tries 34 = .ok (.aload_n 0, 1)) ∧ (decode cX8_tries 35 = .ok (.iload_n 3, 1)) ∧ (decode cX8_tries 36 = .ok (.iconst 0, 1)) ∧ (decode cX8_tries 37 = .ok (.invokevirtual 193, 3)) ∧ (decode cX8_tries 40 = .ok (.istore 4, 2)) ∧ (decode cX8_tries 42 = .ok (.aload_n 0, 1)) ∧ (decode cX8_tries 43 = .ok (.iload_n 1, 1)) ∧ (decode cX8_tries 44 = .ok (.iconst 0, 1)) ∧ (decode cX8_tries 45 = .ok (.invokevirtual 190, 3)) ∧ (decode cX8_tries 48 = .ok (.iload 4, 2)) ∧ (decode cX8_tries 50 = .ok (.if_icmp .lt 7, 3)) ∧ (decode cX8_tries 53 = .ok (.iconst 1, 1)) ∧ (decode cX8_tries 54 = .ok (.goto 4, 3)) ∧ (decode cX8_tries 57 = .ok (.iconst 0, 1)) := by decide +kernel
theorem dX8_tries_30 : decode cX8_tries 30 = .ok (.invokevirtual 69, 3) := bX8_tries_30.1
theorem dX8_tries_33 : decode cX8_tries 33 = .ok (.ireturn, 1) := bX8_tries_30.2.1
theorem dX8_tries_34 : decode cX8_tries 34 = .ok (.aload_n 0, 1) := bX8_tries_30.2.2.1
theorem dX8_tries_35 : decode cX8_tries 35 = .ok (.iload_n 3, 1) := bX8_tries_30.2.2.2.1
theorem dX8_tries_36 : decode cX8_tries 36 = .ok (.iconst 0, 1) := bX8_tries_30.2.2.2.2.1
theorem dX8_tries_37 : decode cX8_tries 37 = .ok (.invokevirtual 193, 3) := bX8_tries_30.2.2.2.2.2.1
theorem dX8_tries_40 : decode cX8_tries 40 = .ok (.istore 4, 2) := bX8_tries_30.2.2.2.2.2.2.1
theorem dX8_tries_42 : decode cX8_tries 42 = .ok (.aload_n 0, 1) := bX8_tries_30.2.2.2.2.2.2.2.1
theorem dX8_tries_43 : decode cX8_tries 43 = .ok (.iload_n 1, 1) := bX8_tries_30.2.2.2.2.2.2.2.2.1
theorem dX8_tries_44 : decode cX8_tries 44 = .ok (.iconst 0, 1) := bX8_tries_30.2.2.2.2.2.2.2.2.2.1
theorem dX8_tries_45 : decode cX8_tries 45 = .ok (.invokevirtual 190, 3) := bX8_tries_30.2.2.2.2.2.2.2.2.2.2.1
theorem dX8_tries_48 : decode cX8_tries 48 = .ok (.iload 4, 2) := bX8_tries_30.2.2.2.2.2.2.2.2.2.2.2.1
theorem dX8_tries_50 : decode cX8_tries 50 = .ok (.if_icmp .lt 7, 3) := bX8_tries_30.2.2.2.2.2.2.2.2.2.2.2.2.1
theorem dX8_tries_53 : decode cX8_tries 53 = .ok (.iconst 1, 1) := bX8_tries_30.2.2.2.2.2.2.2.2.2.2.2.2.2.1
theorem dX8_tries_54 : decode cX8_tries 54 = .ok (.goto 4, 3) := bX8_tries_30.2.2.2.2.2.2.2.2.2.2.2.2.2.2.1
theorem dX8_tries_57 : decode cX8_tries 57 = .ok (.iconst 0, 1) := bX8_tries_30.2.2.2.2.2.2.2.2.2.2.2.2.2.2.2
theorem bX8_tries_58 : (decode cX8_tries 58 = .ok (.istore 5, 2)) ∧ (decode cX8_tries 60 = .ok (.aload_n 0, 1)) ∧ (decode cX8_tries 61 = .ok (.iload_n 2, 1)) ∧ (decode cX8_tries 62 = .ok (.iconst 0, 1)) ∧ (decode cX8_tries 63 = .ok (.invokevirtual 190, 3)) ∧ (decode cX8_tries 66 = .ok (.iload 4, 2)) ∧ (decode cX8_tries 68 = .ok (.if_icmp .lt 7, 3)) ∧ (decode cX8_tries 71 = .ok (.iconst 1, 1)) ∧ (decode cX8_tries 72 = .ok (.goto 4, 3)) ∧ (decode cX8_tries 75 = .ok (.iconst 0, 1)) ∧ (decode cX8_tries 76 = .ok (.istore 6, 2)) ∧ (decode cX8_tries 78 = .ok (.aload_n 0, 1)) ∧ (decode cX8_tries 79 = .ok (.iload_n 1, 1)) ∧ (decode cX8_tries 80 = .ok (.iconst 0, 1)) ∧ (decode cX8_tries 81 = .ok (.invokevirtual 190, 3)) ∧ (decode cX8_tries 84 = .ok (.aload_n 0, 1)) := by decide +kernel
theorem dX8_tries_58 : decode cX8_tries 58 = .ok (.istore 5, 2) := bX8_tries_58.1
theorem dX8_tries_60 : decode cX8_tries 60 = .ok (.aload_n 0, 1) := bX8_tries_58.2.1
theorem dX8_tries_61 : decode cX8_tries 61 = .ok (.iload_n 2, 1) := bX8_tries_58.2.2.1
theorem dX8_tries_62 : decode cX8_tries 62 = .ok (.iconst 0, 1) := bX8_tries_58.2.2.2.1
theorem dX8_tries_63 : decode cX8_tries 63 = .ok (.invokevirtual 190, 3) := bX8_tries_58.2.2.2.2.1
theorem dX8_tries_66 : decode cX8_tries 66 = .ok (.iload 4, 2) := bX8_tries_58.2.2.2.2.2.1
theorem dX8_tries_68 : decode cX8_tries 68 = .ok (.if_icmp .lt 7, 3) := bX8_tries_58.2.2.2.2.2.2.1
theorem dX8_tries_71 : decode cX8_tries 71 = .ok (.iconst 1, 1) := bX8_tries_58.2.2.2.2.2.2.2.1
theorem dX8_tries_72 : decode cX8_tries 72 = .ok (.goto 4, 3) := bX8_tries_58.2.2.2.2.2.2.2.2.1
theorem dX8_tries_75 : decode cX8_tries 75 = .ok (.iconst 0, 1) := bX8_tries_58.2.2.2.2.2.2.2.2.2.1
theorem dX8_tries_76 : decode cX8_tries 76 = .ok (.istore 6, 2) := bX8_tries_58.2.2.2.2.2.2.2.2.2.2.1
theorem dX8_tries_78 : decode cX8_tries 78 = .ok (.aload_n 0, 1) := bX8_tries_58.2.2.2.2.2.2.2.2.2.2.2.1
theorem dX8_tries_79 : decode cX8_tries 79 = .ok (.iload_n 1, 1) := bX8_tries_58.2.2.2.2.2.2.2.2.2.2.2.2.1
theorem dX8_tries_80 : decode cX8_tries 80 = .ok (.iconst 0, 1) := bX8_tries_58.2.2.2.2.2.2.2.2.2.2.2.2.2.1
theorem dX8_tries_81 : decode cX8_tries 81 = .ok (.invokevirtual 190, 3) := bX8_tries_58.2.2.2.2.2.2.2.2.2.2.2.2.2.2.1
theorem dX8_tries_84 : decode cX8_tries 84 = .ok (.aload_n 0, 1) := bX8_tries_58.2.2.2.2.2.2.2.2.2.2.2.2.2.2.2
theorem bX8_tries_85 : (decode cX8_tries 85 = .ok (.iload_n 2, 1)) ∧ (decode cX8_tries 86 = .ok (.iconst 0, 1)) ∧ (decode cX8_tries 87 = .ok (.invokevirtual 190, 3)) ∧ (decode cX8_tries 90 = .ok (.iadd, 1)) ∧ (decode cX8_tries 91 = .ok (.iload 4, 2)) ∧ (decode cX8_tries 93 = .ok (.if_icmp .lt 7, 3)) ∧ (decode cX8_tries 96 = .ok (.iconst 1, 1)) ∧ (decode cX8_tries 97 = .ok (.goto 4, 3)) ∧ (decode cX8_tries 100 = .ok (.iconst 0, 1)) ∧ (decode cX8_tries 101 = .ok (.istore 7, 2)) ∧ (decode cX8_tries 103 = .ok (.iconst 0, 1)) ∧ (decode cX8_tries 104 = .ok (.istore 8, 2)) ∧ (decode cX8_tries 106 = .ok (.iconst 0, 1)) ∧ (decode cX8_tries 107 = .ok (.istore 9, 2)) ∧ (decode cX8_tries 109 = .ok (.iload 9, 2)) ∧ (decode cX8_tries 111 = .ok (.iconst 4, 1)) := by decide +kernel
theorem dX8_tries_85 : decode cX8_tries 85 = .ok (.iload_n 2, 1) := bX8_tries_85.1
theorem dX8_tries_86 : decode cX8_tries 86 = .ok (.iconst 0, 1) := bX8_tries_85.2.1
theorem dX8_tries_87 : decode cX8_tries 87 = .ok (.invokevirtual 190, 3) := bX8_tries_85.2.2.1
theorem dX8_tries_90 : decode cX8_tries 90 = .ok (.iadd, 1) := bX8_tries_85.2.2.2.1
theorem dX8_tries_91 : decode cX8_tries 91 = .ok (.iload 4, 2) := bX8_tries_85.2.2.2.2.1
theorem dX8_tries_93 : decode cX8_tries 93 = .ok (.if_icmp .lt 7, 3) := bX8_tries_85.2.2.2.2.2.1
theorem dX8_tries_96 : decode cX8_tries 96 = .ok (.iconst 1, 1) := bX8_tries_85.2.2.2.2.2.2.1
theorem dX8_tries_97 : decode cX8_tries 97 = .ok (.goto 4, 3) := bX8_tries_85.2.2.2.2.2.2.2.1
theorem dX8_tries_100 : decode cX8_tries 100 = .ok (.iconst 0, 1) := bX8_tries_85.2.2.2.2.2.2.2.2.1
theorem dX8_tries_101 : decode cX8_tries 101 = .ok (.istore 7, 2) := bX8_tries_85.2.2.2.2.2.2.2.2.2.1
theorem dX8_tries_103 : decode cX8_tries 103 = .ok (.iconst 0, 1) := bX8_tries_85.2.2.2.2.2.2.2.2.2.2.1
theorem dX8_tries_104 : decode cX8_tries 104 = .ok (.istore 8, 2) := bX8_tries_85.2.2.2.2.2.2.2.2.2.2.2.1
theorem dX8_tries_106 : decode cX8_tries 106 = .ok (.iconst 0, 1) := bX8_tries_85.2.2.2.2.2.2.2.2.2.2.2.2.1
theorem dX8_tries_107 : decode cX8_tries 107 = .ok (.istore 9, 2) := bX8_tries_85.2.2.2.2.2.2.2.2.2.2.2.2.2.1
theorem dX8_tries_109 : decode cX8_tries 109 = .ok (.iload 9, 2) := bX8_tries_85.2.2.2.2.2.2.2.2.2.2.2.2.2.2.1
theorem dX8_tries_111 : decode cX8_tries 111 = .ok (.iconst 4, 1) := bX8_tries_85.2.2.2.2.2.2.2.2.2.2.2.2.2.2.2
theorem bX8_tries_112 : (decode cX8_tries 112 = .ok (.if_icmp .ge 136, 3)) ∧ (decode cX8_tries 115 = .ok (.iload 9, 2)) ∧ (decode cX8_tries 117 = .ok (.iconst 0, 1)) ∧ (decode cX8_tries 118 = .ok (.invokestatic 61, 3)) ∧ (decode cX8_tries 121 = .ok (.istore 10, 2)) ∧ (decode cX8_tries 123 = .ok (.iload 9, 2)) ∧ (decode cX8_tries 125 = .ok (.iconst 1, 1)) ∧ (decode cX8_tries 126 = .ok (.invokestatic 61, 3)) ∧ (decode cX8_tries 129 = .ok (.istore 11, 2)) ∧ (decode cX8_tries 131 = .ok (.iload 10, 2)) ∧ (decode cX8_tries 133 = .ok (.iload 11, 2)) ∧ (decode cX8_tries 135 = .ok (.iload 5, 2)) ∧ (decode cX8_tries 137 = .ok (.iload 6, 2)) ∧ (decode cX8_tries 139 = .ok (.iload 7, 2)) ∧ (decode cX8_tries 141 = .ok (.invokestatic 224, 3)) ∧ (decode cX8_tries 144 = .ok (.iload 10, 2)) := by decide +kernel
theorem dX8_tries_112 : decode cX8_tries 112 = .ok (.if_icmp .ge 136, 3) := bX8_tries_112.1
theorem dX8_tries_115 : decode cX8_tries 115 = .ok (.iload 9, 2) := bX8_tries_112.2.1
theorem dX8_tries_117 : decode cX8_tries 117 = .ok (.iconst 0, 1) := bX8_tries_112.2.2.1
theorem dX8_tries_118 : decode cX8_tries 118 = .ok (.invokestatic 61, 3) := bX8_tries_112.2.2.2.1
theorem dX8_tries_121 : decode cX8_tries 121 = .ok (.istore 10, 2) := bX8_tries_112.2.2.2.2.1
theorem dX8_tries_123 : decode cX8_tries 123 = .ok (.iload 9, 2) := bX8_tries_112.2.2.2.2.2.1
theorem dX8_tries_125 : decode cX8_tries 125 = .ok (.iconst 1, 1) := bX8_tries_112.2.2.2.2.2.2.1
theorem dX8_tries_126 : decode cX8_tries 126 = .ok (.invokestatic 61, 3) := bX8_tries_112.2.2.2.2.2.2.2.1
theorem dX8_tries_129 : decode cX8_tries 129 = .ok (.istore 11, 2) := bX8_tries_112.2.2.2.2.2.2.2.2.1
theorem dX8_tries_131 : decode cX8_tries 131 = .ok (.iload 10, 2) := bX8_tries_112.2.2.2.2.2.2.2.2.2.1
theorem dX8_tries_133 : decode cX8_tries 133 = .ok (.iload 11, 2) := bX8_tries_112.2.2.2.2.2.2.2.2.2.2.1
theorem dX8_tries_135 : decode cX8_tries 135 = .ok (.iload 5, 2) := bX8_tries_112.2.2.2.2.2.2.2.2.2.2.2.1
theorem dX8_tries_137 : decode cX8_tries 137 = .ok (.iload 6, 2) := bX8_tries_112.2.2.2.2.2.2.2.2.2.2.2.2.1
theorem dX8_tries_139 : decode cX8_tries 139 = .ok (.iload 7, 2) := bX8_tries_112.2.2.2.2.2.2.2.2.2.2.2.2.2.1
theorem dX8_tries_141 : decode cX8_tries 141 = .ok (.invokestatic 224, 3) := bX8_tries_112.2.2.2.2.2.2.2.2.2.2.2.2.2.2.1
theorem dX8_tries_144 : decode cX8_tries 144 = .ok (.iload 10, 2) := bX8_tries_112.2.2.2.2.2.2.2.2.2.2.2.2.2.2.2
theorem bX8_tries_146 : (decode cX8_tries 146 = .ok (.ifCond .ne 7, 3)) ∧ (decode cX8_tries 149 = .ok (.iconst 1, 1)) ∧ (decode cX8_tries 150 = .ok (.goto 4, 3)) ∧ (decode cX8_tries 153 = .ok (.iconst 0, 1)) ∧ (decode cX8_tries 154 = .ok (.iload 11, 2)) ∧ (decode cX8_tries 156 = .ok (.iload 5, 2)) ∧ (decode cX8_tries 158 = .ok (.iload 6, 2)) ∧ (decode cX8_tries 160 = .ok (.iload 7, 2)) ∧ (decode cX8_tries 162 = .ok (.invokestatic 224, 3)) ∧ (decode cX8_tries 165 = .ok (.if_icmp .lt 7, 3)) ∧ (decode cX8_tries 168 = .ok (.iconst 1, 1)) ∧ (decode cX8_tries 169 = .ok (.goto 4, 3)) ∧ (decode cX8_tries 172 = .ok (.iconst 0, 1)) ∧ (decode cX8_tries 173 = .ok (.istore 12, 2)) ∧ (decode cX8_tries 175 = .ok (.iload 12, 2)) ∧ (decode cX8_tries 177 = .ok (.ifCond .eq 44, 3)) := by decide +kernel
theorem dX8_tries_146 : decode cX8_tries 146 = .ok (.ifCond .ne 7, 3) := bX8_tries_146.1
theorem dX8_tries_149 : decode cX8_tries 149 = .ok (.iconst 1, 1) := bX8_tries_146.2.1
theorem dX8_tries_150 : decode cX8_tries 150 = .ok (.goto 4, 3) := bX8_tries_146.2.2.1
theorem dX8_tries_153 : decode cX8_tries 153 = .ok (.iconst 0, 1) := bX8_tries_146.2.2.2.1
theorem dX8_tries_154 : decode cX8_tries 154 = .ok (.iload 11, 2) := bX8_tries_146.2.2.2.2.1
theorem dX8_tries_156 : decode cX8_tries 156 = .ok (.iload 5, 2) := bX8_tries_146.2.2.2.2.2.1
theorem dX8_tries_158 : decode cX8_tries 158 = .ok (.iload 6, 2) := bX8_tries_146.2.2.2.2.2.2.1
theorem dX8_tries_160 : decode cX8_tries 160 = .ok (.iload 7, 2) := bX8_tries_146.2.2.2.2.2.2.2.1
theorem dX8_tries_162 : decode cX8_tries 162 = .ok (.invokestatic 224, 3) := bX8_tries_146.2.2.2.2.2.2.2.2.1
theorem dX8_tries_165 : decode cX8_tries 165 = .ok (.if_icmp .lt 7, 3) := bX8_tries_146.2.2.2.2.2.2.2.2.2.1
theorem dX8_tries_168 : decode cX8_tries 168 = .ok (.iconst 1, 1) := bX8_tries_146.2.2.2.2.2.2.2.2.2.2.1
theorem dX8_tries_169 : decode cX8_tries 169 = .ok (.goto 4, 3) := bX8_tries_146.2.2.2.2.2.2.2.2.2.2.2.1
theorem dX8_tries_172 : decode cX8_tries 172 = .ok (.iconst 0, 1) := bX8_tries_146.2.2.2.2.2.2.2.2.2.2.2.2.1
theorem dX8_tries_173 : decode cX8_tries 173 = .ok (.istore 12, 2) := bX8_tries_146.2.2.2.2.2.2.2.2.2.2.2.2.2.1
theorem dX8_tries_175 : decode cX8_tries 175 = .ok (.iload 12, 2) := bX8_tries_146.2.2.2.2.2.2.2.2.2.2.2.2.2.2.1
theorem dX8_tries_177 : decode cX8_tries 177 = .ok (.ifCond .eq 44, 3) := bX8_tries_146.2.2.2.2.2.2.2.2.2.2.2.2.2.2.2
theorem bX8_tries_180 : (decode cX8_tries 180 = .ok (.iload 11, 2)) ∧ (decode cX8_tries 182 = .ok (.iload 10, 2)) ∧ (decode cX8_tries 184 = .ok (.iload 6, 2)) ∧ (decode cX8_tries 186 = .ok (.iload 5, 2)) ∧ (decode cX8_tries 188 = .ok (.iload 7, 2)) ∧ (decode cX8_tries 190 = .ok (.invokestatic 224, 3)) ∧ (decode cX8_tries 193 = .ok (.iload 11, 2)) ∧ (decode cX8_tries 195 = .ok (.ifCond .ne 7, 3)) ∧ (decode cX8_tries 198 = .ok (.iconst 1, 1)) ∧ (decode cX8_tries 199 = .ok (.goto 4, 3)) ∧ (decode cX8_tries 202 = .ok (.iconst 0, 1)) ∧ (decode cX8_tries 203 = .ok (.iload 10, 2)) ∧ (decode cX8_tries 205 = .ok (.iload 6, 2)) ∧ (decode cX8_tries 207 = .ok (.iload 5, 2)) ∧ (decode cX8_tries 209 = .ok (.iload 7, 2)) ∧ (decode cX8_tries 211 = .ok (.invokestatic 224, 3)) := by decide +kernel
theorem dX8_tries_180 : decode cX8_tries 180 = .ok (.iload 11, 2) := bX8_tries_180.1
theorem dX8_tries_182 : decode cX8_tries 182 = .ok (.iload 10, 2) := bX8_tries_180.2.1
theorem dX8_tries_184 : decode cX8_tries 184 = .ok (.iload 6, 2) := bX8_tries_180.2.2.1
theorem dX8_tries_186 : decode cX8_tries 186 = .ok (.iload 5, 2) := bX8_tries_180.2.2.2.1
theorem dX8_tries_188 : decode cX8_tries 188 = .ok (.iload 7, 2) := bX8_tries_180.2.2.2.2.1
theorem dX8_tries_190 : decode cX8_tries 190 = .ok (.invokestatic 224, 3) := bX8_tries_180.2.2.2.2.2.1
theorem dX8_tries_193 : decode cX8_tries 193 = .ok (.iload 11, 2) := bX8_tries_180.2.2.2.2.2.2.1
theorem dX8_tries_195 : decode cX8_tries 195 = .ok (.ifCond .ne 7, 3) := bX8_tries_180.2.2.2.2.2.2.2.1
theorem dX8_tries_198 : decode cX8_tries 198 = .ok (.iconst 1, 1) := bX8_tries_180.2.2.2.2.2.2.2.2.1
theorem dX8_tries_199 : decode cX8_tries 199 = .ok (.goto 4, 3) := bX8_tries_180.2.2.2.2.2.2.2.2.2.1
theorem dX8_tries_202 : decode cX8_tries 202 = .ok (.iconst 0, 1) := bX8_tries_180.2.2.2.2.2.2.2.2.2.2.1
theorem dX8_tries_203 : decode cX8_tries 203 = .ok (.iload 10, 2) := bX8_tries_180.2.2.2.2.2.2.2.2.2.2.2.1
theorem dX8_tries_205 : decode cX8_tries 205 = .ok (.iload 6, 2) := bX8_tries_180.2.2.2.2.2.2.2.2.2.2.2.2.1
theorem dX8_tries_207 : decode cX8_tries 207 = .ok (.iload 5, 2) := bX8_tries_180.2.2.2.2.2.2.2.2.2.2.2.2.2.1
theorem dX8_tries_209 : decode cX8_tries 209 = .ok (.iload 7, 2) := bX8_tries_180.2.2.2.2.2.2.2.2.2.2.2.2.2.2.1
theorem dX8_tries_211 : decode cX8_tries 211 = .ok (.invokestatic 224, 3) := bX8_tries_180.2.2.2.2.2.2.2.2.2.2.2.2.2.2.2
theorem bX8_tries_214 : (decode cX8_tries 214 = .ok (.if_icmp .lt 7, 3)) ∧ (decode cX8_tries 217 = .ok (.iconst 1, 1)) ∧ (decode cX8_tries 218 = .ok (.goto 4, 3)) ∧ (decode cX8_tries 221 = .ok (.iconst 0, 1)) ∧ (decode cX8_tries 222 = .ok (.istore 12, 2)) ∧ (decode cX8_tries 224 = .ok (.iload 8, 2)) ∧ (decode cX8_tries 226 = .ok (.iload 12, 2)) ∧ (decode cX8_tries 228 = .ok (.ifCond .eq 10, 3)) ∧ (decode cX8_tries 231 = .ok (.iconst 1, 1)) ∧ (decode cX8_tries 232 = .ok (.iload 9, 2)) ∧ (decode cX8_tries 234 = .ok (.ishl, 1)) ∧ (decode cX8_tries 235 = .ok (.goto 4, 3)) ∧ (decode cX8_tries 238 = .ok (.iconst 0, 1)) ∧ (decode cX8_tries 239 = .ok (.ior, 1)) ∧ (decode cX8_tries 240 = .ok (.istore 8, 2)) ∧ (decode cX8_tries 242 = .ok (.iinc 9 1, 3)) := by decide +kernel
theorem dX8_tries_214 : decode cX8_tries 214 = .ok (.if_icmp .lt 7, 3) := bX8_tries_214.1
theorem dX8_tries_217 : decode cX8_tries 217 = .ok (.iconst 1, 1) := bX8_tries_214.2.1
theorem dX8_tries_218 : decode cX8_tries 218 = .ok (.goto 4, 3) := bX8_tries_214.2.2.1
theorem dX8_tries_221 : decode cX8_tries 221 = .ok (.iconst 0, 1) := bX8_tries_214.2.2.2.1
theorem dX8_tries_222 : decode cX8_tries 222 = .ok (.istore 12, 2) := bX8_tries_214.2.2.2.2.1
theorem dX8_tries_224 : decode cX8_tries 224 = .ok (.iload 8, 2) := bX8_tries_214.2.2.2.2.2.1
theorem dX8_tries_226 : decode cX8_tries 226 = .ok (.iload 12, 2) := bX8_tries_214.2.2.2.2.2.2.1
theorem dX8_tries_228 : decode cX8_tries 228 = .ok (.ifCond .eq 10, 3) := bX8_tries_214.2.2.2.2.2.2.2.1
theorem dX8_tries_231 : decode cX8_tries 231 = .ok (.iconst 1, 1) := bX8_tries_214.2.2.2.2.2.2.2.2.1
theorem dX8_tries_232 : decode cX8_tries 232 = .ok (.iload 9, 2) := bX8_tries_214.2.2.2.2.2.2.2.2.2.1
theorem dX8_tries_234 : decode cX8_tries 234 = .ok (.ishl, 1) := bX8_tries_214.2.2.2.2.2.2.2.2.2.2.1
theorem dX8_tries_235 : decode cX8_tries 235 = .ok (.goto 4, 3) := bX8_tries_214.2.2.2.2.2.2.2.2.2.2.2.1
theorem dX8_tries_238 : decode cX8_tries 238 = .ok (.iconst 0, 1) := bX8_tries_214.2.2.2.2.2.2.2.2.2.2.2.2.1
theorem dX8_tries_239 : decode cX8_tries 239 = .ok (.ior, 1) := bX8_tries_214.2.2.2.2.2.2.2.2.2.2.2.2.2.1
theorem dX8_tries_240 : decode cX8_tries 240 = .ok (.istore 8, 2) := bX8_tries_214.2.2.2.2.2.2.2.2.2.2.2.2.2.2.1
theorem dX8_tries_242 : decode cX8_tries 242 = .ok (.iinc 9 1, 3) := bX8_tries_214.2.2.2.2.2.2.2.2.2.2.2.2.2.2.2
theorem bX8_tries_245 : (decode cX8_tries 245 = .ok (.goto (-136), 3)) ∧ (decode cX8_tries 248 = .ok (.iload 8, 2)) ∧ (decode cX8_tries 250 = .ok (.ireturn, 1)) := by decide +kernel
theorem dX8_tries_245 : decode cX8_tries 245 = .ok (.goto (-136), 3) := bX8_tries_245.1
theorem dX8_tries_248 : decode cX8_tries 248 = .ok (.iload 8, 2) := bX8_tries_245.2.1
theorem dX8_tries_250 : decode cX8_tries 250 = .ok (.ireturn, 1) := bX8_tries_245.2.2
theorem bX8_fraction_0 : (decode cX8_fraction 0 = .ok (.lload_n 1, 1)) ∧ (decode cX8_fraction 1 = .ok (.lstore 5, 2)) ∧ (decode cX8_fraction 3 = .ok (.lload_n 3, 1)) ∧ (decode cX8_fraction 4 = .ok (.lstore 7, 2)) ∧ (decode cX8_fraction 6 = .ok (.lload 7, 2)) ∧ (decode cX8_fraction 8 = .ok (.lconst 0, 1)) ∧ (decode cX8_fraction 9 = .ok (.lcmp, 1)) ∧ (decode cX8_fraction 10 = .ok (.ifCond .eq 21, 3)) ∧ (decode cX8_fraction 13 = .ok (.lload 5, 2)) ∧ (decode cX8_fraction 15 = .ok (.lload 7, 2)) ∧ (decode cX8_fraction 17 = .ok (.lrem, 1)) ∧ (decode cX8_fraction 18 = .ok (.lstore 9, 2)) ∧ (decode cX8_fraction 20 = .ok (.lload 7, 2)) ∧ (decode cX8_fraction 22 = .ok (.lstore 5, 2)) ∧ (decode cX8_fraction 24 = .ok (.lload 9, 2)) ∧ (decode cX8_fraction 26 = .ok (.lstore 7, 2)) := by decide +kernel
theorem dX8_fraction_0 : decode cX8_fraction 0 = .ok (.lload_n 1, 1) := bX8_fraction_0.1
theorem dX8_fraction_1 : decode cX8_fraction 1 = .ok (.lstore 5, 2) := bX8_fraction_0.2.1
theorem dX8_fraction_3 : decode cX8_fraction 3 = .ok (.lload_n 3, 1) := bX8_fraction_0.2.2.1
theorem dX8_fraction_4 : decode cX8_fraction 4 = .ok (.lstore 7, 2) := bX8_fraction_0.2.2.2.1
theorem dX8_fraction_6 : decode cX8_fraction 6 = .ok (.lload 7, 2) := bX8_fraction_0.2.2.2.2.1
theorem dX8_fraction_8 : decode cX8_fraction 8 = .ok (.lconst 0, 1) := bX8_fraction_0.2.2.2.2.2.1
theorem dX8_fraction_9 : decode cX8_fraction 9 = .ok (.lcmp, 1) := bX8_fraction_0.2.2.2.2.2.2.1
theorem dX8_fraction_10 : decode cX8_fraction 10 = .ok (.ifCond .eq 21, 3) := bX8_fraction_0.2.2.2.2.2.2.2.1
theorem dX8_fraction_13 : decode cX8_fraction 13 = .ok (.lload 5, 2) := bX8_fraction_0.2.2.2.2.2.2.2.2.1
theorem dX8_fraction_15 : decode cX8_fraction 15 = .ok (.lload 7, 2) := bX8_fraction_0.2.2.2.2.2.2.2.2.2.1
theorem dX8_fraction_17 : decode cX8_fraction 17 = .ok (.lrem, 1) := bX8_fraction_0.2.2.2.2.2.2.2.2.2.2.1
theorem dX8_fraction_18 : decode cX8_fraction 18 = .ok (.lstore 9, 2) := bX8_fraction_0.2.2.2.2.2.2.2.2.2.2.2.1
theorem dX8_fraction_20 : decode cX8_fraction 20 = .ok (.lload 7, 2) := bX8_fraction_0.2.2.2.2.2.2.2.2.2.2.2.2.1
theorem dX8_fraction_22 : decode cX8_fraction 22 = .ok (.lstore 5, 2) := bX8_fraction_0.2.2.2.2.2.2.2.2.2.2.2.2.2.1
theorem dX8_fraction_24 : decode cX8_fraction 24 = .ok (.lload 9, 2) := bX8_fraction_0.2.2.2.2.2.2.2.2.2.2.2.2.2.2.1
theorem dX8_fraction_26 : decode cX8_fraction 26 = .ok (.lstore 7, 2) := bX8_fraction_0.2.2.2.2.2.2.2.2.2.2.2.2.2.2.2
theorem bX8_fraction_28 : (decode cX8_fraction 28 = .ok (.goto (-22), 3)) ∧ (decode cX8_fraction 31 = .ok (.aload_n 0, 1)) ∧ (decode cX8_fraction 32 = .ok (.lload_n 1, 1)) ∧ (decode cX8_fraction 33 = .ok (.lload 5, 2)) ∧ (decode cX8_fraction 35 = .ok (.ldiv, 1)) ∧ (decode cX8_fraction 36 = .ok (.putfield 228, 3)) ∧ (decode cX8_fraction 39 = .ok (.aload_n 0, 1)) ∧ (decode cX8_fraction 40 = .ok (.lload_n 3, 1)) ∧ (decode cX8_fraction 41 = .ok (.lload 5, 2)) ∧ (decode cX8_fraction 43 = .ok (.ldiv, 1)) ∧ (decode cX8_fraction 44 = .ok (.putfield 36, 3)) ∧ (decode cX8_fraction 47 = .ok (.return_, 1)) := by decide +kernel
theorem dX8_fraction_28 : decode cX8_fraction 28 = .ok (.goto (-22), 3) := bX8_fraction_28.1
theorem dX8_fraction_31 : decode cX8_fraction 31 = .ok (.aload_n 0, 1) := bX8_fraction_28.2.1
theorem dX8_fraction_32 : decode cX8_fraction 32 = .ok (.lload_n 1, 1) := bX8_fraction_28.2.2.1
theorem dX8_fraction_33 : decode cX8_fraction 33 = .ok (.lload 5, 2) := bX8_fraction_28.2.2.2.1
theorem dX8_fraction_35 : decode cX8_fraction 35 = .ok (.ldiv, 1) := bX8_fraction_28.2.2.2.2.1
theorem dX8_fraction_36 : decode cX8_fraction 36 = .ok (.putfield 228, 3) := bX8_fraction_28.2.2.2.2.2.1
theorem dX8_fraction_39 : decode cX8_fraction 39 = .ok (.aload_n 0, 1) := bX8_fraction_28.2.2.2.2.2.2.1
theorem dX8_fraction_40 : decode cX8_fraction 40 = .ok (.lload_n 3, 1) := bX8_fraction_28.2.2.2.2.2.2.2.1
theorem dX8_fraction_41 : decode cX8_fraction 41 = .ok (.lload 5, 2) := bX8_fraction_28.2.2.2.2.2.2.2.2.1
theorem dX8_fraction_43 : decode cX8_fraction 43 = .ok (.ldiv, 1) := bX8_fraction_28.2.2.2.2.2.2.2.2.2.1
theorem dX8_fraction_44 : decode cX8_fraction 44 = .ok (.putfield 36, 3) := bX8_fraction_28.2.2.2.2.2.2.2.2.2.2.1
theorem dX8_fraction_47 : decode cX8_fraction 47 = .ok (.return_, 1) := bX8_fraction_28.2.2.2.2.2.2.2.2.2.2.2
theorem bX8_shout_0 : (decode cX8_shout 0 = .ok (.aload_n 0, 1)) ∧ (decode cX8_shout 1 = .ok (.iload_n 1, 1)) ∧ (decode cX8_shout 2 = .ok (.invokevirtual 161, 3)) ∧ (decode cX8_shout 5 = .ok (.ifCond .eq 23, 3)) ∧ (decode cX8_shout 8 = .ok (.iload_n 2, 1)) ∧ (decode cX8_shout 9 = .ok (.iconst 0, 1)) ∧ (decode cX8_shout 10 = .ok (.bipush 6, 2)) ∧ (decode cX8_shout 12 = .ok (.invokestatic 44, 3)) ∧ (decode cX8_shout 15 = .ok (.ifCond .eq 13, 3)) ∧ (decode cX8_shout 18 = .ok (.iload_n 3, 1)) ∧ (decode cX8_shout 19 = .ok (.iconst 0, 1)) ∧ (decode cX8_shout 20 = .ok (.bipush 10, 2)) ∧ (decode cX8_shout 22 = .ok (.invokestatic 44, 3)) ∧ (decode cX8_shout 25 = .ok (.ifCond .ne 8, 3)) ∧ (decode cX8_shout 28 = .ok (.aload_n 0, 1)) ∧ (decode cX8_shout 29 = .ok (.invokevirtual 69, 3)) := by decide +kernel
theorem dX8_shout_0 : decode cX8_shout 0 = .ok (.aload_n 0, 1) := bX8_shout_0.1
theorem dX8_shout_1 : decode cX8_shout 1 = .ok (.iload_n 1, 1) := bX8_shout_0.2.1
theorem dX8_shout_2 : decode cX8_shout 2 = .ok (.invokevirtual 161, 3) := bX8_shout_0.2.2.1
theorem dX8_shout_5 : decode cX8_shout 5 = .ok (.ifCond .eq 23, 3) := bX8_shout_0.2.2.2.1
theorem dX8_shout_8 : decode cX8_shout 8 = .ok (.iload_n 2, 1) := bX8_shout_0.2.2.2.2.1
theorem dX8_shout_9 : decode cX8_shout 9 = .ok (.iconst 0, 1) := bX8_shout_0.2.2.2.2.2.1
theorem dX8_shout_10 : decode cX8_shout 10 = .ok (.bipush 6, 2) := bX8_shout_0.2.2.2.2.2.2.1
theorem dX8_shout_12 : decode cX8_shout 12 = .ok (.invokestatic 44, 3) := bX8_shout_0.2.2.2.2.2.2.2.1
theorem dX8_shout_15 : decode cX8_shout 15 = .ok (.ifCond .eq 13, 3) := bX8_shout_0.2.2.2.2.2.2.2.2.1
theorem dX8_shout_18 : decode cX8_shout 18 = .ok (.iload_n 3, 1) := bX8_shout_0.2.2.2.2.2.2.2.2.2.1
theorem dX8_shout_19 : decode cX8_shout 19 = .ok (.iconst 0, 1) := bX8_shout_0.2.2.2.2.2.2.2.2.2.2.1
theorem dX8_shout_20 : decode cX8_shout 20 = .ok (.bipush 10, 2) := bX8_shout_0.2.2.2.2.2.2.2.2.2.2.2.1
theorem dX8_shout_22 : decode cX8_shout 22 = .ok (.invokestatic 44, 3) := bX8_shout_0.2.2.2.2.2.2.2.2.2.2.2.2.1
theorem dX8_shout_25 : decode cX8_shout 25 = .ok (.ifCond .ne 8, 3) := bX8_shout_0.2.2.2.2.2.2.2.2.2.2.2.2.2.1
theorem dX8_shout_28 : decode cX8_shout 28 = .ok (.aload_n 0, 1) := bX8_shout_0.2.2.2.2.2.2.2.2.2.2.2.2.2.2.1
theorem dX8_shout_29 : decode cX8_shout 29 = .ok (.invokevirtual 69, 3) := bX8_shout_0.2.2.2.2.2.2.2.2.2.2.2.2.2.2.2
theorem bX8_shout_32 : (decode cX8_shout 32 = .ok (.ireturn, 1)) ∧ (decode cX8_shout 33 = .ok (.aload_n 0, 1)) ∧ (decode cX8_shout 34 = .ok (.iload_n 1, 1)) ∧ (decode cX8_shout 35 = .ok (.invokevirtual 167, 3)) ∧ (decode cX8_shout 38 = .ok (.ifCond .eq 8, 3)) ∧ (decode cX8_shout 41 = .ok (.aload_n 0, 1)) ∧ (decode cX8_shout 42 = .ok (.invokevirtual 170, 3)) ∧ (decode cX8_shout 45 = .ok (.ireturn, 1)) ∧ (decode cX8_shout 46 = .ok (.aload_n 0, 1)) ∧ (decode cX8_shout 47 = .ok (.getfield 13, 3)) ∧ (decode cX8_shout 50 = .ok (.bipush 43, 2)) ∧ (decode cX8_shout 52 = .ok (.iload_n 1, 1)) ∧ (decode cX8_shout 53 = .ok (.iadd, 1)) ∧ (decode cX8_shout 54 = .ok (.iaload, 1)) ∧ (decode cX8_shout 55 = .ok (.istore 4, 2)) ∧ (decode cX8_shout 57 = .ok (.lconst 1, 1)) := by decide +kernel
theorem dX8_shout_32 : decode cX8_shout 32 = .ok (.ireturn, 1) := bX8_shout_32.1
theorem dX8_shout_33 : decode cX8_shout 33 = .ok (.aload_n 0, 1) := bX8_shout_32.2.1
theorem dX8_shout_34 : decode cX8_shout 34 = .ok (.iload_n 1, 1) := bX8_shout_32.2.2.1
theorem dX8_shout_35 : decode cX8_shout 35 = .ok (.invokevirtual 167, 3) := bX8_shout_32.2.2.2.1
theorem dX8_shout_38 : decode cX8_shout 38 = .ok (.ifCond .eq 8, 3) := bX8_shout_32.2.2.2.2.1
theorem dX8_shout_41 : decode cX8_shout 41 = .ok (.aload_n 0, 1) := bX8_shout_32.2.2.2.2.2.1
theorem dX8_shout_42 : decode cX8_shout 42 = .ok (.invokevirtual 170, 3) := bX8_shout_32.2.2.2.2.2.2.1
theorem dX8_shout_45 : decode cX8_shout 45 = .ok (.ireturn, 1) := bX8_shout_32.2.2.2.2.2.2.2.1
theorem dX8_shout_46 : decode cX8_shout 46 = .ok (.aload_n 0, 1) := bX8_shout_32.2.2.2.2.2.2.2.2.1
theorem dX8_shout_47 : decode cX8_shout 47 = .ok (.getfield 13, 3) := bX8_shout_32.2.2.2.2.2.2.2.2.2.1
theorem dX8_shout_50 : decode cX8_shout 50 = .ok (.bipush 43, 2) := bX8_shout_32.2.2.2.2.2.2.2.2.2.2.1
theorem dX8_shout_52 : decode cX8_shout 52 = .ok (.iload_n 1, 1) := bX8_shout_32.2.2.2.2.2.2.2.2.2.2.2.1
theorem dX8_shout_53 : decode cX8_shout 53 = .ok (.iadd, 1) := bX8_shout_32.2.2.2.2.2.2.2.2.2.2.2.2.1
theorem dX8_shout_54 : decode cX8_shout 54 = .ok (.iaload, 1) := bX8_shout_32.2.2.2.2.2.2.2.2.2.2.2.2.2.1
theorem dX8_shout_55 : decode cX8_shout 55 = .ok (.istore 4, 2) := bX8_shout_32.2.2.2.2.2.2.2.2.2.2.2.2.2.2.1
theorem dX8_shout_57 : decode cX8_shout 57 = .ok (.lconst 1, 1) := bX8_shout_32.2.2.2.2.2.2.2.2.2.2.2.2.2.2.2
theorem bX8_shout_58 : (decode cX8_shout 58 = .ok (.lstore 5, 2)) ∧ (decode cX8_shout 60 = .ok (.lconst 1, 1)) ∧ (decode cX8_shout 61 = .ok (.lstore 7, 2)) ∧ (decode cX8_shout 63 = .ok (.iconst 0, 1)) ∧ (decode cX8_shout 64 = .ok (.istore 9, 2)) ∧ (decode cX8_shout 66 = .ok (.iload 9, 2)) ∧ (decode cX8_shout 68 = .ok (.iload_n 2, 1)) ∧ (decode cX8_shout 69 = .ok (.if_icmp .ge 77, 3)) ∧ (decode cX8_shout 72 = .ok (.iload 4, 2)) ∧ (decode cX8_shout 74 = .ok (.iconst (-1), 1)) ∧ (decode cX8_shout 75 = .ok (.if_icmp .ne 7, 3)) ∧ (decode cX8_shout 78 = .ok (.iconst 0, 1)) ∧ (decode cX8_shout 79 = .ok (.goto 19, 3)) ∧ (decode cX8_shout 82 = .ok (.aload_n 0, 1)) ∧ (decode cX8_shout 83 = .ok (.iload 4, 2)) ∧ (decode cX8_shout 85 = .ok (.iload 9, 2)) := by decide +kernel
theorem dX8_shout_58 : decode cX8_shout 58 = .ok (.lstore 5, 2) := bX8_shout_58.1
theorem dX8_shout_60 : decode cX8_shout 60 = .ok (.lconst 1, 1) := bX8_shout_58.2.1
theorem dX8_shout_61 : decode cX8_shout 61 = .ok (.lstore 7, 2) := bX8_shout_58.2.2.1
theorem dX8_shout_63 : decode cX8_shout 63 = .ok (.iconst 0, 1) := bX8_shout_58.2.2.2.1
theorem dX8_shout_64 : decode cX8_shout 64 = .ok (.istore 9, 2) := bX8_shout_58.2.2.2.2.1
theorem dX8_shout_66 : decode cX8_shout 66 = .ok (.iload 9, 2) := bX8_shout_58.2.2.2.2.2.1
theorem dX8_shout_68 : decode cX8_shout 68 = .ok (.iload_n 2, 1) := bX8_shout_58.2.2.2.2.2.2.1
theorem dX8_shout_69 : decode cX8_shout 69 = .ok (.if_icmp .ge 77, 3) := bX8_shout_58.2.2.2.2.2.2.2.1
theorem dX8_shout_72 : decode cX8_shout 72 = .ok (.iload 4, 2) := bX8_shout_58.2.2.2.2.2.2.2.2.1
theorem dX8_shout_74 : decode cX8_shout 74 = .ok (.iconst (-1), 1) := bX8_shout_58.2.2.2.2.2.2.2.2.2.1
theorem dX8_shout_75 : decode cX8_shout 75 = .ok (.if_icmp .ne 7, 3) := bX8_shout_58.2.2.2.2.2.2.2.2.2.2.1
theorem dX8_shout_78 : decode cX8_shout 78 = .ok (.iconst 0, 1) := bX8_shout_58.2.2.2.2.2.2.2.2.2.2.2.1
theorem dX8_shout_79 : decode cX8_shout 79 = .ok (.goto 19, 3) := bX8_shout_58.2.2.2.2.2.2.2.2.2.2.2.2.1
theorem dX8_shout_82 : decode cX8_shout 82 = .ok (.aload_n 0, 1) := bX8_shout_58.2.2.2.2.2.2.2.2.2.2.2.2.2.1
theorem dX8_shout_83 : decode cX8_shout 83 = .ok (.iload 4, 2) := bX8_shout_58.2.2.2.2.2.2.2.2.2.2.2.2.2.2.1
theorem dX8_shout_85 : decode cX8_shout 85 = .ok (.iload 9, 2) := bX8_shout_58.2.2.2.2.2.2.2.2.2.2.2.2.2.2.2
theorem bX8_shout_87 : (decode cX8_shout 87 = .ok (.invokevirtual 193, 3)) ∧ (decode cX8_shout 90 = .ok (.aload_n 0, 1)) ∧ (decode cX8_shout 91 = .ok (.iload_n 1, 1)) ∧ (decode cX8_shout 92 = .ok (.iload 9, 2)) ∧ (decode cX8_shout 94 = .ok (.invokevirtual 190, 3)) ∧ (decode cX8_shout 97 = .ok (.isub, 1)) ∧ (decode cX8_shout 98 = .ok (.istore 10, 2)) ∧ (decode cX8_shout 100 = .ok (.lload 5, 2)) ∧ (decode cX8_shout 102 = .ok (.iload 10, 2)) ∧ (decode cX8_shout 104 = .ok (.iconst 5, 1)) ∧ (decode cX8_shout 105 = .ok (.if_icmp .le 9, 3)) ∧ (decode cX8_shout 108 = .ok (.ldc2_w 231, 3)) ∧ (decode cX8_shout 111 = .ok (.goto 18, 3)) ∧ (decode cX8_shout 114 = .ok (.iload 10, 2)) ∧ (decode cX8_shout 116 = .ok (.ifCond .le 12, 3)) ∧ (decode cX8_shout 119 = .ok (.ldc2_w 231, 3)) := by decide +kernel
theorem dX8_shout_87 : decode cX8_shout 87 = .ok (.invokevirtual 193, 3) := bX8_shout_87.1
theorem dX8_shout_90 : decode cX8_shout 90 = .ok (.aload_n 0, 1) := bX8_shout_87.2.1
theorem dX8_shout_91 : decode cX8_shout 91 = .ok (.iload_n 1, 1) := bX8_shout_87.2.2.1
theorem dX8_shout_92 : decode cX8_shout 92 = .ok (.iload 9, 2) := bX8_shout_87.2.2.2.1
theorem dX8_shout_94 : decode cX8_shout 94 = .ok (.invokevirtual 190, 3) := bX8_shout_87.2.2.2.2.1
theorem dX8_shout_97 : decode cX8_shout 97 = .ok (.isub, 1) := bX8_shout_87.2.2.2.2.2.1
theorem dX8_shout_98 : decode cX8_shout 98 = .ok (.istore 10, 2) := bX8_shout_87.2.2.2.2.2.2.1
theorem dX8_shout_100 : decode cX8_shout 100 = .ok (.lload 5, 2) := bX8_shout_87.2.2.2.2.2.2.2.1
theorem dX8_shout_102 : decode cX8_shout 102 = .ok (.iload 10, 2) := bX8_shout_87.2.2.2.2.2.2.2.2.1
theorem dX8_shout_104 : decode cX8_shout 104 = .ok (.iconst 5, 1) := bX8_shout_87.2.2.2.2.2.2.2.2.2.1
theorem dX8_shout_105 : decode cX8_shout 105 = .ok (.if_icmp .le 9, 3) := bX8_shout_87.2.2.2.2.2.2.2.2.2.2.1
theorem dX8_shout_108 : decode cX8_shout 108 = .ok (.ldc2_w 231, 3) := bX8_shout_87.2.2.2.2.2.2.2.2.2.2.2.1
theorem dX8_shout_111 : decode cX8_shout 111 = .ok (.goto 18, 3) := bX8_shout_87.2.2.2.2.2.2.2.2.2.2.2.2.1
theorem dX8_shout_114 : decode cX8_shout 114 = .ok (.iload 10, 2) := bX8_shout_87.2.2.2.2.2.2.2.2.2.2.2.2.2.1
theorem dX8_shout_116 : decode cX8_shout 116 = .ok (.ifCond .le 12, 3) := bX8_shout_87.2.2.2.2.2.2.2.2.2.2.2.2.2.2.1
theorem dX8_shout_119 : decode cX8_shout 119 = .ok (.ldc2_w 231, 3) := bX8_shout_87.2.2.2.2.2.2.2.2.2.2.2.2.2.2.2
theorem bX8_shout_122 : (decode cX8_shout 122 = .ok (.iload_n 3, 1)) ∧ (decode cX8_shout 123 = .ok (.i2l, 1)) ∧ (decode cX8_shout 124 = .ok (.lsub, 1)) ∧ (decode cX8_shout 125 = .ok (.goto 4, 3)) ∧ (decode cX8_shout 128 = .ok (.lconst 0, 1)) ∧ (decode cX8_shout 129 = .ok (.lmul, 1)) ∧ (decode cX8_shout 130 = .ok (.lstore 5, 2)) ∧ (decode cX8_shout 132 = .ok (.lload 7, 2)) ∧ (decode cX8_shout 134 = .ok (.ldc2_w 231, 3)) ∧ (decode cX8_shout 137 = .ok (.lmul, 1)) ∧ (decode cX8_shout 138 = .ok (.lstore 7, 2)) ∧ (decode cX8_shout 140 = .ok (.iinc 9 1, 3)) ∧ (decode cX8_shout 143 = .ok (.goto (-77), 3)) ∧ (decode cX8_shout 146 = .ok (.aload_n 0, 1)) ∧ (decode cX8_shout 147 = .ok (.lload 5, 2)) ∧ (decode cX8_shout 149 = .ok (.lload 7, 2)) := by decide +kernel
theorem dX8_shout_122 : decode cX8_shout 122 = .ok (.iload_n 3, 1) := bX8_shout_122.1
theorem dX8_shout_123 : decode cX8_shout 123 = .ok (.i2l, 1) := bX8_shout_122.2.1
theorem dX8_shout_124 : decode cX8_shout 124 = .ok (.lsub, 1) := bX8_shout_122.2.2.1
theorem dX8_shout_125 : decode cX8_shout 125 = .ok (.goto 4, 3) := bX8_shout_122.2.2.2.1
theorem dX8_shout_128 : decode cX8_shout 128 = .ok (.lconst 0, 1) := bX8_shout_122.2.2.2.2.1
theorem dX8_shout_129 : decode cX8_shout 129 = .ok (.lmul, 1) := bX8_shout_122.2.2.2.2.2.1
theorem dX8_shout_130 : decode cX8_shout 130 = .ok (.lstore 5, 2) := bX8_shout_122.2.2.2.2.2.2.1
theorem dX8_shout_132 : decode cX8_shout 132 = .ok (.lload 7, 2) := bX8_shout_122.2.2.2.2.2.2.2.1
theorem dX8_shout_134 : decode cX8_shout 134 = .ok (.ldc2_w 231, 3) := bX8_shout_122.2.2.2.2.2.2.2.2.1
theorem dX8_shout_137 : decode cX8_shout 137 = .ok (.lmul, 1) := bX8_shout_122.2.2.2.2.2.2.2.2.2.1
theorem dX8_shout_138 : decode cX8_shout 138 = .ok (.lstore 7, 2) := bX8_shout_122.2.2.2.2.2.2.2.2.2.2.1
theorem dX8_shout_140 : decode cX8_shout 140 = .ok (.iinc 9 1, 3) := bX8_shout_122.2.2.2.2.2.2.2.2.2.2.2.1
theorem dX8_shout_143 : decode cX8_shout 143 = .ok (.goto (-77), 3) := bX8_shout_122.2.2.2.2.2.2.2.2.2.2.2.2.1
theorem dX8_shout_146 : decode cX8_shout 146 = .ok (.aload_n 0, 1) := bX8_shout_122.2.2.2.2.2.2.2.2.2.2.2.2.2.1
theorem dX8_shout_147 : decode cX8_shout 147 = .ok (.lload 5, 2) := bX8_shout_122.2.2.2.2.2.2.2.2.2.2.2.2.2.2.1
theorem dX8_shout_149 : decode cX8_shout 149 = .ok (.lload 7, 2) := bX8_shout_122.2.2.2.2.2.2.2.2.2.2.2.2.2.2.2
theorem bX8_shout_151 : (decode cX8_shout 151 = .ok (.invokevirtual 233, 3)) ∧ (decode cX8_shout 154 = .ok (.iconst 1, 1)) ∧ (decode cX8_shout 155 = .ok (.ireturn, 1)) := by decide +kernel
theorem dX8_shout_151 : decode cX8_shout 151 = .ok (.invokevirtual 233, 3) := bX8_shout_151.1
theorem dX8_shout_154 : decode cX8_shout 154 = .ok (.iconst 1, 1) := bX8_shout_151.2.1
theorem dX8_shout_155 : decode cX8_shout 155 = .ok (.ireturn, 1) := bX8_shout_151.2.2
theorem bX8_centuries_0 : (decode cX8_centuries 0 = .ok (.iload_n 1, 1)) ∧ (decode cX8_centuries 1 = .ok (.iconst 0, 1)) ∧ (decode cX8_centuries 2 = .ok (.ldc 237, 2)) ∧ (decode cX8_centuries 4 = .ok (.invokestatic 44, 3)) ∧ (decode cX8_centuries 7 = .ok (.ifCond .eq 13, 3)) ∧ (decode cX8_centuries 10 = .ok (.iload_n 2, 1)) ∧ (decode cX8_centuries 11 = .ok (.iconst 0, 1)) ∧ (decode cX8_centuries 12 = .ok (.bipush 60, 2)) ∧ (decode cX8_centuries 14 = .ok (.invokestatic 44, 3)) ∧ (decode cX8_centuries 17 = .ok (.ifCond .ne 8, 3)) ∧ (decode cX8_centuries 20 = .ok (.aload_n 0, 1)) ∧ (decode cX8_centuries 21 = .ok (.invokevirtual 69, 3)) ∧ (decode cX8_centuries 24 = .ok (.ireturn, 1)) ∧ (decode cX8_centuries 25 = .ok (.aload_n 0, 1)) ∧ (decode cX8_centuries 26 = .ok (.invokevirtual 196, 3)) ∧ (decode cX8_centuries 29 = .ok (.iload_n 1, 1)) := by decide +kernel
theorem dX8_centuries_0 : decode cX8_centuries 0 = .ok (.iload_n 1, 1) := bX8_centuries_0.1
theorem dX8_centuries_1 : decode cX8_centuries 1 = .ok (.iconst 0, 1) := bX8_centuries_0.2.1
theorem dX8_centuries_2 : decode cX8_centuries 2 = .ok (.ldc 237, 2) := bX8_centuries_0.2.2.1
theorem dX8_centuries_4 : decode cX8_centuries 4 = .ok (.invokestatic 44, 3) := bX8_centuries_0.2.2.2.1
theorem dX8_centuries_7 : decode cX8_centuries 7 = .ok (.ifCond .eq 13, 3) := bX8_centuries_0.2.2.2.2.1
theorem dX8_centuries_10 : decode cX8_centuries 10 = .ok (.iload_n 2, 1) := bX8_centuries_0.2.2.2.2.2.1
theorem dX8_centuries_11 : decode cX8_centuries 11 = .ok (.iconst 0, 1) := bX8_centuries_0.2.2.2.2.2.2.1
theorem dX8_centuries_12 : decode cX8_centuries 12 = .ok (.bipush 60, 2) := bX8_centuries_0.2.2.2.2.2.2.2.1
theorem dX8_centuries_14 : decode cX8_centuries 14 = .ok (.invokestatic 44, 3) := bX8_centuries_0.2.2.2.2.2.2.2.2.1
theorem dX8_centuries_17 : decode cX8_centuries 17 = .ok (.ifCond .ne 8, 3) := bX8_centuries_0.2.2.2.2.2.2.2.2.2.1
theorem dX8_centuries_20 : decode cX8_centuries 20 = .ok (.aload_n 0, 1) := bX8_centuries_0.2.2.2.2.2.2.2.2.2.2.1
theorem dX8_centuries_21 : decode cX8_centuries 21 = .ok (.invokevirtual 69, 3) := bX8_centuries_0.2.2.2.2.2.2.2.2.2.2.2.1
theorem dX8_centuries_24 : decode cX8_centuries 24 = .ok (.ireturn, 1) := bX8_centuries_0.2.2.2.2.2.2.2.2.2.2.2.2.1
theorem dX8_centuries_25 : decode cX8_centuries 25 = .ok (.aload_n 0, 1) := bX8_centuries_0.2.2.2.2.2.2.2.2.2.2.2.2.2.1
theorem dX8_centuries_26 : decode cX8_centuries 26 = .ok (.invokevirtual 196, 3) := bX8_centuries_0.2.2.2.2.2.2.2.2.2.2.2.2.2.2.1
theorem dX8_centuries_29 : decode cX8_centuries 29 = .ok (.iload_n 1, 1) := bX8_centuries_0.2.2.2.2.2.2.2.2.2.2.2.2.2.2.2
theorem bX8_centuries_30 : (decode cX8_centuries 30 = .ok (.i2l, 1)) ∧ (decode cX8_centuries 31 = .ok (.lstore_n 3, 1)) ∧ (decode cX8_centuries 32 = .ok (.iconst 0, 1)) ∧ (decode cX8_centuries 33 = .ok (.istore 5, 2)) ∧ (decode cX8_centuries 35 = .ok (.iload 5, 2)) ∧ (decode cX8_centuries 37 = .ok (.iload_n 2, 1)) ∧ (decode cX8_centuries 38 = .ok (.if_icmp .ge 143, 3)) ∧ (decode cX8_centuries 41 = .ok (.lload_n 3, 1)) ∧ (decode cX8_centuries 42 = .ok (.ldc2_w 238, 3)) ∧ (decode cX8_centuries 45 = .ok (.lmul, 1)) ∧ (decode cX8_centuries 46 = .ok (.ldc2_w 240, 3)) ∧ (decode cX8_centuries 49 = .ok (.ladd, 1)) ∧ (decode cX8_centuries 50 = .ok (.ldc2_w 242, 3)) ∧ (decode cX8_centuries 53 = .ok (.lrem, 1)) ∧ (decode cX8_centuries 54 = .ok (.lstore_n 3, 1)) ∧ (decode cX8_centuries 55 = .ok (.lload_n 3, 1)) := by decide +kernel
theorem dX8_centuries_30 : decode cX8_centuries 30 = .ok (.i2l, 1) := bX8_centuries_30.1
theorem dX8_centuries_31 : decode cX8_centuries 31 = .ok (.lstore_n 3, 1) := bX8_centuries_30.2.1
theorem dX8_centuries_32 : decode cX8_centuries 32 = .ok (.iconst 0, 1) := bX8_centuries_30.2.2.1
theorem dX8_centuries_33 : decode cX8_centuries 33 = .ok (.istore 5, 2) := bX8_centuries_30.2.2.2.1
theorem dX8_centuries_35 : decode cX8_centuries 35 = .ok (.iload 5, 2) := bX8_centuries_30.2.2.2.2.1
theorem dX8_centuries_37 : decode cX8_centuries 37 = .ok (.iload_n 2, 1) := bX8_centuries_30.2.2.2.2.2.1
theorem dX8_centuries_38 : decode cX8_centuries 38 = .ok (.if_icmp .ge 143, 3) := bX8_centuries_30.2.2.2.2.2.2.1
theorem dX8_centuries_41 : decode cX8_centuries 41 = .ok (.lload_n 3, 1) := bX8_centuries_30.2.2.2.2.2.2.2.1
theorem dX8_centuries_42 : decode cX8_centuries 42 = .ok (.ldc2_w 238, 3) := bX8_centuries_30.2.2.2.2.2.2.2.2.1
theorem dX8_centuries_45 : decode cX8_centuries 45 = .ok (.lmul, 1) := bX8_centuries_30.2.2.2.2.2.2.2.2.2.1
theorem dX8_centuries_46 : decode cX8_centuries 46 = .ok (.ldc2_w 240, 3) := bX8_centuries_30.2.2.2.2.2.2.2.2.2.2.1
theorem dX8_centuries_49 : decode cX8_centuries 49 = .ok (.ladd, 1) := bX8_centuries_30.2.2.2.2.2.2.2.2.2.2.2.1
theorem dX8_centuries_50 : decode cX8_centuries 50 = .ok (.ldc2_w 242, 3) := bX8_centuries_30.2.2.2.2.2.2.2.2.2.2.2.2.1
theorem dX8_centuries_53 : decode cX8_centuries 53 = .ok (.lrem, 1) := bX8_centuries_30.2.2.2.2.2.2.2.2.2.2.2.2.2.1
theorem dX8_centuries_54 : decode cX8_centuries 54 = .ok (.lstore_n 3, 1) := bX8_centuries_30.2.2.2.2.2.2.2.2.2.2.2.2.2.2.1
theorem dX8_centuries_55 : decode cX8_centuries 55 = .ok (.lload_n 3, 1) := bX8_centuries_30.2.2.2.2.2.2.2.2.2.2.2.2.2.2.2
theorem bX8_centuries_56 : (decode cX8_centuries 56 = .ok (.ldc2_w 244, 3)) ∧ (decode cX8_centuries 59 = .ok (.ldiv, 1)) ∧ (decode cX8_centuries 60 = .ok (.ldc2_w 246, 3)) ∧ (decode cX8_centuries 63 = .ok (.lrem, 1)) ∧ (decode cX8_centuries 64 = .ok (.l2i, 1)) ∧ (decode cX8_centuries 65 = .ok (.istore 6, 2)) ∧ (decode cX8_centuries 67 = .ok (.lload_n 3, 1)) ∧ (decode cX8_centuries 68 = .ok (.ldc2_w 248, 3)) ∧ (decode cX8_centuries 71 = .ok (.ldiv, 1)) ∧ (decode cX8_centuries 72 = .ok (.ldc2_w 246, 3)) ∧ (decode cX8_centuries 75 = .ok (.lrem, 1)) ∧ (decode cX8_centuries 76 = .ok (.l2i, 1)) ∧ (decode cX8_centuries 77 = .ok (.istore 7, 2)) ∧ (decode cX8_centuries 79 = .ok (.aload_n 0, 1)) ∧ (decode cX8_centuries 80 = .ok (.iload 6, 2)) ∧ (decode cX8_centuries 82 = .ok (.invokevirtual 161, 3)) := by decide +kernel
theorem dX8_centuries_56 : decode cX8_centuries 56 = .ok (.ldc2_w 244, 3) := bX8_centuries_56.1
theorem dX8_centuries_59 : decode cX8_centuries 59 = .ok (.ldiv, 1) := bX8_centuries_56.2.1
theorem dX8_centuries_60 : decode cX8_centuries 60 = .ok (.ldc2_w 246, 3) := bX8_centuries_56.2.2.1
theorem dX8_centuries_63 : decode cX8_centuries 63 = .ok (.lrem, 1) := bX8_centuries_56.2.2.2.1
theorem dX8_centuries_64 : decode cX8_centuries 64 = .ok (.l2i, 1) := bX8_centuries_56.2.2.2.2.1
theorem dX8_centuries_65 : decode cX8_centuries 65 = .ok (.istore 6, 2) := bX8_centuries_56.2.2.2.2.2.1
theorem dX8_centuries_67 : decode cX8_centuries 67 = .ok (.lload_n 3, 1) := bX8_centuries_56.2.2.2.2.2.2.1
theorem dX8_centuries_68 : decode cX8_centuries 68 = .ok (.ldc2_w 248, 3) := bX8_centuries_56.2.2.2.2.2.2.2.1
theorem dX8_centuries_71 : decode cX8_centuries 71 = .ok (.ldiv, 1) := bX8_centuries_56.2.2.2.2.2.2.2.2.1
theorem dX8_centuries_72 : decode cX8_centuries 72 = .ok (.ldc2_w 246, 3) := bX8_centuries_56.2.2.2.2.2.2.2.2.2.1
theorem dX8_centuries_75 : decode cX8_centuries 75 = .ok (.lrem, 1) := bX8_centuries_56.2.2.2.2.2.2.2.2.2.2.1
theorem dX8_centuries_76 : decode cX8_centuries 76 = .ok (.l2i, 1) := bX8_centuries_56.2.2.2.2.2.2.2.2.2.2.2.1
theorem dX8_centuries_77 : decode cX8_centuries 77 = .ok (.istore 7, 2) := bX8_centuries_56.2.2.2.2.2.2.2.2.2.2.2.2.1
theorem dX8_centuries_79 : decode cX8_centuries 79 = .ok (.aload_n 0, 1) := bX8_centuries_56.2.2.2.2.2.2.2.2.2.2.2.2.2.1
theorem dX8_centuries_80 : decode cX8_centuries 80 = .ok (.iload 6, 2) := bX8_centuries_56.2.2.2.2.2.2.2.2.2.2.2.2.2.2.1
theorem dX8_centuries_82 : decode cX8_centuries 82 = .ok (.invokevirtual 161, 3) := bX8_centuries_56.2.2.2.2.2.2.2.2.2.2.2.2.2.2.2
theorem bX8_centuries_85 : (decode cX8_centuries 85 = .ok (.ifCond .eq 44, 3)) ∧ (decode cX8_centuries 88 = .ok (.aload_n 0, 1)) ∧ (decode cX8_centuries 89 = .ok (.iload 7, 2)) ∧ (decode cX8_centuries 91 = .ok (.invokevirtual 164, 3)) ∧ (decode cX8_centuries 94 = .ok (.ifCond .eq 35, 3)) ∧ (decode cX8_centuries 97 = .ok (.aload_n 0, 1)) ∧ (decode cX8_centuries 98 = .ok (.getfield 20, 3)) ∧ (decode cX8_centuries 101 = .ok (.iconst 1, 1)) ∧ (decode cX8_centuries 102 = .ok (.iaload, 1)) ∧ (decode cX8_centuries 103 = .ok (.iload 6, 2)) ∧ (decode cX8_centuries 105 = .ok (.invokestatic 61, 3)) ∧ (decode cX8_centuries 108 = .ok (.ifCond .ne 21, 3)) ∧ (decode cX8_centuries 111 = .ok (.aload_n 0, 1)) ∧ (decode cX8_centuries 112 = .ok (.getfield 20, 3)) ∧ (decode cX8_centuries 115 = .ok (.bipush 9, 2)) ∧ (decode cX8_centuries 117 = .ok (.iload 6, 2)) := by decide +kernel
theorem dX8_centuries_85 : decode cX8_centuries 85 = .ok (.ifCond .eq 44, 3) := bX8_centuries_85.1
theorem dX8_centuries_88 : decode cX8_centuries 88 = .ok (.aload_n 0, 1) := bX8_centuries_85.2.1
theorem dX8_centuries_89 : decode cX8_centuries 89 = .ok (.iload 7, 2) := bX8_centuries_85.2.2.1
theorem dX8_centuries_91 : decode cX8_centuries 91 = .ok (.invokevirtual 164, 3) := bX8_centuries_85.2.2.2.1
theorem dX8_centuries_94 : decode cX8_centuries 94 = .ok (.ifCond .eq 35, 3) := bX8_centuries_85.2.2.2.2.1
theorem dX8_centuries_97 : decode cX8_centuries 97 = .ok (.aload_n 0, 1) := bX8_centuries_85.2.2.2.2.2.1
theorem dX8_centuries_98 : decode cX8_centuries 98 = .ok (.getfield 20, 3) := bX8_centuries_85.2.2.2.2.2.2.1
theorem dX8_centuries_101 : decode cX8_centuries 101 = .ok (.iconst 1, 1) := bX8_centuries_85.2.2.2.2.2.2.2.1
theorem dX8_centuries_102 : decode cX8_centuries 102 = .ok (.iaload, 1) := bX8_centuries_85.2.2.2.2.2.2.2.2.1
theorem dX8_centuries_103 : decode cX8_centuries 103 = .ok (.iload 6, 2) := bX8_centuries_85.2.2.2.2.2.2.2.2.2.1
theorem dX8_centuries_105 : decode cX8_centuries 105 = .ok (.invokestatic 61, 3) := bX8_centuries_85.2.2.2.2.2.2.2.2.2.2.1
theorem dX8_centuries_108 : decode cX8_centuries 108 = .ok (.ifCond .ne 21, 3) := bX8_centuries_85.2.2.2.2.2.2.2.2.2.2.2.1
theorem dX8_centuries_111 : decode cX8_centuries 111 = .ok (.aload_n 0, 1) := bX8_centuries_85.2.2.2.2.2.2.2.2.2.2.2.2.1
theorem dX8_centuries_112 : decode cX8_centuries 112 = .ok (.getfield 20, 3) := bX8_centuries_85.2.2.2.2.2.2.2.2.2.2.2.2.2.1
theorem dX8_centuries_115 : decode cX8_centuries 115 = .ok (.bipush 9, 2) := bX8_centuries_85.2.2.2.2.2.2.2.2.2.2.2.2.2.2.1
theorem dX8_centuries_117 : decode cX8_centuries 117 = .ok (.iload 6, 2) := bX8_centuries_85.2.2.2.2.2.2.2.2.2.2.2.2.2.2.2
theorem bX8_centuries_119 : (decode cX8_centuries 119 = .ok (.iadd, 1)) ∧ (decode cX8_centuries 120 = .ok (.iaload, 1)) ∧ (decode cX8_centuries 121 = .ok (.iconst (-1), 1)) ∧ (decode cX8_centuries 122 = .ok (.if_icmp .ne 7, 3)) ∧ (decode cX8_centuries 125 = .ok (.iconst 1, 1)) ∧ (decode cX8_centuries 126 = .ok (.goto 4, 3)) ∧ (decode cX8_centuries 129 = .ok (.iconst 0, 1)) ∧ (decode cX8_centuries 130 = .ok (.istore 8, 2)) ∧ (decode cX8_centuries 132 = .ok (.iload 8, 2)) ∧ (decode cX8_centuries 134 = .ok (.ifCond .eq 31, 3)) ∧ (decode cX8_centuries 137 = .ok (.aload_n 0, 1)) ∧ (decode cX8_centuries 138 = .ok (.iconst 0, 1)) ∧ (decode cX8_centuries 139 = .ok (.aload_n 0, 1)) ∧ (decode cX8_centuries 140 = .ok (.getfield 20, 3)) ∧ (decode cX8_centuries 143 = .ok (.iconst 0, 1)) ∧ (decode cX8_centuries 144 = .ok (.iload 7, 2)) := by decide +kernel
theorem dX8_centuries_119 : decode cX8_centuries 119 = .ok (.iadd, 1) := bX8_centuries_119.1
theorem dX8_centuries_120 : decode cX8_centuries 120 = .ok (.iaload, 1) := bX8_centuries_119.2.1
theorem dX8_centuries_121 : decode cX8_centuries 121 = .ok (.iconst (-1), 1) := bX8_centuries_119.2.2.1
theorem dX8_centuries_122 : decode cX8_centuries 122 = .ok (.if_icmp .ne 7, 3) := bX8_centuries_119.2.2.2.1
theorem dX8_centuries_125 : decode cX8_centuries 125 = .ok (.iconst 1, 1) := bX8_centuries_119.2.2.2.2.1
theorem dX8_centuries_126 : decode cX8_centuries 126 = .ok (.goto 4, 3) := bX8_centuries_119.2.2.2.2.2.1
theorem dX8_centuries_129 : decode cX8_centuries 129 = .ok (.iconst 0, 1) := bX8_centuries_119.2.2.2.2.2.2.1
theorem dX8_centuries_130 : decode cX8_centuries 130 = .ok (.istore 8, 2) := bX8_centuries_119.2.2.2.2.2.2.2.1
theorem dX8_centuries_132 : decode cX8_centuries 132 = .ok (.iload 8, 2) := bX8_centuries_119.2.2.2.2.2.2.2.2.1
theorem dX8_centuries_134 : decode cX8_centuries 134 = .ok (.ifCond .eq 31, 3) := bX8_centuries_119.2.2.2.2.2.2.2.2.2.1
theorem dX8_centuries_137 : decode cX8_centuries 137 = .ok (.aload_n 0, 1) := bX8_centuries_119.2.2.2.2.2.2.2.2.2.2.1
theorem dX8_centuries_138 : decode cX8_centuries 138 = .ok (.iconst 0, 1) := bX8_centuries_119.2.2.2.2.2.2.2.2.2.2.2.1
theorem dX8_centuries_139 : decode cX8_centuries 139 = .ok (.aload_n 0, 1) := bX8_centuries_119.2.2.2.2.2.2.2.2.2.2.2.2.1
theorem dX8_centuries_140 : decode cX8_centuries 140 = .ok (.getfield 20, 3) := bX8_centuries_119.2.2.2.2.2.2.2.2.2.2.2.2.2.1
theorem dX8_centuries_143 : decode cX8_centuries 143 = .ok (.iconst 0, 1) := bX8_centuries_119.2.2.2.2.2.2.2.2.2.2.2.2.2.2.1
theorem dX8_centuries_144 : decode cX8_centuries 144 = .ok (.iload 7, 2) := bX8_centuries_119.2.2.2.2.2.2.2.2.2.2.2.2.2.2.2
theorem bX8_centuries_146 : (decode cX8_centuries 146 = .ok (.invokevirtual 124, 3)) ∧ (decode cX8_centuries 149 = .ok (.iconst (-1), 1)) ∧ (decode cX8_centuries 150 = .ok (.if_icmp .ne 15, 3)) ∧ (decode cX8_centuries 153 = .ok (.aload_n 0, 1)) ∧ (decode cX8_centuries 154 = .ok (.getfield 20, 3)) ∧ (decode cX8_centuries 157 = .ok (.bipush 9, 2)) ∧ (decode cX8_centuries 159 = .ok (.iload 6, 2)) ∧ (decode cX8_centuries 161 = .ok (.iadd, 1)) ∧ (decode cX8_centuries 162 = .ok (.iload 7, 2)) ∧ (decode cX8_centuries 164 = .ok (.iastore, 1)) ∧ (decode cX8_centuries 165 = .ok (.aload_n 0, 1)) ∧ (decode cX8_centuries 166 = .ok (.iconst 0, 1)) ∧ (decode cX8_centuries 167 = .ok (.aload_n 0, 1)) ∧ (decode cX8_centuries 168 = .ok (.getfield 20, 3)) ∧ (decode cX8_centuries 171 = .ok (.iconst 0, 1)) ∧ (decode cX8_centuries 172 = .ok (.invokevirtual 128, 3)) := by decide +kernel
theorem dX8_centuries_146 : decode cX8_centuries 146 = .ok (.invokevirtual 124, 3) := bX8_centuries_146.1
theorem dX8_centuries_149 : decode cX8_centuries 149 = .ok (.iconst (-1), 1) := bX8_centuries_146.2.1
theorem dX8_centuries_150 : decode cX8_centuries 150 = .ok (.if_icmp .ne 15, 3) := bX8_centuries_146.2.2.1
theorem dX8_centuries_153 : decode cX8_centuries 153 = .ok (.aload_n 0, 1) := bX8_centuries_146.2.2.2.1
theorem dX8_centuries_154 : decode cX8_centuries 154 = .ok (.getfield 20, 3) := bX8_centuries_146.2.2.2.2.1
theorem dX8_centuries_157 : decode cX8_centuries 157 = .ok (.bipush 9, 2) := bX8_centuries_146.2.2.2.2.2.1
theorem dX8_centuries_159 : decode cX8_centuries 159 = .ok (.iload 6, 2) := bX8_centuries_146.2.2.2.2.2.2.1
theorem dX8_centuries_161 : decode cX8_centuries 161 = .ok (.iadd, 1) := bX8_centuries_146.2.2.2.2.2.2.2.1
theorem dX8_centuries_162 : decode cX8_centuries 162 = .ok (.iload 7, 2) := bX8_centuries_146.2.2.2.2.2.2.2.2.1
theorem dX8_centuries_164 : decode cX8_centuries 164 = .ok (.iastore, 1) := bX8_centuries_146.2.2.2.2.2.2.2.2.2.1
theorem dX8_centuries_165 : decode cX8_centuries 165 = .ok (.aload_n 0, 1) := bX8_centuries_146.2.2.2.2.2.2.2.2.2.2.1
theorem dX8_centuries_166 : decode cX8_centuries 166 = .ok (.iconst 0, 1) := bX8_centuries_146.2.2.2.2.2.2.2.2.2.2.2.1
theorem dX8_centuries_167 : decode cX8_centuries 167 = .ok (.aload_n 0, 1) := bX8_centuries_146.2.2.2.2.2.2.2.2.2.2.2.2.1
theorem dX8_centuries_168 : decode cX8_centuries 168 = .ok (.getfield 20, 3) := bX8_centuries_146.2.2.2.2.2.2.2.2.2.2.2.2.2.1
theorem dX8_centuries_171 : decode cX8_centuries 171 = .ok (.iconst 0, 1) := bX8_centuries_146.2.2.2.2.2.2.2.2.2.2.2.2.2.2.1
theorem dX8_centuries_172 : decode cX8_centuries 172 = .ok (.invokevirtual 128, 3) := bX8_centuries_146.2.2.2.2.2.2.2.2.2.2.2.2.2.2.2
theorem bX8_centuries_175 : (decode cX8_centuries 175 = .ok (.iinc 5 1, 3)) ∧ (decode cX8_centuries 178 = .ok (.goto (-143), 3)) ∧ (decode cX8_centuries 181 = .ok (.aload_n 0, 1)) ∧ (decode cX8_centuries 182 = .ok (.aload_n 0, 1)) ∧ (decode cX8_centuries 183 = .ok (.getfield 20, 3)) ∧ (decode cX8_centuries 186 = .ok (.iconst 0, 1)) ∧ (decode cX8_centuries 187 = .ok (.invokevirtual 176, 3)) ∧ (decode cX8_centuries 190 = .ok (.invokestatic 180, 3)) ∧ (decode cX8_centuries 193 = .ok (.ireturn, 1)) := by decide +kernel
theorem dX8_centuries_175 : decode cX8_centuries 175 = .ok (.iinc 5 1, 3) := bX8_centuries_175.1
theorem dX8_centuries_178 : decode cX8_centuries 178 = .ok (.goto (-143), 3) := bX8_centuries_175.2.1
theorem dX8_centuries_181 : decode cX8_centuries 181 = .ok (.aload_n 0, 1) := bX8_centuries_175.2.2.1
theorem dX8_centuries_182 : decode cX8_centuries 182 = .ok (.aload_n 0, 1) := bX8_centuries_175.2.2.2.1
theorem dX8_centuries_183 : decode cX8_centuries 183 = .ok (.getfield 20, 3) := bX8_centuries_175.2.2.2.2.1
theorem dX8_centuries_186 : decode cX8_centuries 186 = .ok (.iconst 0, 1) := bX8_centuries_175.2.2.2.2.2.1
theorem dX8_centuries_187 : decode cX8_centuries 187 = .ok (.invokevirtual 176, 3) := bX8_centuries_175.2.2.2.2.2.2.1
theorem dX8_centuries_190 : decode cX8_centuries 190 = .ok (.invokestatic 180, 3) := bX8_centuries_175.2.2.2.2.2.2.2.1
theorem dX8_centuries_193 : decode cX8_centuries 193 = .ok (.ireturn, 1) := bX8_centuries_175.2.2.2.2.2.2.2.2
theorem bX8_part_0 : (decode cX8_part 0 = .ok (.iload_n 1, 1)) ∧ (decode cX8_part 1 = .ok (.iconst 0, 1)) ∧ (decode cX8_part 2 = .ok (.iconst 1, 1)) ∧ (decode cX8_part 3 = .ok (.invokestatic 44, 3)) ∧ (decode cX8_part 6 = .ok (.ifCond .ne 9, 3)) ∧ (decode cX8_part 9 = .ok (.aload_n 0, 1)) ∧ (decode cX8_part 10 = .ok (.invokevirtual 69, 3)) ∧ (decode cX8_part 13 = .ok (.i2l, 1)) ∧ (decode cX8_part 14 = .ok (.lreturn, 1)) ∧ (decode cX8_part 15 = .ok (.iload_n 1, 1)) ∧ (decode cX8_part 16 = .ok (.ifCond .ne 10, 3)) ∧ (decode cX8_part 19 = .ok (.aload_n 0, 1)) ∧ (decode cX8_part 20 = .ok (.getfield 228, 3)) ∧ (decode cX8_part 23 = .ok (.goto 7, 3)) ∧ (decode cX8_part 26 = .ok (.aload_n 0, 1)) ∧ (decode cX8_part 27 = .ok (.getfield 36, 3)) := by decide +kernel
theorem dX8_part_0 : decode cX8_part 0 = .ok (.iload_n 1, 1) := bX8_part_0.1
theorem dX8_part_1 : decode cX8_part 1 = .ok (.iconst 0, 1) := bX8_part_0.2.1
theorem dX8_part_2 : decode cX8_part 2 = .ok (.iconst 1, 1) := bX8_part_0.2.2.1
theorem dX8_part_3 : decode cX8_part 3 = .ok (.invokestatic 44, 3) := bX8_part_0.2.2.2.1
theorem dX8_part_6 : decode cX8_part 6 = .ok (.ifCond .ne 9, 3) := bX8_part_0.2.2.2.2.1
theorem dX8_part_9 : decode cX8_part 9 = .ok (.aload_n 0, 1) := bX8_part_0.2.2.2.2.2.1
theorem dX8_part_10 : decode cX8_part 10 = .ok (.invokevirtual 69, 3) := bX8_part_0.2.2.2.2.2.2.1
theorem dX8_part_13 : decode cX8_part 13 = .ok (.i2l, 1) := bX8_part_0.2.2.2.2.2.2.2.1
theorem dX8_part_14 : decode cX8_part 14 = .ok (.lreturn, 1) := bX8_part_0.2.2.2.2.2.2.2.2.1
theorem dX8_part_15 : decode cX8_part 15 = .ok (.iload_n 1, 1) := bX8_part_0.2.2.2.2.2.2.2.2.2.1
theorem dX8_part_16 : decode cX8_part 16 = .ok (.ifCond .ne 10, 3) := bX8_part_0.2.2.2.2.2.2.2.2.2.2.1
theorem dX8_part_19 : decode cX8_part 19 = .ok (.aload_n 0, 1) := bX8_part_0.2.2.2.2.2.2.2.2.2.2.2.1
theorem dX8_part_20 : decode cX8_part 20 = .ok (.getfield 228, 3) := bX8_part_0.2.2.2.2.2.2.2.2.2.2.2.2.1
theorem dX8_part_23 : decode cX8_part 23 = .ok (.goto 7, 3) := bX8_part_0.2.2.2.2.2.2.2.2.2.2.2.2.2.1
theorem dX8_part_26 : decode cX8_part 26 = .ok (.aload_n 0, 1) := bX8_part_0.2.2.2.2.2.2.2.2.2.2.2.2.2.2.1
theorem dX8_part_27 : decode cX8_part 27 = .ok (.getfield 36, 3) := bX8_part_0.2.2.2.2.2.2.2.2.2.2.2.2.2.2.2
theorem dX8_part_30 : decode cX8_part 30 = .ok (.lreturn, 1) := by decide +kernel
theorem bX8_image_0 : (decode cX8_image 0 = .ok (.iload_n 1, 1)) ∧ (decode cX8_image 1 = .ok (.iconst 0, 1)) ∧ (decode cX8_image 2 = .ok (.iconst 1, 1)) ∧ (decode cX8_image 3 = .ok (.invokestatic 44, 3)) ∧ (decode cX8_image 6 = .ok (.ifCond .ne 8, 3)) ∧ (decode cX8_image 9 = .ok (.aload_n 0, 1)) ∧ (decode cX8_image 10 = .ok (.invokevirtual 69, 3)) ∧ (decode cX8_image 13 = .ok (.ireturn, 1)) ∧ (decode cX8_image 14 = .ok (.aload_n 0, 1)) ∧ (decode cX8_image 15 = .ok (.iconst 0, 1)) ∧ (decode cX8_image 16 = .ok (.sipush 246, 3)) ∧ (decode cX8_image 19 = .ok (.iconst 1, 1)) ∧ (decode cX8_image 20 = .ok (.iload_n 1, 1)) ∧ (decode cX8_image 21 = .ok (.iadd, 1)) ∧ (decode cX8_image 22 = .ok (.imul, 1)) ∧ (decode cX8_image 23 = .ok (.invokevirtual 157, 3)) := by decide +kernel
theorem dX8_image_0 : decode cX8_image 0 = .ok (.iload_n 1, 1) := bX8_image_0.1
theorem dX8_image_1 : decode cX8_image 1 = .ok (.iconst 0, 1) := bX8_image_0.2.1
theorem dX8_image_2 : decode cX8_image 2 = .ok (.iconst 1, 1) := bX8_image_0.2.2.1
theorem dX8_image_3 : decode cX8_image 3 = .ok (.invokestatic 44, 3) := bX8_image_0.2.2.2.1
theorem dX8_image_6 : decode cX8_image 6 = .ok (.ifCond .ne 8, 3) := bX8_image_0.2.2.2.2.1
theorem dX8_image_9 : decode cX8_image 9 = .ok (.aload_n 0, 1) := bX8_image_0.2.2.2.2.2.1
theorem dX8_image_10 : decode cX8_image 10 = .ok (.invokevirtual 69, 3) := bX8_image_0.2.2.2.2.2.2.1
theorem dX8_image_13 : decode cX8_image 13 = .ok (.ireturn, 1) := bX8_image_0.2.2.2.2.2.2.2.1
theorem dX8_image_14 : decode cX8_image 14 = .ok (.aload_n 0, 1) := bX8_image_0.2.2.2.2.2.2.2.2.1
theorem dX8_image_15 : decode cX8_image 15 = .ok (.iconst 0, 1) := bX8_image_0.2.2.2.2.2.2.2.2.2.1
theorem dX8_image_16 : decode cX8_image 16 = .ok (.sipush 246, 3) := bX8_image_0.2.2.2.2.2.2.2.2.2.2.1
theorem dX8_image_19 : decode cX8_image 19 = .ok (.iconst 1, 1) := bX8_image_0.2.2.2.2.2.2.2.2.2.2.2.1
theorem dX8_image_20 : decode cX8_image 20 = .ok (.iload_n 1, 1) := bX8_image_0.2.2.2.2.2.2.2.2.2.2.2.2.1
theorem dX8_image_21 : decode cX8_image 21 = .ok (.iadd, 1) := bX8_image_0.2.2.2.2.2.2.2.2.2.2.2.2.2.1
theorem dX8_image_22 : decode cX8_image 22 = .ok (.imul, 1) := bX8_image_0.2.2.2.2.2.2.2.2.2.2.2.2.2.2.1
theorem dX8_image_23 : decode cX8_image 23 = .ok (.invokevirtual 157, 3) := bX8_image_0.2.2.2.2.2.2.2.2.2.2.2.2.2.2.2
theorem bX8_image_26 : (decode cX8_image 26 = .ok (.aload_n 0, 1)) ∧ (decode cX8_image 27 = .ok (.getfield 16, 3)) ∧ (decode cX8_image 30 = .ok (.iload_n 1, 1)) ∧ (decode cX8_image 31 = .ok (.iconst 1, 1)) ∧ (decode cX8_image 32 = .ok (.bastore, 1)) ∧ (decode cX8_image 33 = .ok (.iconst 1, 1)) ∧ (decode cX8_image 34 = .ok (.ireturn, 1)) := by decide +kernel
theorem dX8_image_26 : decode cX8_image 26 = .ok (.aload_n 0, 1) := bX8_image_26.1
theorem dX8_image_27 : decode cX8_image 27 = .ok (.getfield 16, 3) := bX8_image_26.2.1
theorem dX8_image_30 : decode cX8_image 30 = .ok (.iload_n 1, 1) := bX8_image_26.2.2.1
theorem dX8_image_31 : decode cX8_image 31 = .ok (.iconst 1, 1) := bX8_image_26.2.2.2.1
theorem dX8_image_32 : decode cX8_image 32 = .ok (.bastore, 1) := bX8_image_26.2.2.2.2.1
theorem dX8_image_33 : decode cX8_image 33 = .ok (.iconst 1, 1) := bX8_image_26.2.2.2.2.2.1
theorem dX8_image_34 : decode cX8_image 34 = .ok (.ireturn, 1) := bX8_image_26.2.2.2.2.2.2
theorem bX8_from_0 : (decode cX8_from 0 = .ok (.iload_n 1, 1)) ∧ (decode cX8_from 1 = .ok (.iconst 0, 1)) ∧ (decode cX8_from 2 = .ok (.iconst 1, 1)) ∧ (decode cX8_from 3 = .ok (.invokestatic 44, 3)) ∧ (decode cX8_from 6 = .ok (.ifCond .ne 8, 3)) ∧ (decode cX8_from 9 = .ok (.aload_n 0, 1)) ∧ (decode cX8_from 10 = .ok (.invokevirtual 69, 3)) ∧ (decode cX8_from 13 = .ok (.ireturn, 1)) ∧ (decode cX8_from 14 = .ok (.aload_n 0, 1)) ∧ (decode cX8_from 15 = .ok (.getfield 16, 3)) ∧ (decode cX8_from 18 = .ok (.iload_n 1, 1)) ∧ (decode cX8_from 19 = .ok (.baload, 1)) ∧ (decode cX8_from 20 = .ok (.ifCond .ne 8, 3)) ∧ (decode cX8_from 23 = .ok (.aload_n 0, 1)) ∧ (decode cX8_from 24 = .ok (.invokevirtual 170, 3)) ∧ (decode cX8_from 27 = .ok (.ireturn, 1)) := by decide +kernel
theorem dX8_from_0 : decode cX8_from 0 = .ok (.iload_n 1, 1) := bX8_from_0.1
theorem dX8_from_1 : decode cX8_from 1 = .ok (.iconst 0, 1) := bX8_from_0.2.1
theorem dX8_from_2 : decode cX8_from 2 = .ok (.iconst 1, 1) := bX8_from_0.2.2.1
theorem dX8_from_3 : decode cX8_from 3 = .ok (.invokestatic 44, 3) := bX8_from_0.2.2.2.1
theorem dX8_from_6 : decode cX8_from 6 = .ok (.ifCond .ne 8, 3) := bX8_from_0.2.2.2.2.1
theorem dX8_from_9 : decode cX8_from 9 = .ok (.aload_n 0, 1) := bX8_from_0.2.2.2.2.2.1
theorem dX8_from_10 : decode cX8_from 10 = .ok (.invokevirtual 69, 3) := bX8_from_0.2.2.2.2.2.2.1
theorem dX8_from_13 : decode cX8_from 13 = .ok (.ireturn, 1) := bX8_from_0.2.2.2.2.2.2.2.1
theorem dX8_from_14 : decode cX8_from 14 = .ok (.aload_n 0, 1) := bX8_from_0.2.2.2.2.2.2.2.2.1
theorem dX8_from_15 : decode cX8_from 15 = .ok (.getfield 16, 3) := bX8_from_0.2.2.2.2.2.2.2.2.2.1
theorem dX8_from_18 : decode cX8_from 18 = .ok (.iload_n 1, 1) := bX8_from_0.2.2.2.2.2.2.2.2.2.2.1
theorem dX8_from_19 : decode cX8_from 19 = .ok (.baload, 1) := bX8_from_0.2.2.2.2.2.2.2.2.2.2.2.1
theorem dX8_from_20 : decode cX8_from 20 = .ok (.ifCond .ne 8, 3) := bX8_from_0.2.2.2.2.2.2.2.2.2.2.2.2.1
theorem dX8_from_23 : decode cX8_from 23 = .ok (.aload_n 0, 1) := bX8_from_0.2.2.2.2.2.2.2.2.2.2.2.2.2.1
theorem dX8_from_24 : decode cX8_from 24 = .ok (.invokevirtual 170, 3) := bX8_from_0.2.2.2.2.2.2.2.2.2.2.2.2.2.2.1
theorem dX8_from_27 : decode cX8_from 27 = .ok (.ireturn, 1) := bX8_from_0.2.2.2.2.2.2.2.2.2.2.2.2.2.2.2
theorem bX8_from_28 : (decode cX8_from 28 = .ok (.aload_n 0, 1)) ∧ (decode cX8_from 29 = .ok (.sipush 246, 3)) ∧ (decode cX8_from 32 = .ok (.iconst 1, 1)) ∧ (decode cX8_from 33 = .ok (.iload_n 1, 1)) ∧ (decode cX8_from 34 = .ok (.iadd, 1)) ∧ (decode cX8_from 35 = .ok (.imul, 1)) ∧ (decode cX8_from 36 = .ok (.iconst 0, 1)) ∧ (decode cX8_from 37 = .ok (.invokevirtual 157, 3)) ∧ (decode cX8_from 40 = .ok (.iconst 1, 1)) ∧ (decode cX8_from 41 = .ok (.ireturn, 1)) := by decide +kernel
theorem dX8_from_28 : decode cX8_from 28 = .ok (.aload_n 0, 1) := bX8_from_28.1
theorem dX8_from_29 : decode cX8_from 29 = .ok (.sipush 246, 3) := bX8_from_28.2.1
theorem dX8_from_32 : decode cX8_from 32 = .ok (.iconst 1, 1) := bX8_from_28.2.2.1
theorem dX8_from_33 : decode cX8_from 33 = .ok (.iload_n 1, 1) := bX8_from_28.2.2.2.1
theorem dX8_from_34 : decode cX8_from 34 = .ok (.iadd, 1) := bX8_from_28.2.2.2.2.1
theorem dX8_from_35 : decode cX8_from 35 = .ok (.imul, 1) := bX8_from_28.2.2.2.2.2.1
theorem dX8_from_36 : decode cX8_from 36 = .ok (.iconst 0, 1) := bX8_from_28.2.2.2.2.2.2.1
theorem dX8_from_37 : decode cX8_from 37 = .ok (.invokevirtual 157, 3) := bX8_from_28.2.2.2.2.2.2.2.1
theorem dX8_from_40 : decode cX8_from 40 = .ok (.iconst 1, 1) := bX8_from_28.2.2.2.2.2.2.2.2.1
theorem dX8_from_41 : decode cX8_from 41 = .ok (.ireturn, 1) := bX8_from_28.2.2.2.2.2.2.2.2.2
theorem bX8_status_0 : (decode cX8_status 0 = .ok (.iload_n 1, 1)) ∧ (decode cX8_status 1 = .ok (.iconst 0, 1)) ∧ (decode cX8_status 2 = .ok (.iconst 2, 1)) ∧ (decode cX8_status 3 = .ok (.invokestatic 44, 3)) ∧ (decode cX8_status 6 = .ok (.ifCond .ne 15, 3)) ∧ (decode cX8_status 9 = .ok (.aload_n 0, 1)) ∧ (decode cX8_status 10 = .ok (.getfield 7, 3)) ∧ (decode cX8_status 13 = .ok (.iconst 0, 1)) ∧ (decode cX8_status 14 = .ok (.dup2, 1)) ∧ (decode cX8_status 15 = .ok (.iaload, 1)) ∧ (decode cX8_status 16 = .ok (.iconst 1, 1)) ∧ (decode cX8_status 17 = .ok (.iadd, 1)) ∧ (decode cX8_status 18 = .ok (.iastore, 1)) ∧ (decode cX8_status 19 = .ok (.iconst (-1), 1)) ∧ (decode cX8_status 20 = .ok (.ireturn, 1)) ∧ (decode cX8_status 21 = .ok (.aload_n 0, 1)) := by decide +kernel
theorem dX8_status_0 : decode cX8_status 0 = .ok (.iload_n 1, 1) := bX8_status_0.1
theorem dX8_status_1 : decode cX8_status 1 = .ok (.iconst 0, 1) := bX8_status_0.2.1
theorem dX8_status_2 : decode cX8_status 2 = .ok (.iconst 2, 1) := bX8_status_0.2.2.1
theorem dX8_status_3 : decode cX8_status 3 = .ok (.invokestatic 44, 3) := bX8_status_0.2.2.2.1
theorem dX8_status_6 : decode cX8_status 6 = .ok (.ifCond .ne 15, 3) := bX8_status_0.2.2.2.2.1
theorem dX8_status_9 : decode cX8_status 9 = .ok (.aload_n 0, 1) := bX8_status_0.2.2.2.2.2.1
theorem dX8_status_10 : decode cX8_status 10 = .ok (.getfield 7, 3) := bX8_status_0.2.2.2.2.2.2.1
theorem dX8_status_13 : decode cX8_status 13 = .ok (.iconst 0, 1) := bX8_status_0.2.2.2.2.2.2.2.1
theorem dX8_status_14 : decode cX8_status 14 = .ok (.dup2, 1) := bX8_status_0.2.2.2.2.2.2.2.2.1
theorem dX8_status_15 : decode cX8_status 15 = .ok (.iaload, 1) := bX8_status_0.2.2.2.2.2.2.2.2.2.1
theorem dX8_status_16 : decode cX8_status 16 = .ok (.iconst 1, 1) := bX8_status_0.2.2.2.2.2.2.2.2.2.2.1
theorem dX8_status_17 : decode cX8_status 17 = .ok (.iadd, 1) := bX8_status_0.2.2.2.2.2.2.2.2.2.2.2.1
theorem dX8_status_18 : decode cX8_status 18 = .ok (.iastore, 1) := bX8_status_0.2.2.2.2.2.2.2.2.2.2.2.2.1
theorem dX8_status_19 : decode cX8_status 19 = .ok (.iconst (-1), 1) := bX8_status_0.2.2.2.2.2.2.2.2.2.2.2.2.2.1
theorem dX8_status_20 : decode cX8_status 20 = .ok (.ireturn, 1) := bX8_status_0.2.2.2.2.2.2.2.2.2.2.2.2.2.2.1
theorem dX8_status_21 : decode cX8_status 21 = .ok (.aload_n 0, 1) := bX8_status_0.2.2.2.2.2.2.2.2.2.2.2.2.2.2.2
theorem bX8_status_22 : (decode cX8_status 22 = .ok (.getfield 7, 3)) ∧ (decode cX8_status 25 = .ok (.iload_n 1, 1)) ∧ (decode cX8_status 26 = .ok (.iaload, 1)) ∧ (decode cX8_status 27 = .ok (.ireturn, 1)) := by decide +kernel
theorem dX8_status_22 : decode cX8_status 22 = .ok (.getfield 7, 3) := bX8_status_22.1
theorem dX8_status_25 : decode cX8_status 25 = .ok (.iload_n 1, 1) := bX8_status_22.2.1
theorem dX8_status_26 : decode cX8_status 26 = .ok (.iaload, 1) := bX8_status_22.2.2.1
theorem dX8_status_27 : decode cX8_status 27 = .ok (.ireturn, 1) := bX8_status_22.2.2.2
theorem bX8_many_0 : (decode cX8_many 0 = .ok (.iconst 0, 1)) ∧ (decode cX8_many 1 = .ok (.istore_n 2, 1)) ∧ (decode cX8_many 2 = .ok (.iload_n 1, 1)) ∧ (decode cX8_many 3 = .ok (.tableswitch 144 0 8 #[49, 56, 70, 77, 118, 126, 126, 126, 137], 49)) ∧ (decode cX8_many 52 = .ok (.aload_n 0, 1)) ∧ (decode cX8_many 53 = .ok (.getfield 13, 3)) ∧ (decode cX8_many 56 = .ok (.iconst 1, 1)) ∧ (decode cX8_many 57 = .ok (.iaload, 1)) ∧ (decode cX8_many 58 = .ok (.ireturn, 1)) ∧ (decode cX8_many 59 = .ok (.aload_n 0, 1)) ∧ (decode cX8_many 60 = .ok (.aload_n 0, 1)) ∧ (decode cX8_many 61 = .ok (.getfield 13, 3)) ∧ (decode cX8_many 64 = .ok (.bipush 34, 2)) ∧ (decode cX8_many 66 = .ok (.invokevirtual 176, 3)) ∧ (decode cX8_many 69 = .ok (.invokestatic 180, 3)) ∧ (decode cX8_many 72 = .ok (.ireturn, 1)) := by decide +kernel
theorem dX8_many_0 : decode cX8_many 0 = .ok (.iconst 0, 1) := bX8_many_0.1
theorem dX8_many_1 : decode cX8_many 1 = .ok (.istore_n 2, 1) := bX8_many_0.2.1
theorem dX8_many_2 : decode cX8_many 2 = .ok (.iload_n 1, 1) := bX8_many_0.2.2.1
theorem dX8_many_3 : decode cX8_many 3 = .ok (.tableswitch 144 0 8 #[49, 56, 70, 77, 118, 126, 126, 126, 137], 49) := bX8_many_0.2.2.2.1
theorem dX8_many_52 : decode cX8_many 52 = .ok (.aload_n 0, 1) := bX8_many_0.2.2.2.2.1
theorem dX8_many_53 : decode cX8_many 53 = .ok (.getfield 13, 3) := bX8_many_0.2.2.2.2.2.1
theorem dX8_many_56 : decode cX8_many 56 = .ok (.iconst 1, 1) := bX8_many_0.2.2.2.2.2.2.1
theorem dX8_many_57 : decode cX8_many 57 = .ok (.iaload, 1) := bX8_many_0.2.2.2.2.2.2.2.1
theorem dX8_many_58 : decode cX8_many 58 = .ok (.ireturn, 1) := bX8_many_0.2.2.2.2.2.2.2.2.1
theorem dX8_many_59 : decode cX8_many 59 = .ok (.aload_n 0, 1) := bX8_many_0.2.2.2.2.2.2.2.2.2.1
theorem dX8_many_60 : decode cX8_many 60 = .ok (.aload_n 0, 1) := bX8_many_0.2.2.2.2.2.2.2.2.2.2.1
theorem dX8_many_61 : decode cX8_many 61 = .ok (.getfield 13, 3) := bX8_many_0.2.2.2.2.2.2.2.2.2.2.2.1
theorem dX8_many_64 : decode cX8_many 64 = .ok (.bipush 34, 2) := bX8_many_0.2.2.2.2.2.2.2.2.2.2.2.2.1
theorem dX8_many_66 : decode cX8_many 66 = .ok (.invokevirtual 176, 3) := bX8_many_0.2.2.2.2.2.2.2.2.2.2.2.2.2.1
theorem dX8_many_69 : decode cX8_many 69 = .ok (.invokestatic 180, 3) := bX8_many_0.2.2.2.2.2.2.2.2.2.2.2.2.2.2.1
theorem dX8_many_72 : decode cX8_many 72 = .ok (.ireturn, 1) := bX8_many_0.2.2.2.2.2.2.2.2.2.2.2.2.2.2.2
theorem bX8_many_73 : (decode cX8_many 73 = .ok (.aload_n 0, 1)) ∧ (decode cX8_many 74 = .ok (.getfield 13, 3)) ∧ (decode cX8_many 77 = .ok (.iconst 0, 1)) ∧ (decode cX8_many 78 = .ok (.iaload, 1)) ∧ (decode cX8_many 79 = .ok (.ireturn, 1)) ∧ (decode cX8_many 80 = .ok (.iconst 0, 1)) ∧ (decode cX8_many 81 = .ok (.istore_n 3, 1)) ∧ (decode cX8_many 82 = .ok (.iload_n 3, 1)) ∧ (decode cX8_many 83 = .ok (.aload_n 0, 1)) ∧ (decode cX8_many 84 = .ok (.getfield 13, 3)) ∧ (decode cX8_many 87 = .ok (.iconst 1, 1)) ∧ (decode cX8_many 88 = .ok (.iaload, 1)) ∧ (decode cX8_many 89 = .ok (.if_icmp .ge 30, 3)) ∧ (decode cX8_many 92 = .ok (.iload_n 2, 1)) ∧ (decode cX8_many 93 = .ok (.aload_n 0, 1)) ∧ (decode cX8_many 94 = .ok (.getfield 13, 3)) := by decide +kernel
theorem dX8_many_73 : decode cX8_many 73 = .ok (.aload_n 0, 1) := bX8_many_73.1
theorem dX8_many_74 : decode cX8_many 74 = .ok (.getfield 13, 3) := bX8_many_73.2.1
theorem dX8_many_77 : decode cX8_many 77 = .ok (.iconst 0, 1) := bX8_many_73.2.2.1
theorem dX8_many_78 : decode cX8_many 78 = .ok (.iaload, 1) := bX8_many_73.2.2.2.1
theorem dX8_many_79 : decode cX8_many 79 = .ok (.ireturn, 1) := bX8_many_73.2.2.2.2.1
theorem dX8_many_80 : decode cX8_many 80 = .ok (.iconst 0, 1) := bX8_many_73.2.2.2.2.2.1
theorem dX8_many_81 : decode cX8_many 81 = .ok (.istore_n 3, 1) := bX8_many_73.2.2.2.2.2.2.1
theorem dX8_many_82 : decode cX8_many 82 = .ok (.iload_n 3, 1) := bX8_many_73.2.2.2.2.2.2.2.1
theorem dX8_many_83 : decode cX8_many 83 = .ok (.aload_n 0, 1) := bX8_many_73.2.2.2.2.2.2.2.2.1
theorem dX8_many_84 : decode cX8_many 84 = .ok (.getfield 13, 3) := bX8_many_73.2.2.2.2.2.2.2.2.2.1
theorem dX8_many_87 : decode cX8_many 87 = .ok (.iconst 1, 1) := bX8_many_73.2.2.2.2.2.2.2.2.2.2.1
theorem dX8_many_88 : decode cX8_many 88 = .ok (.iaload, 1) := bX8_many_73.2.2.2.2.2.2.2.2.2.2.2.1
theorem dX8_many_89 : decode cX8_many 89 = .ok (.if_icmp .ge 30, 3) := bX8_many_73.2.2.2.2.2.2.2.2.2.2.2.2.1
theorem dX8_many_92 : decode cX8_many 92 = .ok (.iload_n 2, 1) := bX8_many_73.2.2.2.2.2.2.2.2.2.2.2.2.2.1
theorem dX8_many_93 : decode cX8_many 93 = .ok (.aload_n 0, 1) := bX8_many_73.2.2.2.2.2.2.2.2.2.2.2.2.2.2.1
theorem dX8_many_94 : decode cX8_many 94 = .ok (.getfield 13, 3) := bX8_many_73.2.2.2.2.2.2.2.2.2.2.2.2.2.2.2
theorem bX8_many_97 : (decode cX8_many 97 = .ok (.bipush 43, 2)) ∧ (decode cX8_many 99 = .ok (.iload_n 3, 1)) ∧ (decode cX8_many 100 = .ok (.iadd, 1)) ∧ (decode cX8_many 101 = .ok (.iaload, 1)) ∧ (decode cX8_many 102 = .ok (.iconst (-1), 1)) ∧ (decode cX8_many 103 = .ok (.if_icmp .ne 7, 3)) ∧ (decode cX8_many 106 = .ok (.iconst 0, 1)) ∧ (decode cX8_many 107 = .ok (.goto 4, 3)) ∧ (decode cX8_many 110 = .ok (.iconst 1, 1)) ∧ (decode cX8_many 111 = .ok (.iadd, 1)) ∧ (decode cX8_many 112 = .ok (.istore_n 2, 1)) ∧ (decode cX8_many 113 = .ok (.iinc 3 1, 3)) ∧ (decode cX8_many 116 = .ok (.goto (-34), 3)) ∧ (decode cX8_many 119 = .ok (.iload_n 2, 1)) ∧ (decode cX8_many 120 = .ok (.ireturn, 1)) ∧ (decode cX8_many 121 = .ok (.aload_n 0, 1)) := by decide +kernel
theorem dX8_many_97 : decode cX8_many 97 = .ok (.bipush 43, 2) := bX8_many_97.1
theorem dX8_many_99 : decode cX8_many 99 = .ok (.iload_n 3, 1) := bX8_many_97.2.1
theorem dX8_many_100 : decode cX8_many 100 = .ok (.iadd, 1) := bX8_many_97.2.2.1
theorem dX8_many_101 : decode cX8_many 101 = .ok (.iaload, 1) := bX8_many_97.2.2.2.1
theorem dX8_many_102 : decode cX8_many 102 = .ok (.iconst (-1), 1) := bX8_many_97.2.2.2.2.1
theorem dX8_many_103 : decode cX8_many 103 = .ok (.if_icmp .ne 7, 3) := bX8_many_97.2.2.2.2.2.1
theorem dX8_many_106 : decode cX8_many 106 = .ok (.iconst 0, 1) := bX8_many_97.2.2.2.2.2.2.1
theorem dX8_many_107 : decode cX8_many 107 = .ok (.goto 4, 3) := bX8_many_97.2.2.2.2.2.2.2.1
theorem dX8_many_110 : decode cX8_many 110 = .ok (.iconst 1, 1) := bX8_many_97.2.2.2.2.2.2.2.2.1
theorem dX8_many_111 : decode cX8_many 111 = .ok (.iadd, 1) := bX8_many_97.2.2.2.2.2.2.2.2.2.1
theorem dX8_many_112 : decode cX8_many 112 = .ok (.istore_n 2, 1) := bX8_many_97.2.2.2.2.2.2.2.2.2.2.1
theorem dX8_many_113 : decode cX8_many 113 = .ok (.iinc 3 1, 3) := bX8_many_97.2.2.2.2.2.2.2.2.2.2.2.1
theorem dX8_many_116 : decode cX8_many 116 = .ok (.goto (-34), 3) := bX8_many_97.2.2.2.2.2.2.2.2.2.2.2.2.1
theorem dX8_many_119 : decode cX8_many 119 = .ok (.iload_n 2, 1) := bX8_many_97.2.2.2.2.2.2.2.2.2.2.2.2.2.1
theorem dX8_many_120 : decode cX8_many 120 = .ok (.ireturn, 1) := bX8_many_97.2.2.2.2.2.2.2.2.2.2.2.2.2.2.1
theorem dX8_many_121 : decode cX8_many 121 = .ok (.aload_n 0, 1) := bX8_many_97.2.2.2.2.2.2.2.2.2.2.2.2.2.2.2
theorem bX8_many_122 : (decode cX8_many 122 = .ok (.getfield 13, 3)) ∧ (decode cX8_many 125 = .ok (.bipush 34, 2)) ∧ (decode cX8_many 127 = .ok (.iaload, 1)) ∧ (decode cX8_many 128 = .ok (.ireturn, 1)) ∧ (decode cX8_many 129 = .ok (.aload_n 0, 1)) ∧ (decode cX8_many 130 = .ok (.getfield 13, 3)) ∧ (decode cX8_many 133 = .ok (.iconst 2, 1)) ∧ (decode cX8_many 134 = .ok (.iload_n 1, 1)) ∧ (decode cX8_many 135 = .ok (.iadd, 1)) ∧ (decode cX8_many 136 = .ok (.iconst 5, 1)) ∧ (decode cX8_many 137 = .ok (.isub, 1)) ∧ (decode cX8_many 138 = .ok (.iaload, 1)) ∧ (decode cX8_many 139 = .ok (.ireturn, 1)) ∧ (decode cX8_many 140 = .ok (.aload_n 0, 1)) ∧ (decode cX8_many 141 = .ok (.getfield 13, 3)) ∧ (decode cX8_many 144 = .ok (.iconst 5, 1)) := by decide +kernel
theorem dX8_many_122 : decode cX8_many 122 = .ok (.getfield 13, 3) := bX8_many_122.1
theorem dX8_many_125 : decode cX8_many 125 = .ok (.bipush 34, 2) := bX8_many_122.2.1
theorem dX8_many_127 : decode cX8_many 127 = .ok (.iaload, 1) := bX8_many_122.2.2.1
theorem dX8_many_128 : decode cX8_many 128 = .ok (.ireturn, 1) := bX8_many_122.2.2.2.1
theorem dX8_many_129 : decode cX8_many 129 = .ok (.aload_n 0, 1) := bX8_many_122.2.2.2.2.1
theorem dX8_many_130 : decode cX8_many 130 = .ok (.getfield 13, 3) := bX8_many_122.2.2.2.2.2.1
theorem dX8_many_133 : decode cX8_many 133 = .ok (.iconst 2, 1) := bX8_many_122.2.2.2.2.2.2.1
theorem dX8_many_134 : decode cX8_many 134 = .ok (.iload_n 1, 1) := bX8_many_122.2.2.2.2.2.2.2.1
theorem dX8_many_135 : decode cX8_many 135 = .ok (.iadd, 1) := bX8_many_122.2.2.2.2.2.2.2.2.1
theorem dX8_many_136 : decode cX8_many 136 = .ok (.iconst 5, 1) := bX8_many_122.2.2.2.2.2.2.2.2.2.1
theorem dX8_many_137 : decode cX8_many 137 = .ok (.isub, 1) := bX8_many_122.2.2.2.2.2.2.2.2.2.2.1
theorem dX8_many_138 : decode cX8_many 138 = .ok (.iaload, 1) := bX8_many_122.2.2.2.2.2.2.2.2.2.2.2.1
theorem dX8_many_139 : decode cX8_many 139 = .ok (.ireturn, 1) := bX8_many_122.2.2.2.2.2.2.2.2.2.2.2.2.1
theorem dX8_many_140 : decode cX8_many 140 = .ok (.aload_n 0, 1) := bX8_many_122.2.2.2.2.2.2.2.2.2.2.2.2.2.1
theorem dX8_many_141 : decode cX8_many 141 = .ok (.getfield 13, 3) := bX8_many_122.2.2.2.2.2.2.2.2.2.2.2.2.2.2.1
theorem dX8_many_144 : decode cX8_many 144 = .ok (.iconst 5, 1) := bX8_many_122.2.2.2.2.2.2.2.2.2.2.2.2.2.2.2
theorem bX8_many_145 : (decode cX8_many 145 = .ok (.iaload, 1)) ∧ (decode cX8_many 146 = .ok (.ireturn, 1)) ∧ (decode cX8_many 147 = .ok (.aload_n 0, 1)) ∧ (decode cX8_many 148 = .ok (.getfield 83, 3)) ∧ (decode cX8_many 151 = .ok (.ireturn, 1)) := by decide +kernel
theorem dX8_many_145 : decode cX8_many 145 = .ok (.iaload, 1) := bX8_many_145.1
theorem dX8_many_146 : decode cX8_many 146 = .ok (.ireturn, 1) := bX8_many_145.2.1
theorem dX8_many_147 : decode cX8_many 147 = .ok (.aload_n 0, 1) := bX8_many_145.2.2.1
theorem dX8_many_148 : decode cX8_many 148 = .ok (.getfield 83, 3) := bX8_many_145.2.2.2.1
theorem dX8_many_151 : decode cX8_many 151 = .ok (.ireturn, 1) := bX8_many_145.2.2.2.2
theorem bX8_count_0 : (decode cX8_count 0 = .ok (.iload_n 1, 1)) ∧ (decode cX8_count 1 = .ok (.iconst 0, 1)) ∧ (decode cX8_count 2 = .ok (.bipush 9, 2)) ∧ (decode cX8_count 4 = .ok (.invokestatic 44, 3)) ∧ (decode cX8_count 7 = .ok (.ifCond .eq 11, 3)) ∧ (decode cX8_count 10 = .ok (.aload_n 0, 1)) ∧ (decode cX8_count 11 = .ok (.iload_n 1, 1)) ∧ (decode cX8_count 12 = .ok (.invokevirtual 250, 3)) ∧ (decode cX8_count 15 = .ok (.goto 7, 3)) ∧ (decode cX8_count 18 = .ok (.aload_n 0, 1)) ∧ (decode cX8_count 19 = .ok (.invokevirtual 69, 3)) ∧ (decode cX8_count 22 = .ok (.ireturn, 1)) := by decide +kernel
theorem dX8_count_0 : decode cX8_count 0 = .ok (.iload_n 1, 1) := bX8_count_0.1
theorem dX8_count_1 : decode cX8_count 1 = .ok (.iconst 0, 1) := bX8_count_0.2.1
theorem dX8_count_2 : decode cX8_count 2 = .ok (.bipush 9, 2) := bX8_count_0.2.2.1
theorem dX8_count_4 : decode cX8_count 4 = .ok (.invokestatic 44, 3) := bX8_count_0.2.2.2.1
theorem dX8_count_7 : decode cX8_count 7 = .ok (.ifCond .eq 11, 3) := bX8_count_0.2.2.2.2.1
theorem dX8_count_10 : decode cX8_count 10 = .ok (.aload_n 0, 1) := bX8_count_0.2.2.2.2.2.1
theorem dX8_count_11 : decode cX8_count 11 = .ok (.iload_n 1, 1) := bX8_count_0.2.2.2.2.2.2.1
theorem dX8_count_12 : decode cX8_count 12 = .ok (.invokevirtual 250, 3) := bX8_count_0.2.2.2.2.2.2.2.1
theorem dX8_count_15 : decode cX8_count 15 = .ok (.goto 7, 3) := bX8_count_0.2.2.2.2.2.2.2.2.1
theorem dX8_count_18 : decode cX8_count 18 = .ok (.aload_n 0, 1) := bX8_count_0.2.2.2.2.2.2.2.2.2.1
theorem dX8_count_19 : decode cX8_count 19 = .ok (.invokevirtual 69, 3) := bX8_count_0.2.2.2.2.2.2.2.2.2.2.1
theorem dX8_count_22 : decode cX8_count 22 = .ok (.ireturn, 1) := bX8_count_0.2.2.2.2.2.2.2.2.2.2.2
theorem bX8_digest_0 : (decode cX8_digest 0 = .ok (.ldc2_w 253, 3)) ∧ (decode cX8_digest 3 = .ok (.lstore_n 1, 1)) ∧ (decode cX8_digest 4 = .ok (.iconst 0, 1)) ∧ (decode cX8_digest 5 = .ok (.istore_n 3, 1)) ∧ (decode cX8_digest 6 = .ok (.iload_n 3, 1)) ∧ (decode cX8_digest 7 = .ok (.bipush 10, 2)) ∧ (decode cX8_digest 9 = .ok (.if_icmp .ge 22, 3)) ∧ (decode cX8_digest 12 = .ok (.ldc2_w 255, 3)) ∧ (decode cX8_digest 15 = .ok (.lload_n 1, 1)) ∧ (decode cX8_digest 16 = .ok (.lmul, 1)) ∧ (decode cX8_digest 17 = .ok (.aload_n 0, 1)) ∧ (decode cX8_digest 18 = .ok (.iload_n 3, 1)) ∧ (decode cX8_digest 19 = .ok (.invokevirtual 250, 3)) ∧ (decode cX8_digest 22 = .ok (.i2l, 1)) ∧ (decode cX8_digest 23 = .ok (.ladd, 1)) ∧ (decode cX8_digest 24 = .ok (.lstore_n 1, 1)) := by decide +kernel
theorem dX8_digest_0 : decode cX8_digest 0 = .ok (.ldc2_w 253, 3) := bX8_digest_0.1
theorem dX8_digest_3 : decode cX8_digest 3 = .ok (.lstore_n 1, 1) := bX8_digest_0.2.1
theorem dX8_digest_4 : decode cX8_digest 4 = .ok (.iconst 0, 1) := bX8_digest_0.2.2.1
theorem dX8_digest_5 : decode cX8_digest 5 = .ok (.istore_n 3, 1) := bX8_digest_0.2.2.2.1
theorem dX8_digest_6 : decode cX8_digest 6 = .ok (.iload_n 3, 1) := bX8_digest_0.2.2.2.2.1
theorem dX8_digest_7 : decode cX8_digest 7 = .ok (.bipush 10, 2) := bX8_digest_0.2.2.2.2.2.1
theorem dX8_digest_9 : decode cX8_digest 9 = .ok (.if_icmp .ge 22, 3) := bX8_digest_0.2.2.2.2.2.2.1
theorem dX8_digest_12 : decode cX8_digest 12 = .ok (.ldc2_w 255, 3) := bX8_digest_0.2.2.2.2.2.2.2.1
theorem dX8_digest_15 : decode cX8_digest 15 = .ok (.lload_n 1, 1) := bX8_digest_0.2.2.2.2.2.2.2.2.1
theorem dX8_digest_16 : decode cX8_digest 16 = .ok (.lmul, 1) := bX8_digest_0.2.2.2.2.2.2.2.2.2.1
theorem dX8_digest_17 : decode cX8_digest 17 = .ok (.aload_n 0, 1) := bX8_digest_0.2.2.2.2.2.2.2.2.2.2.1
theorem dX8_digest_18 : decode cX8_digest 18 = .ok (.iload_n 3, 1) := bX8_digest_0.2.2.2.2.2.2.2.2.2.2.2.1
theorem dX8_digest_19 : decode cX8_digest 19 = .ok (.invokevirtual 250, 3) := bX8_digest_0.2.2.2.2.2.2.2.2.2.2.2.2.1
theorem dX8_digest_22 : decode cX8_digest 22 = .ok (.i2l, 1) := bX8_digest_0.2.2.2.2.2.2.2.2.2.2.2.2.2.1
theorem dX8_digest_23 : decode cX8_digest 23 = .ok (.ladd, 1) := bX8_digest_0.2.2.2.2.2.2.2.2.2.2.2.2.2.2.1
theorem dX8_digest_24 : decode cX8_digest 24 = .ok (.lstore_n 1, 1) := bX8_digest_0.2.2.2.2.2.2.2.2.2.2.2.2.2.2.2
theorem bX8_digest_25 : (decode cX8_digest 25 = .ok (.iinc 3 1, 3)) ∧ (decode cX8_digest 28 = .ok (.goto (-22), 3)) ∧ (decode cX8_digest 31 = .ok (.iconst 0, 1)) ∧ (decode cX8_digest 32 = .ok (.istore_n 3, 1)) ∧ (decode cX8_digest 33 = .ok (.iload_n 3, 1)) ∧ (decode cX8_digest 34 = .ok (.aload_n 0, 1)) ∧ (decode cX8_digest 35 = .ok (.getfield 13, 3)) ∧ (decode cX8_digest 38 = .ok (.iconst 0, 1)) ∧ (decode cX8_digest 39 = .ok (.iaload, 1)) ∧ (decode cX8_digest 40 = .ok (.if_icmp .ge 41, 3)) ∧ (decode cX8_digest 43 = .ok (.ldc2_w 255, 3)) ∧ (decode cX8_digest 46 = .ok (.ldc2_w 255, 3)) ∧ (decode cX8_digest 49 = .ok (.lload_n 1, 1)) ∧ (decode cX8_digest 50 = .ok (.lmul, 1)) ∧ (decode cX8_digest 51 = .ok (.aload_n 0, 1)) ∧ (decode cX8_digest 52 = .ok (.getfield 13, 3)) := by decide +kernel
theorem dX8_digest_25 : decode cX8_digest 25 = .ok (.iinc 3 1, 3) := bX8_digest_25.1
theorem dX8_digest_28 : decode cX8_digest 28 = .ok (.goto (-22), 3) := bX8_digest_25.2.1
theorem dX8_digest_31 : decode cX8_digest 31 = .ok (.iconst 0, 1) := bX8_digest_25.2.2.1
theorem dX8_digest_32 : decode cX8_digest 32 = .ok (.istore_n 3, 1) := bX8_digest_25.2.2.2.1
theorem dX8_digest_33 : decode cX8_digest 33 = .ok (.iload_n 3, 1) := bX8_digest_25.2.2.2.2.1
theorem dX8_digest_34 : decode cX8_digest 34 = .ok (.aload_n 0, 1) := bX8_digest_25.2.2.2.2.2.1
theorem dX8_digest_35 : decode cX8_digest 35 = .ok (.getfield 13, 3) := bX8_digest_25.2.2.2.2.2.2.1
theorem dX8_digest_38 : decode cX8_digest 38 = .ok (.iconst 0, 1) := bX8_digest_25.2.2.2.2.2.2.2.1
theorem dX8_digest_39 : decode cX8_digest 39 = .ok (.iaload, 1) := bX8_digest_25.2.2.2.2.2.2.2.2.1
theorem dX8_digest_40 : decode cX8_digest 40 = .ok (.if_icmp .ge 41, 3) := bX8_digest_25.2.2.2.2.2.2.2.2.2.1
theorem dX8_digest_43 : decode cX8_digest 43 = .ok (.ldc2_w 255, 3) := bX8_digest_25.2.2.2.2.2.2.2.2.2.2.1
theorem dX8_digest_46 : decode cX8_digest 46 = .ok (.ldc2_w 255, 3) := bX8_digest_25.2.2.2.2.2.2.2.2.2.2.2.1
theorem dX8_digest_49 : decode cX8_digest 49 = .ok (.lload_n 1, 1) := bX8_digest_25.2.2.2.2.2.2.2.2.2.2.2.2.1
theorem dX8_digest_50 : decode cX8_digest 50 = .ok (.lmul, 1) := bX8_digest_25.2.2.2.2.2.2.2.2.2.2.2.2.2.1
theorem dX8_digest_51 : decode cX8_digest 51 = .ok (.aload_n 0, 1) := bX8_digest_25.2.2.2.2.2.2.2.2.2.2.2.2.2.2.1
theorem dX8_digest_52 : decode cX8_digest 52 = .ok (.getfield 13, 3) := bX8_digest_25.2.2.2.2.2.2.2.2.2.2.2.2.2.2.2
theorem bX8_digest_55 : (decode cX8_digest 55 = .ok (.bipush 6, 2)) ∧ (decode cX8_digest 57 = .ok (.iload_n 3, 1)) ∧ (decode cX8_digest 58 = .ok (.iadd, 1)) ∧ (decode cX8_digest 59 = .ok (.iaload, 1)) ∧ (decode cX8_digest 60 = .ok (.i2l, 1)) ∧ (decode cX8_digest 61 = .ok (.ladd, 1)) ∧ (decode cX8_digest 62 = .ok (.lmul, 1)) ∧ (decode cX8_digest 63 = .ok (.aload_n 0, 1)) ∧ (decode cX8_digest 64 = .ok (.getfield 13, 3)) ∧ (decode cX8_digest 67 = .ok (.bipush 13, 2)) ∧ (decode cX8_digest 69 = .ok (.iload_n 3, 1)) ∧ (decode cX8_digest 70 = .ok (.iadd, 1)) ∧ (decode cX8_digest 71 = .ok (.iaload, 1)) ∧ (decode cX8_digest 72 = .ok (.i2l, 1)) ∧ (decode cX8_digest 73 = .ok (.ladd, 1)) ∧ (decode cX8_digest 74 = .ok (.lstore_n 1, 1)) := by decide +kernel
theorem dX8_digest_55 : decode cX8_digest 55 = .ok (.bipush 6, 2) := bX8_digest_55.1
theorem dX8_digest_57 : decode cX8_digest 57 = .ok (.iload_n 3, 1) := bX8_digest_55.2.1
theorem dX8_digest_58 : decode cX8_digest 58 = .ok (.iadd, 1) := bX8_digest_55.2.2.1
theorem dX8_digest_59 : decode cX8_digest 59 = .ok (.iaload, 1) := bX8_digest_55.2.2.2.1
theorem dX8_digest_60 : decode cX8_digest 60 = .ok (.i2l, 1) := bX8_digest_55.2.2.2.2.1
theorem dX8_digest_61 : decode cX8_digest 61 = .ok (.ladd, 1) := bX8_digest_55.2.2.2.2.2.1
theorem dX8_digest_62 : decode cX8_digest 62 = .ok (.lmul, 1) := bX8_digest_55.2.2.2.2.2.2.1
theorem dX8_digest_63 : decode cX8_digest 63 = .ok (.aload_n 0, 1) := bX8_digest_55.2.2.2.2.2.2.2.1
theorem dX8_digest_64 : decode cX8_digest 64 = .ok (.getfield 13, 3) := bX8_digest_55.2.2.2.2.2.2.2.2.1
theorem dX8_digest_67 : decode cX8_digest 67 = .ok (.bipush 13, 2) := bX8_digest_55.2.2.2.2.2.2.2.2.2.1
theorem dX8_digest_69 : decode cX8_digest 69 = .ok (.iload_n 3, 1) := bX8_digest_55.2.2.2.2.2.2.2.2.2.2.1
theorem dX8_digest_70 : decode cX8_digest 70 = .ok (.iadd, 1) := bX8_digest_55.2.2.2.2.2.2.2.2.2.2.2.1
theorem dX8_digest_71 : decode cX8_digest 71 = .ok (.iaload, 1) := bX8_digest_55.2.2.2.2.2.2.2.2.2.2.2.2.1
theorem dX8_digest_72 : decode cX8_digest 72 = .ok (.i2l, 1) := bX8_digest_55.2.2.2.2.2.2.2.2.2.2.2.2.2.1
theorem dX8_digest_73 : decode cX8_digest 73 = .ok (.ladd, 1) := bX8_digest_55.2.2.2.2.2.2.2.2.2.2.2.2.2.2.1
theorem dX8_digest_74 : decode cX8_digest 74 = .ok (.lstore_n 1, 1) := bX8_digest_55.2.2.2.2.2.2.2.2.2.2.2.2.2.2.2
theorem bX8_digest_75 : (decode cX8_digest 75 = .ok (.iinc 3 1, 3)) ∧ (decode cX8_digest 78 = .ok (.goto (-45), 3)) ∧ (decode cX8_digest 81 = .ok (.iconst 0, 1)) ∧ (decode cX8_digest 82 = .ok (.istore_n 3, 1)) ∧ (decode cX8_digest 83 = .ok (.iload_n 3, 1)) ∧ (decode cX8_digest 84 = .ok (.aload_n 0, 1)) ∧ (decode cX8_digest 85 = .ok (.getfield 13, 3)) ∧ (decode cX8_digest 88 = .ok (.iconst 1, 1)) ∧ (decode cX8_digest 89 = .ok (.iaload, 1)) ∧ (decode cX8_digest 90 = .ok (.if_icmp .ge 39, 3)) ∧ (decode cX8_digest 93 = .ok (.iconst 0, 1)) ∧ (decode cX8_digest 94 = .ok (.istore 4, 2)) ∧ (decode cX8_digest 96 = .ok (.iload 4, 2)) ∧ (decode cX8_digest 98 = .ok (.iconst 5, 1)) ∧ (decode cX8_digest 99 = .ok (.if_icmp .ge 24, 3)) ∧ (decode cX8_digest 102 = .ok (.ldc2_w 255, 3)) := by decide +kernel
theorem dX8_digest_75 : decode cX8_digest 75 = .ok (.iinc 3 1, 3) := bX8_digest_75.1
theorem dX8_digest_78 : decode cX8_digest 78 = .ok (.goto (-45), 3) := bX8_digest_75.2.1
theorem dX8_digest_81 : decode cX8_digest 81 = .ok (.iconst 0, 1) := bX8_digest_75.2.2.1
theorem dX8_digest_82 : decode cX8_digest 82 = .ok (.istore_n 3, 1) := bX8_digest_75.2.2.2.1
theorem dX8_digest_83 : decode cX8_digest 83 = .ok (.iload_n 3, 1) := bX8_digest_75.2.2.2.2.1
theorem dX8_digest_84 : decode cX8_digest 84 = .ok (.aload_n 0, 1) := bX8_digest_75.2.2.2.2.2.1
theorem dX8_digest_85 : decode cX8_digest 85 = .ok (.getfield 13, 3) := bX8_digest_75.2.2.2.2.2.2.1
theorem dX8_digest_88 : decode cX8_digest 88 = .ok (.iconst 1, 1) := bX8_digest_75.2.2.2.2.2.2.2.1
theorem dX8_digest_89 : decode cX8_digest 89 = .ok (.iaload, 1) := bX8_digest_75.2.2.2.2.2.2.2.2.1
theorem dX8_digest_90 : decode cX8_digest 90 = .ok (.if_icmp .ge 39, 3) := bX8_digest_75.2.2.2.2.2.2.2.2.2.1
theorem dX8_digest_93 : decode cX8_digest 93 = .ok (.iconst 0, 1) := bX8_digest_75.2.2.2.2.2.2.2.2.2.2.1
theorem dX8_digest_94 : decode cX8_digest 94 = .ok (.istore 4, 2) := bX8_digest_75.2.2.2.2.2.2.2.2.2.2.2.1
theorem dX8_digest_96 : decode cX8_digest 96 = .ok (.iload 4, 2) := bX8_digest_75.2.2.2.2.2.2.2.2.2.2.2.2.1
theorem dX8_digest_98 : decode cX8_digest 98 = .ok (.iconst 5, 1) := bX8_digest_75.2.2.2.2.2.2.2.2.2.2.2.2.2.1
theorem dX8_digest_99 : decode cX8_digest 99 = .ok (.if_icmp .ge 24, 3) := bX8_digest_75.2.2.2.2.2.2.2.2.2.2.2.2.2.2.1
theorem dX8_digest_102 : decode cX8_digest 102 = .ok (.ldc2_w 255, 3) := bX8_digest_75.2.2.2.2.2.2.2.2.2.2.2.2.2.2.2
theorem bX8_digest_105 : (decode cX8_digest 105 = .ok (.lload_n 1, 1)) ∧ (decode cX8_digest 106 = .ok (.lmul, 1)) ∧ (decode cX8_digest 107 = .ok (.aload_n 0, 1)) ∧ (decode cX8_digest 108 = .ok (.iload_n 3, 1)) ∧ (decode cX8_digest 109 = .ok (.iload 4, 2)) ∧ (decode cX8_digest 111 = .ok (.invokevirtual 184, 3)) ∧ (decode cX8_digest 114 = .ok (.i2l, 1)) ∧ (decode cX8_digest 115 = .ok (.ladd, 1)) ∧ (decode cX8_digest 116 = .ok (.lstore_n 1, 1)) ∧ (decode cX8_digest 117 = .ok (.iinc 4 1, 3)) ∧ (decode cX8_digest 120 = .ok (.goto (-24), 3)) ∧ (decode cX8_digest 123 = .ok (.iinc 3 1, 3)) ∧ (decode cX8_digest 126 = .ok (.goto (-43), 3)) ∧ (decode cX8_digest 129 = .ok (.iconst 0, 1)) ∧ (decode cX8_digest 130 = .ok (.istore_n 3, 1)) ∧ (decode cX8_digest 131 = .ok (.iload_n 3, 1)) := by decide +kernel
theorem dX8_digest_105 : decode cX8_digest 105 = .ok (.lload_n 1, 1) := bX8_digest_105.1
theorem dX8_digest_106 : decode cX8_digest 106 = .ok (.lmul, 1) := bX8_digest_105.2.1
theorem dX8_digest_107 : decode cX8_digest 107 = .ok (.aload_n 0, 1) := bX8_digest_105.2.2.1
theorem dX8_digest_108 : decode cX8_digest 108 = .ok (.iload_n 3, 1) := bX8_digest_105.2.2.2.1
theorem dX8_digest_109 : decode cX8_digest 109 = .ok (.iload 4, 2) := bX8_digest_105.2.2.2.2.1
theorem dX8_digest_111 : decode cX8_digest 111 = .ok (.invokevirtual 184, 3) := bX8_digest_105.2.2.2.2.2.1
theorem dX8_digest_114 : decode cX8_digest 114 = .ok (.i2l, 1) := bX8_digest_105.2.2.2.2.2.2.1
theorem dX8_digest_115 : decode cX8_digest 115 = .ok (.ladd, 1) := bX8_digest_105.2.2.2.2.2.2.2.1
theorem dX8_digest_116 : decode cX8_digest 116 = .ok (.lstore_n 1, 1) := bX8_digest_105.2.2.2.2.2.2.2.2.1
theorem dX8_digest_117 : decode cX8_digest 117 = .ok (.iinc 4 1, 3) := bX8_digest_105.2.2.2.2.2.2.2.2.2.1
theorem dX8_digest_120 : decode cX8_digest 120 = .ok (.goto (-24), 3) := bX8_digest_105.2.2.2.2.2.2.2.2.2.2.1
theorem dX8_digest_123 : decode cX8_digest 123 = .ok (.iinc 3 1, 3) := bX8_digest_105.2.2.2.2.2.2.2.2.2.2.2.1
theorem dX8_digest_126 : decode cX8_digest 126 = .ok (.goto (-43), 3) := bX8_digest_105.2.2.2.2.2.2.2.2.2.2.2.2.1
theorem dX8_digest_129 : decode cX8_digest 129 = .ok (.iconst 0, 1) := bX8_digest_105.2.2.2.2.2.2.2.2.2.2.2.2.2.1
theorem dX8_digest_130 : decode cX8_digest 130 = .ok (.istore_n 3, 1) := bX8_digest_105.2.2.2.2.2.2.2.2.2.2.2.2.2.2.1
theorem dX8_digest_131 : decode cX8_digest 131 = .ok (.iload_n 3, 1) := bX8_digest_105.2.2.2.2.2.2.2.2.2.2.2.2.2.2.2
theorem bX8_digest_132 : (decode cX8_digest 132 = .ok (.iconst 4, 1)) ∧ (decode cX8_digest 133 = .ok (.aload_n 0, 1)) ∧ (decode cX8_digest 134 = .ok (.getfield 13, 3)) ∧ (decode cX8_digest 137 = .ok (.iconst 2, 1)) ∧ (decode cX8_digest 138 = .ok (.iaload, 1)) ∧ (decode cX8_digest 139 = .ok (.imul, 1)) ∧ (decode cX8_digest 140 = .ok (.if_icmp .ge 26, 3)) ∧ (decode cX8_digest 143 = .ok (.ldc2_w 255, 3)) ∧ (decode cX8_digest 146 = .ok (.lload_n 1, 1)) ∧ (decode cX8_digest 147 = .ok (.lmul, 1)) ∧ (decode cX8_digest 148 = .ok (.aload_n 0, 1)) ∧ (decode cX8_digest 149 = .ok (.getfield 13, 3)) ∧ (decode cX8_digest 152 = .ok (.bipush 50, 2)) ∧ (decode cX8_digest 154 = .ok (.iload_n 3, 1)) ∧ (decode cX8_digest 155 = .ok (.iadd, 1)) ∧ (decode cX8_digest 156 = .ok (.iaload, 1)) := by decide +kernel
theorem dX8_digest_132 : decode cX8_digest 132 = .ok (.iconst 4, 1) := bX8_digest_132.1
theorem dX8_digest_133 : decode cX8_digest 133 = .ok (.aload_n 0, 1) := bX8_digest_132.2.1
theorem dX8_digest_134 : decode cX8_digest 134 = .ok (.getfield 13, 3) := bX8_digest_132.2.2.1
theorem dX8_digest_137 : decode cX8_digest 137 = .ok (.iconst 2, 1) := bX8_digest_132.2.2.2.1
theorem dX8_digest_138 : decode cX8_digest 138 = .ok (.iaload, 1) := bX8_digest_132.2.2.2.2.1
theorem dX8_digest_139 : decode cX8_digest 139 = .ok (.imul, 1) := bX8_digest_132.2.2.2.2.2.1
theorem dX8_digest_140 : decode cX8_digest 140 = .ok (.if_icmp .ge 26, 3) := bX8_digest_132.2.2.2.2.2.2.1
theorem dX8_digest_143 : decode cX8_digest 143 = .ok (.ldc2_w 255, 3) := bX8_digest_132.2.2.2.2.2.2.2.1
theorem dX8_digest_146 : decode cX8_digest 146 = .ok (.lload_n 1, 1) := bX8_digest_132.2.2.2.2.2.2.2.2.1
theorem dX8_digest_147 : decode cX8_digest 147 = .ok (.lmul, 1) := bX8_digest_132.2.2.2.2.2.2.2.2.2.1
theorem dX8_digest_148 : decode cX8_digest 148 = .ok (.aload_n 0, 1) := bX8_digest_132.2.2.2.2.2.2.2.2.2.2.1
theorem dX8_digest_149 : decode cX8_digest 149 = .ok (.getfield 13, 3) := bX8_digest_132.2.2.2.2.2.2.2.2.2.2.2.1
theorem dX8_digest_152 : decode cX8_digest 152 = .ok (.bipush 50, 2) := bX8_digest_132.2.2.2.2.2.2.2.2.2.2.2.2.1
theorem dX8_digest_154 : decode cX8_digest 154 = .ok (.iload_n 3, 1) := bX8_digest_132.2.2.2.2.2.2.2.2.2.2.2.2.2.1
theorem dX8_digest_155 : decode cX8_digest 155 = .ok (.iadd, 1) := bX8_digest_132.2.2.2.2.2.2.2.2.2.2.2.2.2.2.1
theorem dX8_digest_156 : decode cX8_digest 156 = .ok (.iaload, 1) := bX8_digest_132.2.2.2.2.2.2.2.2.2.2.2.2.2.2.2
theorem bX8_digest_157 : (decode cX8_digest 157 = .ok (.i2l, 1)) ∧ (decode cX8_digest 158 = .ok (.ladd, 1)) ∧ (decode cX8_digest 159 = .ok (.lstore_n 1, 1)) ∧ (decode cX8_digest 160 = .ok (.iinc 3 1, 3)) ∧ (decode cX8_digest 163 = .ok (.goto (-32), 3)) ∧ (decode cX8_digest 166 = .ok (.iconst 0, 1)) ∧ (decode cX8_digest 167 = .ok (.istore_n 3, 1)) ∧ (decode cX8_digest 168 = .ok (.iload_n 3, 1)) ∧ (decode cX8_digest 169 = .ok (.iconst 4, 1)) ∧ (decode cX8_digest 170 = .ok (.aload_n 0, 1)) ∧ (decode cX8_digest 171 = .ok (.getfield 13, 3)) ∧ (decode cX8_digest 174 = .ok (.iconst 3, 1)) ∧ (decode cX8_digest 175 = .ok (.iaload, 1)) ∧ (decode cX8_digest 176 = .ok (.imul, 1)) ∧ (decode cX8_digest 177 = .ok (.if_icmp .ge 26, 3)) ∧ (decode cX8_digest 180 = .ok (.ldc2_w 255, 3)) := by decide +kernel
theorem dX8_digest_157 : decode cX8_digest 157 = .ok (.i2l, 1) := bX8_digest_157.1
theorem dX8_digest_158 : decode cX8_digest 158 = .ok (.ladd, 1) := bX8_digest_157.2.1
theorem dX8_digest_159 : decode cX8_digest 159 = .ok (.lstore_n 1, 1) := bX8_digest_157.2.2.1
theorem dX8_digest_160 : decode cX8_digest 160 = .ok (.iinc 3 1, 3) := bX8_digest_157.2.2.2.1
theorem dX8_digest_163 : decode cX8_digest 163 = .ok (.goto (-32), 3) := bX8_digest_157.2.2.2.2.1
theorem dX8_digest_166 : decode cX8_digest 166 = .ok (.iconst 0, 1) := bX8_digest_157.2.2.2.2.2.1
theorem dX8_digest_167 : decode cX8_digest 167 = .ok (.istore_n 3, 1) := bX8_digest_157.2.2.2.2.2.2.1
theorem dX8_digest_168 : decode cX8_digest 168 = .ok (.iload_n 3, 1) := bX8_digest_157.2.2.2.2.2.2.2.1
theorem dX8_digest_169 : decode cX8_digest 169 = .ok (.iconst 4, 1) := bX8_digest_157.2.2.2.2.2.2.2.2.1
theorem dX8_digest_170 : decode cX8_digest 170 = .ok (.aload_n 0, 1) := bX8_digest_157.2.2.2.2.2.2.2.2.2.1
theorem dX8_digest_171 : decode cX8_digest 171 = .ok (.getfield 13, 3) := bX8_digest_157.2.2.2.2.2.2.2.2.2.2.1
theorem dX8_digest_174 : decode cX8_digest 174 = .ok (.iconst 3, 1) := bX8_digest_157.2.2.2.2.2.2.2.2.2.2.2.1
theorem dX8_digest_175 : decode cX8_digest 175 = .ok (.iaload, 1) := bX8_digest_157.2.2.2.2.2.2.2.2.2.2.2.2.1
theorem dX8_digest_176 : decode cX8_digest 176 = .ok (.imul, 1) := bX8_digest_157.2.2.2.2.2.2.2.2.2.2.2.2.2.1
theorem dX8_digest_177 : decode cX8_digest 177 = .ok (.if_icmp .ge 26, 3) := bX8_digest_157.2.2.2.2.2.2.2.2.2.2.2.2.2.2.1
theorem dX8_digest_180 : decode cX8_digest 180 = .ok (.ldc2_w 255, 3) := bX8_digest_157.2.2.2.2.2.2.2.2.2.2.2.2.2.2.2
theorem bX8_digest_183 : (decode cX8_digest 183 = .ok (.lload_n 1, 1)) ∧ (decode cX8_digest 184 = .ok (.lmul, 1)) ∧ (decode cX8_digest 185 = .ok (.aload_n 0, 1)) ∧ (decode cX8_digest 186 = .ok (.getfield 13, 3)) ∧ (decode cX8_digest 189 = .ok (.bipush 70, 2)) ∧ (decode cX8_digest 191 = .ok (.iload_n 3, 1)) ∧ (decode cX8_digest 192 = .ok (.iadd, 1)) ∧ (decode cX8_digest 193 = .ok (.iaload, 1)) ∧ (decode cX8_digest 194 = .ok (.i2l, 1)) ∧ (decode cX8_digest 195 = .ok (.ladd, 1)) ∧ (decode cX8_digest 196 = .ok (.lstore_n 1, 1)) ∧ (decode cX8_digest 197 = .ok (.iinc 3 1, 3)) ∧ (decode cX8_digest 200 = .ok (.goto (-32), 3)) ∧ (decode cX8_digest 203 = .ok (.iconst 0, 1)) ∧ (decode cX8_digest 204 = .ok (.istore_n 3, 1)) ∧ (decode cX8_digest 205 = .ok (.iload_n 3, 1)) := by decide +kernel
theorem dX8_digest_183 : decode cX8_digest 183 = .ok (.lload_n 1, 1) := bX8_digest_183.1
theorem dX8_digest_184 : decode cX8_digest 184 = .ok (.lmul, 1) := bX8_digest_183.2.1
theorem dX8_digest_185 : decode cX8_digest 185 = .ok (.aload_n 0, 1) := bX8_digest_183.2.2.1
theorem dX8_digest_186 : decode cX8_digest 186 = .ok (.getfield 13, 3) := bX8_digest_183.2.2.2.1
theorem dX8_digest_189 : decode cX8_digest 189 = .ok (.bipush 70, 2) := bX8_digest_183.2.2.2.2.1
theorem dX8_digest_191 : decode cX8_digest 191 = .ok (.iload_n 3, 1) := bX8_digest_183.2.2.2.2.2.1
theorem dX8_digest_192 : decode cX8_digest 192 = .ok (.iadd, 1) := bX8_digest_183.2.2.2.2.2.2.1
theorem dX8_digest_193 : decode cX8_digest 193 = .ok (.iaload, 1) := bX8_digest_183.2.2.2.2.2.2.2.1
theorem dX8_digest_194 : decode cX8_digest 194 = .ok (.i2l, 1) := bX8_digest_183.2.2.2.2.2.2.2.2.1
theorem dX8_digest_195 : decode cX8_digest 195 = .ok (.ladd, 1) := bX8_digest_183.2.2.2.2.2.2.2.2.2.1
theorem dX8_digest_196 : decode cX8_digest 196 = .ok (.lstore_n 1, 1) := bX8_digest_183.2.2.2.2.2.2.2.2.2.2.1
theorem dX8_digest_197 : decode cX8_digest 197 = .ok (.iinc 3 1, 3) := bX8_digest_183.2.2.2.2.2.2.2.2.2.2.2.1
theorem dX8_digest_200 : decode cX8_digest 200 = .ok (.goto (-32), 3) := bX8_digest_183.2.2.2.2.2.2.2.2.2.2.2.2.1
theorem dX8_digest_203 : decode cX8_digest 203 = .ok (.iconst 0, 1) := bX8_digest_183.2.2.2.2.2.2.2.2.2.2.2.2.2.1
theorem dX8_digest_204 : decode cX8_digest 204 = .ok (.istore_n 3, 1) := bX8_digest_183.2.2.2.2.2.2.2.2.2.2.2.2.2.2.1
theorem dX8_digest_205 : decode cX8_digest 205 = .ok (.iload_n 3, 1) := bX8_digest_183.2.2.2.2.2.2.2.2.2.2.2.2.2.2.2
theorem bX8_digest_206 : (decode cX8_digest 206 = .ok (.iconst 4, 1)) ∧ (decode cX8_digest 207 = .ok (.aload_n 0, 1)) ∧ (decode cX8_digest 208 = .ok (.getfield 13, 3)) ∧ (decode cX8_digest 211 = .ok (.iconst 4, 1)) ∧ (decode cX8_digest 212 = .ok (.iaload, 1)) ∧ (decode cX8_digest 213 = .ok (.imul, 1)) ∧ (decode cX8_digest 214 = .ok (.if_icmp .ge 26, 3)) ∧ (decode cX8_digest 217 = .ok (.ldc2_w 255, 3)) ∧ (decode cX8_digest 220 = .ok (.lload_n 1, 1)) ∧ (decode cX8_digest 221 = .ok (.lmul, 1)) ∧ (decode cX8_digest 222 = .ok (.aload_n 0, 1)) ∧ (decode cX8_digest 223 = .ok (.getfield 13, 3)) ∧ (decode cX8_digest 226 = .ok (.bipush 94, 2)) ∧ (decode cX8_digest 228 = .ok (.iload_n 3, 1)) ∧ (decode cX8_digest 229 = .ok (.iadd, 1)) ∧ (decode cX8_digest 230 = .ok (.iaload, 1)) := by decide +kernel
theorem dX8_digest_206 : decode cX8_digest 206 = .ok (.iconst 4, 1) := bX8_digest_206.1
theorem dX8_digest_207 : decode cX8_digest 207 = .ok (.aload_n 0, 1) := bX8_digest_206.2.1
theorem dX8_digest_208 : decode cX8_digest 208 = .ok (.getfield 13, 3) := bX8_digest_206.2.2.1
theorem dX8_digest_211 : decode cX8_digest 211 = .ok (.iconst 4, 1) := bX8_digest_206.2.2.2.1
theorem dX8_digest_212 : decode cX8_digest 212 = .ok (.iaload, 1) := bX8_digest_206.2.2.2.2.1
theorem dX8_digest_213 : decode cX8_digest 213 = .ok (.imul, 1) := bX8_digest_206.2.2.2.2.2.1
theorem dX8_digest_214 : decode cX8_digest 214 = .ok (.if_icmp .ge 26, 3) := bX8_digest_206.2.2.2.2.2.2.1
theorem dX8_digest_217 : decode cX8_digest 217 = .ok (.ldc2_w 255, 3) := bX8_digest_206.2.2.2.2.2.2.2.1
theorem dX8_digest_220 : decode cX8_digest 220 = .ok (.lload_n 1, 1) := bX8_digest_206.2.2.2.2.2.2.2.2.1
theorem dX8_digest_221 : decode cX8_digest 221 = .ok (.lmul, 1) := bX8_digest_206.2.2.2.2.2.2.2.2.2.1
theorem dX8_digest_222 : decode cX8_digest 222 = .ok (.aload_n 0, 1) := bX8_digest_206.2.2.2.2.2.2.2.2.2.2.1
theorem dX8_digest_223 : decode cX8_digest 223 = .ok (.getfield 13, 3) := bX8_digest_206.2.2.2.2.2.2.2.2.2.2.2.1
theorem dX8_digest_226 : decode cX8_digest 226 = .ok (.bipush 94, 2) := bX8_digest_206.2.2.2.2.2.2.2.2.2.2.2.2.1
theorem dX8_digest_228 : decode cX8_digest 228 = .ok (.iload_n 3, 1) := bX8_digest_206.2.2.2.2.2.2.2.2.2.2.2.2.2.1
theorem dX8_digest_229 : decode cX8_digest 229 = .ok (.iadd, 1) := bX8_digest_206.2.2.2.2.2.2.2.2.2.2.2.2.2.2.1
theorem dX8_digest_230 : decode cX8_digest 230 = .ok (.iaload, 1) := bX8_digest_206.2.2.2.2.2.2.2.2.2.2.2.2.2.2.2
theorem bX8_digest_231 : (decode cX8_digest 231 = .ok (.i2l, 1)) ∧ (decode cX8_digest 232 = .ok (.ladd, 1)) ∧ (decode cX8_digest 233 = .ok (.lstore_n 1, 1)) ∧ (decode cX8_digest 234 = .ok (.iinc 3 1, 3)) ∧ (decode cX8_digest 237 = .ok (.goto (-32), 3)) ∧ (decode cX8_digest 240 = .ok (.ldc2_w 255, 3)) ∧ (decode cX8_digest 243 = .ok (.ldc2_w 255, 3)) ∧ (decode cX8_digest 246 = .ok (.lload_n 1, 1)) ∧ (decode cX8_digest 247 = .ok (.lmul, 1)) ∧ (decode cX8_digest 248 = .ok (.aload_n 0, 1)) ∧ (decode cX8_digest 249 = .ok (.getfield 228, 3)) ∧ (decode cX8_digest 252 = .ok (.ladd, 1)) ∧ (decode cX8_digest 253 = .ok (.lmul, 1)) ∧ (decode cX8_digest 254 = .ok (.aload_n 0, 1)) ∧ (decode cX8_digest 255 = .ok (.getfield 36, 3)) ∧ (decode cX8_digest 258 = .ok (.ladd, 1)) := by decide +kernel
theorem dX8_digest_231 : decode cX8_digest 231 = .ok (.i2l, 1) := bX8_digest_231.1
theorem dX8_digest_232 : decode cX8_digest 232 = .ok (.ladd, 1) := bX8_digest_231.2.1
theorem dX8_digest_233 : decode cX8_digest 233 = .ok (.lstore_n 1, 1) := bX8_digest_231.2.2.1
theorem dX8_digest_234 : decode cX8_digest 234 = .ok (.iinc 3 1, 3) := bX8_digest_231.2.2.2.1
theorem dX8_digest_237 : decode cX8_digest 237 = .ok (.goto (-32), 3) := bX8_digest_231.2.2.2.2.1
theorem dX8_digest_240 : decode cX8_digest 240 = .ok (.ldc2_w 255, 3) := bX8_digest_231.2.2.2.2.2.1
theorem dX8_digest_243 : decode cX8_digest 243 = .ok (.ldc2_w 255, 3) := bX8_digest_231.2.2.2.2.2.2.1
theorem dX8_digest_246 : decode cX8_digest 246 = .ok (.lload_n 1, 1) := bX8_digest_231.2.2.2.2.2.2.2.1
theorem dX8_digest_247 : decode cX8_digest 247 = .ok (.lmul, 1) := bX8_digest_231.2.2.2.2.2.2.2.2.1
theorem dX8_digest_248 : decode cX8_digest 248 = .ok (.aload_n 0, 1) := bX8_digest_231.2.2.2.2.2.2.2.2.2.1
theorem dX8_digest_249 : decode cX8_digest 249 = .ok (.getfield 228, 3) := bX8_digest_231.2.2.2.2.2.2.2.2.2.2.1
theorem dX8_digest_252 : decode cX8_digest 252 = .ok (.ladd, 1) := bX8_digest_231.2.2.2.2.2.2.2.2.2.2.2.1
theorem dX8_digest_253 : decode cX8_digest 253 = .ok (.lmul, 1) := bX8_digest_231.2.2.2.2.2.2.2.2.2.2.2.2.1
theorem dX8_digest_254 : decode cX8_digest 254 = .ok (.aload_n 0, 1) := bX8_digest_231.2.2.2.2.2.2.2.2.2.2.2.2.2.1
theorem dX8_digest_255 : decode cX8_digest 255 = .ok (.getfield 36, 3) := bX8_digest_231.2.2.2.2.2.2.2.2.2.2.2.2.2.2.1
theorem dX8_digest_258 : decode cX8_digest 258 = .ok (.ladd, 1) := bX8_digest_231.2.2.2.2.2.2.2.2.2.2.2.2.2.2.2
theorem dX8_digest_259 : decode cX8_digest 259 = .ok (.lreturn, 1) := by decide +kernel
theorem bJ6_bitCount_0f7a4_0 : (decode cJ6_bitCount_0f7a4 0 = .ok (.iload_n 0, 1)) ∧ (decode cJ6_bitCount_0f7a4 1 = .ok (.iload_n 0, 1)) ∧ (decode cJ6_bitCount_0f7a4 2 = .ok (.iconst 1, 1)) ∧ (decode cJ6_bitCount_0f7a4 3 = .ok (.iushr, 1)) ∧ (decode cJ6_bitCount_0f7a4 4 = .ok (.ldc_w 265, 3)) ∧ (decode cJ6_bitCount_0f7a4 7 = .ok (.iand, 1)) ∧ (decode cJ6_bitCount_0f7a4 8 = .ok (.isub, 1)) ∧ (decode cJ6_bitCount_0f7a4 9 = .ok (.istore_n 0, 1)) ∧ (decode cJ6_bitCount_0f7a4 10 = .ok (.iload_n 0, 1)) ∧ (decode cJ6_bitCount_0f7a4 11 = .ok (.ldc_w 266, 3)) ∧ (decode cJ6_bitCount_0f7a4 14 = .ok (.iand, 1)) ∧ (decode cJ6_bitCount_0f7a4 15 = .ok (.iload_n 0, 1)) ∧ (decode cJ6_bitCount_0f7a4 16 = .ok (.iconst 2, 1)) ∧ (decode cJ6_bitCount_0f7a4 17 = .ok (.iushr, 1)) ∧ (decode cJ6_bitCount_0f7a4 18 = .ok (.ldc_w 266, 3)) ∧ (decode cJ6_bitCount_0f7a4 21 = .ok (.iand, 1)) := by decide +kernel
theorem dJ6_bitCount_0f7a4_0 : decode cJ6_bitCount_0f7a4 0 = .ok (.iload_n 0, 1) := bJ6_bitCount_0f7a4_0.1
theorem dJ6_bitCount_0f7a4_1 : decode cJ6_bitCount_0f7a4 1 = .ok (.iload_n 0, 1) := bJ6_bitCount_0f7a4_0.2.1
theorem dJ6_bitCount_0f7a4_2 : decode cJ6_bitCount_0f7a4 2 = .ok (.iconst 1, 1) := bJ6_bitCount_0f7a4_0.2.2.1
theorem dJ6_bitCount_0f7a4_3 : decode cJ6_bitCount_0f7a4 3 = .ok (.iushr, 1) := bJ6_bitCount_0f7a4_0.2.2.2.1
theorem dJ6_bitCount_0f7a4_4 : decode cJ6_bitCount_0f7a4 4 = .ok (.ldc_w 265, 3) := bJ6_bitCount_0f7a4_0.2.2.2.2.1
theorem dJ6_bitCount_0f7a4_7 : decode cJ6_bitCount_0f7a4 7 = .ok (.iand, 1) := bJ6_bitCount_0f7a4_0.2.2.2.2.2.1
theorem dJ6_bitCount_0f7a4_8 : decode cJ6_bitCount_0f7a4 8 = .ok (.isub, 1) := bJ6_bitCount_0f7a4_0.2.2.2.2.2.2.1
theorem dJ6_bitCount_0f7a4_9 : decode cJ6_bitCount_0f7a4 9 = .ok (.istore_n 0, 1) := bJ6_bitCount_0f7a4_0.2.2.2.2.2.2.2.1
theorem dJ6_bitCount_0f7a4_10 : decode cJ6_bitCount_0f7a4 10 = .ok (.iload_n 0, 1) := bJ6_bitCount_0f7a4_0.2.2.2.2.2.2.2.2.1
theorem dJ6_bitCount_0f7a4_11 : decode cJ6_bitCount_0f7a4 11 = .ok (.ldc_w 266, 3) := bJ6_bitCount_0f7a4_0.2.2.2.2.2.2.2.2.2.1
theorem dJ6_bitCount_0f7a4_14 : decode cJ6_bitCount_0f7a4 14 = .ok (.iand, 1) := bJ6_bitCount_0f7a4_0.2.2.2.2.2.2.2.2.2.2.1
theorem dJ6_bitCount_0f7a4_15 : decode cJ6_bitCount_0f7a4 15 = .ok (.iload_n 0, 1) := bJ6_bitCount_0f7a4_0.2.2.2.2.2.2.2.2.2.2.2.1
theorem dJ6_bitCount_0f7a4_16 : decode cJ6_bitCount_0f7a4 16 = .ok (.iconst 2, 1) := bJ6_bitCount_0f7a4_0.2.2.2.2.2.2.2.2.2.2.2.2.1
theorem dJ6_bitCount_0f7a4_17 : decode cJ6_bitCount_0f7a4 17 = .ok (.iushr, 1) := bJ6_bitCount_0f7a4_0.2.2.2.2.2.2.2.2.2.2.2.2.2.1
theorem dJ6_bitCount_0f7a4_18 : decode cJ6_bitCount_0f7a4 18 = .ok (.ldc_w 266, 3) := bJ6_bitCount_0f7a4_0.2.2.2.2.2.2.2.2.2.2.2.2.2.2.1
theorem dJ6_bitCount_0f7a4_21 : decode cJ6_bitCount_0f7a4 21 = .ok (.iand, 1) := bJ6_bitCount_0f7a4_0.2.2.2.2.2.2.2.2.2.2.2.2.2.2.2
theorem bJ6_bitCount_0f7a4_22 : (decode cJ6_bitCount_0f7a4 22 = .ok (.iadd, 1)) ∧ (decode cJ6_bitCount_0f7a4 23 = .ok (.istore_n 0, 1)) ∧ (decode cJ6_bitCount_0f7a4 24 = .ok (.iload_n 0, 1)) ∧ (decode cJ6_bitCount_0f7a4 25 = .ok (.iload_n 0, 1)) ∧ (decode cJ6_bitCount_0f7a4 26 = .ok (.iconst 4, 1)) ∧ (decode cJ6_bitCount_0f7a4 27 = .ok (.iushr, 1)) ∧ (decode cJ6_bitCount_0f7a4 28 = .ok (.iadd, 1)) ∧ (decode cJ6_bitCount_0f7a4 29 = .ok (.ldc_w 267, 3)) ∧ (decode cJ6_bitCount_0f7a4 32 = .ok (.iand, 1)) ∧ (decode cJ6_bitCount_0f7a4 33 = .ok (.istore_n 0, 1)) ∧ (decode cJ6_bitCount_0f7a4 34 = .ok (.iload_n 0, 1)) ∧ (decode cJ6_bitCount_0f7a4 35 = .ok (.iload_n 0, 1)) ∧ (decode cJ6_bitCount_0f7a4 36 = .ok (.bipush 8, 2)) ∧ (decode cJ6_bitCount_0f7a4 38 = .ok (.iushr, 1)) ∧ (decode cJ6_bitCount_0f7a4 39 = .ok (.iadd, 1)) ∧ (decode cJ6_bitCount_0f7a4 40 = .ok (.istore_n 0, 1)) := by decide +kernel
theorem dJ6_bitCount_0f7a4_22 : decode cJ6_bitCount_0f7a4 22 = .ok (.iadd, 1) := bJ6_bitCount_0f7a4_22.1
theorem dJ6_bitCount_0f7a4_23 : decode cJ6_bitCount_0f7a4 23 = .ok (.istore_n 0, 1) := bJ6_bitCount_0f7a4_22.2.1
theorem dJ6_bitCount_0f7a4_24 : decode cJ6_bitCount_0f7a4 24 = .ok (.iload_n 0, 1) := bJ6_bitCount_0f7a4_22.2.2.1
theorem dJ6_bitCount_0f7a4_25 : decode cJ6_bitCount_0f7a4 25 = .ok (.iload_n 0, 1) := bJ6_bitCount_0f7a4_22.2.2.2.1
theorem dJ6_bitCount_0f7a4_26 : decode cJ6_bitCount_0f7a4 26 = .ok (.iconst 4, 1) := bJ6_bitCount_0f7a4_22.2.2.2.2.1
theorem dJ6_bitCount_0f7a4_27 : decode cJ6_bitCount_0f7a4 27 = .ok (.iushr, 1) := bJ6_bitCount_0f7a4_22.2.2.2.2.2.1
theorem dJ6_bitCount_0f7a4_28 : decode cJ6_bitCount_0f7a4 28 = .ok (.iadd, 1) := bJ6_bitCount_0f7a4_22.2.2.2.2.2.2.1
theorem dJ6_bitCount_0f7a4_29 : decode cJ6_bitCount_0f7a4 29 = .ok (.ldc_w 267, 3) := bJ6_bitCount_0f7a4_22.2.2.2.2.2.2.2.1
theorem dJ6_bitCount_0f7a4_32 : decode cJ6_bitCount_0f7a4 32 = .ok (.iand, 1) := bJ6_bitCount_0f7a4_22.2.2.2.2.2.2.2.2.1
theorem dJ6_bitCount_0f7a4_33 : decode cJ6_bitCount_0f7a4 33 = .ok (.istore_n 0, 1) := bJ6_bitCount_0f7a4_22.2.2.2.2.2.2.2.2.2.1
theorem dJ6_bitCount_0f7a4_34 : decode cJ6_bitCount_0f7a4 34 = .ok (.iload_n 0, 1) := bJ6_bitCount_0f7a4_22.2.2.2.2.2.2.2.2.2.2.1
theorem dJ6_bitCount_0f7a4_35 : decode cJ6_bitCount_0f7a4 35 = .ok (.iload_n 0, 1) := bJ6_bitCount_0f7a4_22.2.2.2.2.2.2.2.2.2.2.2.1
theorem dJ6_bitCount_0f7a4_36 : decode cJ6_bitCount_0f7a4 36 = .ok (.bipush 8, 2) := bJ6_bitCount_0f7a4_22.2.2.2.2.2.2.2.2.2.2.2.2.1
theorem dJ6_bitCount_0f7a4_38 : decode cJ6_bitCount_0f7a4 38 = .ok (.iushr, 1) := bJ6_bitCount_0f7a4_22.2.2.2.2.2.2.2.2.2.2.2.2.2.1
theorem dJ6_bitCount_0f7a4_39 : decode cJ6_bitCount_0f7a4 39 = .ok (.iadd, 1) := bJ6_bitCount_0f7a4_22.2.2.2.2.2.2.2.2.2.2.2.2.2.2.1
theorem dJ6_bitCount_0f7a4_40 : decode cJ6_bitCount_0f7a4 40 = .ok (.istore_n 0, 1) := bJ6_bitCount_0f7a4_22.2.2.2.2.2.2.2.2.2.2.2.2.2.2.2
theorem bJ6_bitCount_0f7a4_41 : (decode cJ6_bitCount_0f7a4 41 = .ok (.iload_n 0, 1)) ∧ (decode cJ6_bitCount_0f7a4 42 = .ok (.iload_n 0, 1)) ∧ (decode cJ6_bitCount_0f7a4 43 = .ok (.bipush 16, 2)) ∧ (decode cJ6_bitCount_0f7a4 45 = .ok (.iushr, 1)) ∧ (decode cJ6_bitCount_0f7a4 46 = .ok (.iadd, 1)) ∧ (decode cJ6_bitCount_0f7a4 47 = .ok (.istore_n 0, 1)) ∧ (decode cJ6_bitCount_0f7a4 48 = .ok (.iload_n 0, 1)) ∧ (decode cJ6_bitCount_0f7a4 49 = .ok (.bipush 63, 2)) ∧ (decode cJ6_bitCount_0f7a4 51 = .ok (.iand, 1)) ∧ (decode cJ6_bitCount_0f7a4 52 = .ok (.ireturn, 1)) := by decide +kernel
theorem dJ6_bitCount_0f7a4_41 : decode cJ6_bitCount_0f7a4 41 = .ok (.iload_n 0, 1) := bJ6_bitCount_0f7a4_41.1
theorem dJ6_bitCount_0f7a4_42 : decode cJ6_bitCount_0f7a4 42 = .ok (.iload_n 0, 1) := bJ6_bitCount_0f7a4_41.2.1
theorem dJ6_bitCount_0f7a4_43 : decode cJ6_bitCount_0f7a4 43 = .ok (.bipush 16, 2) := bJ6_bitCount_0f7a4_41.2.2.1
theorem dJ6_bitCount_0f7a4_45 : decode cJ6_bitCount_0f7a4 45 = .ok (.iushr, 1) := bJ6_bitCount_0f7a4_41.2.2.2.1
theorem dJ6_bitCount_0f7a4_46 : decode cJ6_bitCount_0f7a4 46 = .ok (.iadd, 1) := bJ6_bitCount_0f7a4_41.2.2.2.2.1
theorem dJ6_bitCount_0f7a4_47 : decode cJ6_bitCount_0f7a4 47 = .ok (.istore_n 0, 1) := bJ6_bitCount_0f7a4_41.2.2.2.2.2.1
theorem dJ6_bitCount_0f7a4_48 : decode cJ6_bitCount_0f7a4 48 = .ok (.iload_n 0, 1) := bJ6_bitCount_0f7a4_41.2.2.2.2.2.2.1
theorem dJ6_bitCount_0f7a4_49 : decode cJ6_bitCount_0f7a4 49 = .ok (.bipush 63, 2) := bJ6_bitCount_0f7a4_41.2.2.2.2.2.2.2.1
theorem dJ6_bitCount_0f7a4_51 : decode cJ6_bitCount_0f7a4 51 = .ok (.iand, 1) := bJ6_bitCount_0f7a4_41.2.2.2.2.2.2.2.2.1
theorem dJ6_bitCount_0f7a4_52 : decode cJ6_bitCount_0f7a4 52 = .ok (.ireturn, 1) := bJ6_bitCount_0f7a4_41.2.2.2.2.2.2.2.2.2
theorem bJ9_max_7cf53_0 : (decode cJ9_max_7cf53 0 = .ok (.iload_n 0, 1)) ∧ (decode cJ9_max_7cf53 1 = .ok (.iload_n 1, 1)) ∧ (decode cJ9_max_7cf53 2 = .ok (.if_icmp .lt 7, 3)) ∧ (decode cJ9_max_7cf53 5 = .ok (.iload_n 0, 1)) ∧ (decode cJ9_max_7cf53 6 = .ok (.goto 4, 3)) ∧ (decode cJ9_max_7cf53 9 = .ok (.iload_n 1, 1)) ∧ (decode cJ9_max_7cf53 10 = .ok (.ireturn, 1)) := by decide +kernel
theorem dJ9_max_7cf53_0 : decode cJ9_max_7cf53 0 = .ok (.iload_n 0, 1) := bJ9_max_7cf53_0.1
theorem dJ9_max_7cf53_1 : decode cJ9_max_7cf53 1 = .ok (.iload_n 1, 1) := bJ9_max_7cf53_0.2.1
theorem dJ9_max_7cf53_2 : decode cJ9_max_7cf53 2 = .ok (.if_icmp .lt 7, 3) := bJ9_max_7cf53_0.2.2.1
theorem dJ9_max_7cf53_5 : decode cJ9_max_7cf53 5 = .ok (.iload_n 0, 1) := bJ9_max_7cf53_0.2.2.2.1
theorem dJ9_max_7cf53_6 : decode cJ9_max_7cf53 6 = .ok (.goto 4, 3) := bJ9_max_7cf53_0.2.2.2.2.1
theorem dJ9_max_7cf53_9 : decode cJ9_max_7cf53 9 = .ok (.iload_n 1, 1) := bJ9_max_7cf53_0.2.2.2.2.2.1
theorem dJ9_max_7cf53_10 : decode cJ9_max_7cf53 10 = .ok (.ireturn, 1) := bJ9_max_7cf53_0.2.2.2.2.2.2
theorem bJ9_min_7cf53_0 : (decode cJ9_min_7cf53 0 = .ok (.iload_n 0, 1)) ∧ (decode cJ9_min_7cf53 1 = .ok (.iload_n 1, 1)) ∧ (decode cJ9_min_7cf53 2 = .ok (.if_icmp .gt 7, 3)) ∧ (decode cJ9_min_7cf53 5 = .ok (.iload_n 0, 1)) ∧ (decode cJ9_min_7cf53 6 = .ok (.goto 4, 3)) ∧ (decode cJ9_min_7cf53 9 = .ok (.iload_n 1, 1)) ∧ (decode cJ9_min_7cf53 10 = .ok (.ireturn, 1)) := by decide +kernel
theorem dJ9_min_7cf53_0 : decode cJ9_min_7cf53 0 = .ok (.iload_n 0, 1) := bJ9_min_7cf53_0.1
theorem dJ9_min_7cf53_1 : decode cJ9_min_7cf53 1 = .ok (.iload_n 1, 1) := bJ9_min_7cf53_0.2.1
theorem dJ9_min_7cf53_2 : decode cJ9_min_7cf53 2 = .ok (.if_icmp .gt 7, 3) := bJ9_min_7cf53_0.2.2.1
theorem dJ9_min_7cf53_5 : decode cJ9_min_7cf53 5 = .ok (.iload_n 0, 1) := bJ9_min_7cf53_0.2.2.2.1
theorem dJ9_min_7cf53_6 : decode cJ9_min_7cf53 6 = .ok (.goto 4, 3) := bJ9_min_7cf53_0.2.2.2.2.1
theorem dJ9_min_7cf53_9 : decode cJ9_min_7cf53 9 = .ok (.iload_n 1, 1) := bJ9_min_7cf53_0.2.2.2.2.2.1
theorem dJ9_min_7cf53_10 : decode cJ9_min_7cf53 10 = .ok (.ireturn, 1) := bJ9_min_7cf53_0.2.2.2.2.2.2
theorem bJ0_length_8abf5_0 : (decode cJ0_length_8abf5 0 = .ok (.aload_n 0, 1)) ∧ (decode cJ0_length_8abf5 1 = .ok (.getfield 9, 3)) ∧ (decode cJ0_length_8abf5 4 = .ok (.arraylength, 1)) ∧ (decode cJ0_length_8abf5 5 = .ok (.aload_n 0, 1)) ∧ (decode cJ0_length_8abf5 6 = .ok (.invokevirtual 335, 3)) ∧ (decode cJ0_length_8abf5 9 = .ok (.ishr, 1)) ∧ (decode cJ0_length_8abf5 10 = .ok (.ireturn, 1)) := by decide +kernel
theorem dJ0_length_8abf5_0 : decode cJ0_length_8abf5 0 = .ok (.aload_n 0, 1) := bJ0_length_8abf5_0.1
theorem dJ0_length_8abf5_1 : decode cJ0_length_8abf5 1 = .ok (.getfield 9, 3) := bJ0_length_8abf5_0.2.1
theorem dJ0_length_8abf5_4 : decode cJ0_length_8abf5 4 = .ok (.arraylength, 1) := bJ0_length_8abf5_0.2.2.1
theorem dJ0_length_8abf5_5 : decode cJ0_length_8abf5 5 = .ok (.aload_n 0, 1) := bJ0_length_8abf5_0.2.2.2.1
theorem dJ0_length_8abf5_6 : decode cJ0_length_8abf5 6 = .ok (.invokevirtual 335, 3) := bJ0_length_8abf5_0.2.2.2.2.1
theorem dJ0_length_8abf5_9 : decode cJ0_length_8abf5 9 = .ok (.ishr, 1) := bJ0_length_8abf5_0.2.2.2.2.2.1
theorem dJ0_length_8abf5_10 : decode cJ0_length_8abf5 10 = .ok (.ireturn, 1) := bJ0_length_8abf5_0.2.2.2.2.2.2
theorem bJ0_charAt_5068e_0 : (decode cJ0_charAt_5068e 0 = .ok (.aload_n 0, 1)) ∧ (decode cJ0_charAt_5068e 1 = .ok (.invokevirtual 492, 3)) ∧ (decode cJ0_charAt_5068e 4 = .ok (.ifCond .eq 12, 3)) ∧ (decode cJ0_charAt_5068e 7 = .ok (.aload_n 0, 1)) ∧ (decode cJ0_charAt_5068e 8 = .ok (.getfield 9, 3)) ∧ (decode cJ0_charAt_5068e 11 = .ok (.iload_n 1, 1)) ∧ (decode cJ0_charAt_5068e 12 = .ok (.invokestatic 495, 3)) ∧ (decode cJ0_charAt_5068e 15 = .ok (.ireturn, 1)) ∧ (decode cJ0_charAt_5068e 16 = .ok (.aload_n 0, 1)) ∧ (decode cJ0_charAt_5068e 17 = .ok (.getfield 9, 3)) ∧ (decode cJ0_charAt_5068e 20 = .ok (.iload_n 1, 1)) ∧ (decode cJ0_charAt_5068e 21 = .ok (.invokestatic 498, 3)) ∧ (decode cJ0_charAt_5068e 24 = .ok (.ireturn, 1)) := by decide +kernel
theorem dJ0_charAt_5068e_0 : decode cJ0_charAt_5068e 0 = .ok (.aload_n 0, 1) := bJ0_charAt_5068e_0.1
theorem dJ0_charAt_5068e_1 : decode cJ0_charAt_5068e 1 = .ok (.invokevirtual 492, 3) := bJ0_charAt_5068e_0.2.1
theorem dJ0_charAt_5068e_4 : decode cJ0_charAt_5068e 4 = .ok (.ifCond .eq 12, 3) := bJ0_charAt_5068e_0.2.2.1
theorem dJ0_charAt_5068e_7 : decode cJ0_charAt_5068e 7 = .ok (.aload_n 0, 1) := bJ0_charAt_5068e_0.2.2.2.1
theorem dJ0_charAt_5068e_8 : decode cJ0_charAt_5068e 8 = .ok (.getfield 9, 3) := bJ0_charAt_5068e_0.2.2.2.2.1
theorem dJ0_charAt_5068e_11 : decode cJ0_charAt_5068e 11 = .ok (.iload_n 1, 1) := bJ0_charAt_5068e_0.2.2.2.2.2.1
theorem dJ0_charAt_5068e_12 : decode cJ0_charAt_5068e 12 = .ok (.invokestatic 495, 3) := bJ0_charAt_5068e_0.2.2.2.2.2.2.1
theorem dJ0_charAt_5068e_15 : decode cJ0_charAt_5068e 15 = .ok (.ireturn, 1) := bJ0_charAt_5068e_0.2.2.2.2.2.2.2.1
theorem dJ0_charAt_5068e_16 : decode cJ0_charAt_5068e 16 = .ok (.aload_n 0, 1) := bJ0_charAt_5068e_0.2.2.2.2.2.2.2.2.1
theorem dJ0_charAt_5068e_17 : decode cJ0_charAt_5068e 17 = .ok (.getfield 9, 3) := bJ0_charAt_5068e_0.2.2.2.2.2.2.2.2.2.1
theorem dJ0_charAt_5068e_20 : decode cJ0_charAt_5068e 20 = .ok (.iload_n 1, 1) := bJ0_charAt_5068e_0.2.2.2.2.2.2.2.2.2.2.1
theorem dJ0_charAt_5068e_21 : decode cJ0_charAt_5068e 21 = .ok (.invokestatic 498, 3) := bJ0_charAt_5068e_0.2.2.2.2.2.2.2.2.2.2.2.1
theorem dJ0_charAt_5068e_24 : decode cJ0_charAt_5068e 24 = .ok (.ireturn, 1) := bJ0_charAt_5068e_0.2.2.2.2.2.2.2.2.2.2.2.2
theorem bJ0_coder_7d493_0 : (decode cJ0_coder_7d493 0 = .ok (.getstatic 38, 3)) ∧ (decode cJ0_coder_7d493 3 = .ok (.ifCond .eq 10, 3)) ∧ (decode cJ0_coder_7d493 6 = .ok (.aload_n 0, 1)) ∧ (decode cJ0_coder_7d493 7 = .ok (.getfield 15, 3)) ∧ (decode cJ0_coder_7d493 10 = .ok (.goto 4, 3)) ∧ (decode cJ0_coder_7d493 13 = .ok (.iconst 1, 1)) ∧ (decode cJ0_coder_7d493 14 = .ok (.ireturn, 1)) := by decide +kernel
theorem dJ0_coder_7d493_0 : decode cJ0_coder_7d493 0 = .ok (.getstatic 38, 3) := bJ0_coder_7d493_0.1
theorem dJ0_coder_7d493_3 : decode cJ0_coder_7d493 3 = .ok (.ifCond .eq 10, 3) := bJ0_coder_7d493_0.2.1
theorem dJ0_coder_7d493_6 : decode cJ0_coder_7d493 6 = .ok (.aload_n 0, 1) := bJ0_coder_7d493_0.2.2.1
theorem dJ0_coder_7d493_7 : decode cJ0_coder_7d493 7 = .ok (.getfield 15, 3) := bJ0_coder_7d493_0.2.2.2.1
theorem dJ0_coder_7d493_10 : decode cJ0_coder_7d493 10 = .ok (.goto 4, 3) := bJ0_coder_7d493_0.2.2.2.2.1
theorem dJ0_coder_7d493_13 : decode cJ0_coder_7d493 13 = .ok (.iconst 1, 1) := bJ0_coder_7d493_0.2.2.2.2.2.1
theorem dJ0_coder_7d493_14 : decode cJ0_coder_7d493 14 = .ok (.ireturn, 1) := bJ0_coder_7d493_0.2.2.2.2.2.2
theorem bJ0_isLatin1_aae02_0 : (decode cJ0_isLatin1_aae02 0 = .ok (.getstatic 38, 3)) ∧ (decode cJ0_isLatin1_aae02 3 = .ok (.ifCond .eq 14, 3)) ∧ (decode cJ0_isLatin1_aae02 6 = .ok (.aload_n 0, 1)) ∧ (decode cJ0_isLatin1_aae02 7 = .ok (.getfield 15, 3)) ∧ (decode cJ0_isLatin1_aae02 10 = .ok (.ifCond .ne 7, 3)) ∧ (decode cJ0_isLatin1_aae02 13 = .ok (.iconst 1, 1)) ∧ (decode cJ0_isLatin1_aae02 14 = .ok (.goto 4, 3)) ∧ (decode cJ0_isLatin1_aae02 17 = .ok (.iconst 0, 1)) ∧ (decode cJ0_isLatin1_aae02 18 = .ok (.ireturn, 1)) := by decide +kernel
theorem dJ0_isLatin1_aae02_0 : decode cJ0_isLatin1_aae02 0 = .ok (.getstatic 38, 3) := bJ0_isLatin1_aae02_0.1
theorem dJ0_isLatin1_aae02_3 : decode cJ0_isLatin1_aae02 3 = .ok (.ifCond .eq 14, 3) := bJ0_isLatin1_aae02_0.2.1
theorem dJ0_isLatin1_aae02_6 : decode cJ0_isLatin1_aae02 6 = .ok (.aload_n 0, 1) := bJ0_isLatin1_aae02_0.2.2.1
theorem dJ0_isLatin1_aae02_7 : decode cJ0_isLatin1_aae02 7 = .ok (.getfield 15, 3) := bJ0_isLatin1_aae02_0.2.2.2.1
theorem dJ0_isLatin1_aae02_10 : decode cJ0_isLatin1_aae02 10 = .ok (.ifCond .ne 7, 3) := bJ0_isLatin1_aae02_0.2.2.2.2.1
theorem dJ0_isLatin1_aae02_13 : decode cJ0_isLatin1_aae02 13 = .ok (.iconst 1, 1) := bJ0_isLatin1_aae02_0.2.2.2.2.2.1
theorem dJ0_isLatin1_aae02_14 : decode cJ0_isLatin1_aae02 14 = .ok (.goto 4, 3) := bJ0_isLatin1_aae02_0.2.2.2.2.2.2.1
theorem dJ0_isLatin1_aae02_17 : decode cJ0_isLatin1_aae02 17 = .ok (.iconst 0, 1) := bJ0_isLatin1_aae02_0.2.2.2.2.2.2.2.1
theorem dJ0_isLatin1_aae02_18 : decode cJ0_isLatin1_aae02 18 = .ok (.ireturn, 1) := bJ0_isLatin1_aae02_0.2.2.2.2.2.2.2.2
theorem bJ0_checkIndex_df160_0 : (decode cJ0_checkIndex_df160 0 = .ok (.iload_n 0, 1)) ∧ (decode cJ0_checkIndex_df160 1 = .ok (.iload_n 1, 1)) ∧ (decode cJ0_checkIndex_df160 2 = .ok (.getstatic 1053, 3)) ∧ (decode cJ0_checkIndex_df160 5 = .ok (.invokestatic 1059, 3)) ∧ (decode cJ0_checkIndex_df160 8 = .ok (.pop, 1)) ∧ (decode cJ0_checkIndex_df160 9 = .ok (.return_, 1)) := by decide +kernel
theorem dJ0_checkIndex_df160_0 : decode cJ0_checkIndex_df160 0 = .ok (.iload_n 0, 1) := bJ0_checkIndex_df160_0.1
theorem dJ0_checkIndex_df160_1 : decode cJ0_checkIndex_df160 1 = .ok (.iload_n 1, 1) := bJ0_checkIndex_df160_0.2.1
theorem dJ0_checkIndex_df160_2 : decode cJ0_checkIndex_df160 2 = .ok (.getstatic 1053, 3) := bJ0_checkIndex_df160_0.2.2.1
theorem dJ0_checkIndex_df160_5 : decode cJ0_checkIndex_df160 5 = .ok (.invokestatic 1059, 3) := bJ0_checkIndex_df160_0.2.2.2.1
theorem dJ0_checkIndex_df160_8 : decode cJ0_checkIndex_df160 8 = .ok (.pop, 1) := bJ0_checkIndex_df160_0.2.2.2.2.1
theorem dJ0_checkIndex_df160_9 : decode cJ0_checkIndex_df160 9 = .ok (.return_, 1) := bJ0_checkIndex_df160_0.2.2.2.2.2
theorem bJ1_charAt_3b067_0 : (decode cJ1_charAt_3b067 0 = .ok (.iload_n 1, 1)) ∧ (decode cJ1_charAt_3b067 1 = .ok (.aload_n 0, 1)) ∧ (decode cJ1_charAt_3b067 2 = .ok (.arraylength, 1)) ∧ (decode cJ1_charAt_3b067 3 = .ok (.invokestatic 9, 3)) ∧ (decode cJ1_charAt_3b067 6 = .ok (.aload_n 0, 1)) ∧ (decode cJ1_charAt_3b067 7 = .ok (.iload_n 1, 1)) ∧ (decode cJ1_charAt_3b067 8 = .ok (.baload, 1)) ∧ (decode cJ1_charAt_3b067 9 = .ok (.sipush 255, 3)) ∧ (decode cJ1_charAt_3b067 12 = .ok (.iand, 1)) ∧ (decode cJ1_charAt_3b067 13 = .ok (.i2c, 1)) ∧ (decode cJ1_charAt_3b067 14 = .ok (.ireturn, 1)) := by decide +kernel
theorem dJ1_charAt_3b067_0 : decode cJ1_charAt_3b067 0 = .ok (.iload_n 1, 1) := bJ1_charAt_3b067_0.1
theorem dJ1_charAt_3b067_1 : decode cJ1_charAt_3b067 1 = .ok (.aload_n 0, 1) := bJ1_charAt_3b067_0.2.1
theorem dJ1_charAt_3b067_2 : decode cJ1_charAt_3b067 2 = .ok (.arraylength, 1) := bJ1_charAt_3b067_0.2.2.1
theorem dJ1_charAt_3b067_3 : decode cJ1_charAt_3b067 3 = .ok (.invokestatic 9, 3) := bJ1_charAt_3b067_0.2.2.2.1
theorem dJ1_charAt_3b067_6 : decode cJ1_charAt_3b067 6 = .ok (.aload_n 0, 1) := bJ1_charAt_3b067_0.2.2.2.2.1
theorem dJ1_charAt_3b067_7 : decode cJ1_charAt_3b067 7 = .ok (.iload_n 1, 1) := bJ1_charAt_3b067_0.2.2.2.2.2.1
theorem dJ1_charAt_3b067_8 : decode cJ1_charAt_3b067 8 = .ok (.baload, 1) := bJ1_charAt_3b067_0.2.2.2.2.2.2.1
theorem dJ1_charAt_3b067_9 : decode cJ1_charAt_3b067 9 = .ok (.sipush 255, 3) := bJ1_charAt_3b067_0.2.2.2.2.2.2.2.1
theorem dJ1_charAt_3b067_12 : decode cJ1_charAt_3b067 12 = .ok (.iand, 1) := bJ1_charAt_3b067_0.2.2.2.2.2.2.2.2.1
theorem dJ1_charAt_3b067_13 : decode cJ1_charAt_3b067 13 = .ok (.i2c, 1) := bJ1_charAt_3b067_0.2.2.2.2.2.2.2.2.2.1
theorem dJ1_charAt_3b067_14 : decode cJ1_charAt_3b067 14 = .ok (.ireturn, 1) := bJ1_charAt_3b067_0.2.2.2.2.2.2.2.2.2.2
theorem bJ2_getChar_3b067_0 : (decode cJ2_getChar_3b067 0 = .ok (.getstatic 44, 3)) ∧ (decode cJ2_getChar_3b067 3 = .ok (.ifCond .ne 25, 3)) ∧ (decode cJ2_getChar_3b067 6 = .ok (.iload_n 1, 1)) ∧ (decode cJ2_getChar_3b067 7 = .ok (.ifCond .lt 11, 3)) ∧ (decode cJ2_getChar_3b067 10 = .ok (.iload_n 1, 1)) ∧ (decode cJ2_getChar_3b067 11 = .ok (.aload_n 0, 1)) ∧ (decode cJ2_getChar_3b067 12 = .ok (.invokestatic 48, 3)) ∧ (decode cJ2_getChar_3b067 15 = .ok (.if_icmp .lt 13, 3)) ∧ (decode cJ2_getChar_3b067 18 = .ok (.new 52, 3)) ∧ (decode cJ2_getChar_3b067 21 = .ok (.dup, 1)) ∧ (decode cJ2_getChar_3b067 22 = .ok (.ldc 54, 2)) ∧ (decode cJ2_getChar_3b067 24 = .ok (.invokespecial 56, 3)) ∧ (decode cJ2_getChar_3b067 27 = .ok (.athrow, 1)) ∧ (decode cJ2_getChar_3b067 28 = .ok (.iload_n 1, 1)) ∧ (decode cJ2_getChar_3b067 29 = .ok (.iconst 1, 1)) ∧ (decode cJ2_getChar_3b067 30 = .ok (.ishl, 1)) := by decide +kernel
theorem dJ2_getChar_3b067_0 : decode cJ2_getChar_3b067 0 = .ok (.getstatic 44, 3) := bJ2_getChar_3b067_0.1
theorem dJ2_getChar_3b067_3 : decode cJ2_getChar_3b067 3 = .ok (.ifCond .ne 25, 3) := bJ2_getChar_3b067_0.2.1
theorem dJ2_getChar_3b067_6 : decode cJ2_getChar_3b067 6 = .ok (.iload_n 1, 1) := bJ2_getChar_3b067_0.2.2.1
theorem dJ2_getChar_3b067_7 : decode cJ2_getChar_3b067 7 = .ok (.ifCond .lt 11, 3) := bJ2_getChar_3b067_0.2.2.2.1
theorem dJ2_getChar_3b067_10 : decode cJ2_getChar_3b067 10 = .ok (.iload_n 1, 1) := bJ2_getChar_3b067_0.2.2.2.2.1
theorem dJ2_getChar_3b067_11 : decode cJ2_getChar_3b067 11 = .ok (.aload_n 0, 1) := bJ2_getChar_3b067_0.2.2.2.2.2.1
theorem dJ2_getChar_3b067_12 : decode cJ2_getChar_3b067 12 = .ok (.invokestatic 48, 3) := bJ2_getChar_3b067_0.2.2.2.2.2.2.1
theorem dJ2_getChar_3b067_15 : decode cJ2_getChar_3b067 15 = .ok (.if_icmp .lt 13, 3) := bJ2_getChar_3b067_0.2.2.2.2.2.2.2.1
theorem dJ2_getChar_3b067_18 : decode cJ2_getChar_3b067 18 = .ok (.new 52, 3) := bJ2_getChar_3b067_0.2.2.2.2.2.2.2.2.1
theorem dJ2_getChar_3b067_21 : decode cJ2_getChar_3b067 21 = .ok (.dup, 1) := bJ2_getChar_3b067_0.2.2.2.2.2.2.2.2.2.1
theorem dJ2_getChar_3b067_22 : decode cJ2_getChar_3b067 22 = .ok (.ldc 54, 2) := bJ2_getChar_3b067_0.2.2.2.2.2.2.2.2.2.2.1
theorem dJ2_getChar_3b067_24 : decode cJ2_getChar_3b067 24 = .ok (.invokespecial 56, 3) := bJ2_getChar_3b067_0.2.2.2.2.2.2.2.2.2.2.2.1
theorem dJ2_getChar_3b067_27 : decode cJ2_getChar_3b067 27 = .ok (.athrow, 1) := bJ2_getChar_3b067_0.2.2.2.2.2.2.2.2.2.2.2.2.1
theorem dJ2_getChar_3b067_28 : decode cJ2_getChar_3b067 28 = .ok (.iload_n 1, 1) := bJ2_getChar_3b067_0.2.2.2.2.2.2.2.2.2.2.2.2.2.1
theorem dJ2_getChar_3b067_29 : decode cJ2_getChar_3b067 29 = .ok (.iconst 1, 1) := bJ2_getChar_3b067_0.2.2.2.2.2.2.2.2.2.2.2.2.2.2.1
theorem dJ2_getChar_3b067_30 : decode cJ2_getChar_3b067 30 = .ok (.ishl, 1) := bJ2_getChar_3b067_0.2.2.2.2.2.2.2.2.2.2.2.2.2.2.2
theorem bJ2_getChar_3b067_31 : (decode cJ2_getChar_3b067 31 = .ok (.istore_n 1, 1)) ∧ (decode cJ2_getChar_3b067 32 = .ok (.aload_n 0, 1)) ∧ (decode cJ2_getChar_3b067 33 = .ok (.iload_n 1, 1)) ∧ (decode cJ2_getChar_3b067 34 = .ok (.iinc 1 1, 3)) ∧ (decode cJ2_getChar_3b067 37 = .ok (.baload, 1)) ∧ (decode cJ2_getChar_3b067 38 = .ok (.sipush 255, 3)) ∧ (decode cJ2_getChar_3b067 41 = .ok (.iand, 1)) ∧ (decode cJ2_getChar_3b067 42 = .ok (.getstatic 59, 3)) ∧ (decode cJ2_getChar_3b067 45 = .ok (.ishl, 1)) ∧ (decode cJ2_getChar_3b067 46 = .ok (.aload_n 0, 1)) ∧ (decode cJ2_getChar_3b067 47 = .ok (.iload_n 1, 1)) ∧ (decode cJ2_getChar_3b067 48 = .ok (.baload, 1)) ∧ (decode cJ2_getChar_3b067 49 = .ok (.sipush 255, 3)) ∧ (decode cJ2_getChar_3b067 52 = .ok (.iand, 1)) ∧ (decode cJ2_getChar_3b067 53 = .ok (.getstatic 63, 3)) ∧ (decode cJ2_getChar_3b067 56 = .ok (.ishl, 1)) := by decide +kernel
theorem dJ2_getChar_3b067_31 : decode cJ2_getChar_3b067 31 = .ok (.istore_n 1, 1) := bJ2_getChar_3b067_31.1
theorem dJ2_getChar_3b067_32 : decode cJ2_getChar_3b067 32 = .ok (.aload_n 0, 1) := bJ2_getChar_3b067_31.2.1
theorem dJ2_getChar_3b067_33 : decode cJ2_getChar_3b067 33 = .ok (.iload_n 1, 1) := bJ2_getChar_3b067_31.2.2.1
theorem dJ2_getChar_3b067_34 : decode cJ2_getChar_3b067 34 = .ok (.iinc 1 1, 3) := bJ2_getChar_3b067_31.2.2.2.1
theorem dJ2_getChar_3b067_37 : decode cJ2_getChar_3b067 37 = .ok (.baload, 1) := bJ2_getChar_3b067_31.2.2.2.2.1
theorem dJ2_getChar_3b067_38 : decode cJ2_getChar_3b067 38 = .ok (.sipush 255, 3) := bJ2_getChar_3b067_31.2.2.2.2.2.1
theorem dJ2_getChar_3b067_41 : decode cJ2_getChar_3b067 41 = .ok (.iand, 1) := bJ2_getChar_3b067_31.2.2.2.2.2.2.1
theorem dJ2_getChar_3b067_42 : decode cJ2_getChar_3b067 42 = .ok (.getstatic 59, 3) := bJ2_getChar_3b067_31.2.2.2.2.2.2.2.1
theorem dJ2_getChar_3b067_45 : decode cJ2_getChar_3b067 45 = .ok (.ishl, 1) := bJ2_getChar_3b067_31.2.2.2.2.2.2.2.2.1
theorem dJ2_getChar_3b067_46 : decode cJ2_getChar_3b067 46 = .ok (.aload_n 0, 1) := bJ2_getChar_3b067_31.2.2.2.2.2.2.2.2.2.1
theorem dJ2_getChar_3b067_47 : decode cJ2_getChar_3b067 47 = .ok (.iload_n 1, 1) := bJ2_getChar_3b067_31.2.2.2.2.2.2.2.2.2.2.1
theorem dJ2_getChar_3b067_48 : decode cJ2_getChar_3b067 48 = .ok (.baload, 1) := bJ2_getChar_3b067_31.2.2.2.2.2.2.2.2.2.2.2.1
theorem dJ2_getChar_3b067_49 : decode cJ2_getChar_3b067 49 = .ok (.sipush 255, 3) := bJ2_getChar_3b067_31.2.2.2.2.2.2.2.2.2.2.2.2.1
theorem dJ2_getChar_3b067_52 : decode cJ2_getChar_3b067 52 = .ok (.iand, 1) := bJ2_getChar_3b067_31.2.2.2.2.2.2.2.2.2.2.2.2.2.1
theorem dJ2_getChar_3b067_53 : decode cJ2_getChar_3b067 53 = .ok (.getstatic 63, 3) := bJ2_getChar_3b067_31.2.2.2.2.2.2.2.2.2.2.2.2.2.2.1
theorem dJ2_getChar_3b067_56 : decode cJ2_getChar_3b067 56 = .ok (.ishl, 1) := bJ2_getChar_3b067_31.2.2.2.2.2.2.2.2.2.2.2.2.2.2.2
theorem bJ2_getChar_3b067_57 : (decode cJ2_getChar_3b067 57 = .ok (.ior, 1)) ∧ (decode cJ2_getChar_3b067 58 = .ok (.i2c, 1)) ∧ (decode cJ2_getChar_3b067 59 = .ok (.ireturn, 1)) := by decide +kernel
theorem dJ2_getChar_3b067_57 : decode cJ2_getChar_3b067 57 = .ok (.ior, 1) := bJ2_getChar_3b067_57.1
theorem dJ2_getChar_3b067_58 : decode cJ2_getChar_3b067 58 = .ok (.i2c, 1) := bJ2_getChar_3b067_57.2.1
theorem dJ2_getChar_3b067_59 : decode cJ2_getChar_3b067 59 = .ok (.ireturn, 1) := bJ2_getChar_3b067_57.2.2
theorem bJ2_length_9d52b_0 : (decode cJ2_length_9d52b 0 = .ok (.aload_n 0, 1)) ∧ (decode cJ2_length_9d52b 1 = .ok (.arraylength, 1)) ∧ (decode cJ2_length_9d52b 2 = .ok (.iconst 1, 1)) := by decide +kernel
theorem dJ2_length_9d52b_0 : decode cJ2_length_9d52b 0 = .ok (.aload_n 0, 1) := bJ2_length_9d52b_0.1
theorem dJ2_length_9d52b_1 : decode cJ2_length_9d52b 1 = .ok (.arraylength, 1) := bJ2_length_9d52b_0.2.1
theorem dJ2_length_9d52b_2 : decode cJ2_length_9d52b 2 = .ok (.iconst 1, 1) := bJ2_length_9d52b_0.2.2
