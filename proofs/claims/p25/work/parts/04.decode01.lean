theorem bX6_copyFrom_41 : (decode cX6_copyFrom 41 = .ok (.aload_n 1, 1)) ∧ (decode cX6_copyFrom 42 = .ok (.getfield 15, 3)) ∧ (decode cX6_copyFrom 45 = .ok (.iload_n 2, 1)) ∧ (decode cX6_copyFrom 46 = .ok (.iaload, 1)) ∧ (decode cX6_copyFrom 47 = .ok (.iastore, 1)) ∧ (decode cX6_copyFrom 48 = .ok (.iinc 2 1, 3)) ∧ (decode cX6_copyFrom 51 = .ok (.goto (-33), 3)) ∧ (decode cX6_copyFrom 54 = .ok (.iconst 0, 1)) ∧ (decode cX6_copyFrom 55 = .ok (.istore_n 2, 1)) ∧ (decode cX6_copyFrom 56 = .ok (.iload_n 2, 1)) ∧ (decode cX6_copyFrom 57 = .ok (.bipush 7, 2)) ∧ (decode cX6_copyFrom 59 = .ok (.if_icmp .ge 33, 3)) ∧ (decode cX6_copyFrom 62 = .ok (.aload_n 0, 1)) ∧ (decode cX6_copyFrom 63 = .ok (.getfield 18, 3)) ∧ (decode cX6_copyFrom 66 = .ok (.iload_n 2, 1)) ∧ (decode cX6_copyFrom 67 = .ok (.aload_n 1, 1)) := by decide +kernel
theorem dX6_copyFrom_41 : decode cX6_copyFrom 41 = .ok (.aload_n 1, 1) := bX6_copyFrom_41.1
theorem dX6_copyFrom_42 : decode cX6_copyFrom 42 = .ok (.getfield 15, 3) := bX6_copyFrom_41.2.1
theorem dX6_copyFrom_45 : decode cX6_copyFrom 45 = .ok (.iload_n 2, 1) := bX6_copyFrom_41.2.2.1
theorem dX6_copyFrom_46 : decode cX6_copyFrom 46 = .ok (.iaload, 1) := bX6_copyFrom_41.2.2.2.1
theorem dX6_copyFrom_47 : decode cX6_copyFrom 47 = .ok (.iastore, 1) := bX6_copyFrom_41.2.2.2.2.1
theorem dX6_copyFrom_48 : decode cX6_copyFrom 48 = .ok (.iinc 2 1, 3) := bX6_copyFrom_41.2.2.2.2.2.1
theorem dX6_copyFrom_51 : decode cX6_copyFrom 51 = .ok (.goto (-33), 3) := bX6_copyFrom_41.2.2.2.2.2.2.1
theorem dX6_copyFrom_54 : decode cX6_copyFrom 54 = .ok (.iconst 0, 1) := bX6_copyFrom_41.2.2.2.2.2.2.2.1
theorem dX6_copyFrom_55 : decode cX6_copyFrom 55 = .ok (.istore_n 2, 1) := bX6_copyFrom_41.2.2.2.2.2.2.2.2.1
theorem dX6_copyFrom_56 : decode cX6_copyFrom 56 = .ok (.iload_n 2, 1) := bX6_copyFrom_41.2.2.2.2.2.2.2.2.2.1
theorem dX6_copyFrom_57 : decode cX6_copyFrom 57 = .ok (.bipush 7, 2) := bX6_copyFrom_41.2.2.2.2.2.2.2.2.2.2.1
theorem dX6_copyFrom_59 : decode cX6_copyFrom 59 = .ok (.if_icmp .ge 33, 3) := bX6_copyFrom_41.2.2.2.2.2.2.2.2.2.2.2.1
theorem dX6_copyFrom_62 : decode cX6_copyFrom 62 = .ok (.aload_n 0, 1) := bX6_copyFrom_41.2.2.2.2.2.2.2.2.2.2.2.2.1
theorem dX6_copyFrom_63 : decode cX6_copyFrom 63 = .ok (.getfield 18, 3) := bX6_copyFrom_41.2.2.2.2.2.2.2.2.2.2.2.2.2.1
theorem dX6_copyFrom_66 : decode cX6_copyFrom 66 = .ok (.iload_n 2, 1) := bX6_copyFrom_41.2.2.2.2.2.2.2.2.2.2.2.2.2.2.1
theorem dX6_copyFrom_67 : decode cX6_copyFrom 67 = .ok (.aload_n 1, 1) := bX6_copyFrom_41.2.2.2.2.2.2.2.2.2.2.2.2.2.2.2
theorem bX6_copyFrom_68 : (decode cX6_copyFrom 68 = .ok (.getfield 18, 3)) ∧ (decode cX6_copyFrom 71 = .ok (.iload_n 2, 1)) ∧ (decode cX6_copyFrom 72 = .ok (.iaload, 1)) ∧ (decode cX6_copyFrom 73 = .ok (.iastore, 1)) ∧ (decode cX6_copyFrom 74 = .ok (.aload_n 0, 1)) ∧ (decode cX6_copyFrom 75 = .ok (.getfield 21, 3)) ∧ (decode cX6_copyFrom 78 = .ok (.iload_n 2, 1)) ∧ (decode cX6_copyFrom 79 = .ok (.aload_n 1, 1)) ∧ (decode cX6_copyFrom 80 = .ok (.getfield 21, 3)) ∧ (decode cX6_copyFrom 83 = .ok (.iload_n 2, 1)) ∧ (decode cX6_copyFrom 84 = .ok (.iaload, 1)) ∧ (decode cX6_copyFrom 85 = .ok (.iastore, 1)) ∧ (decode cX6_copyFrom 86 = .ok (.iinc 2 1, 3)) ∧ (decode cX6_copyFrom 89 = .ok (.goto (-33), 3)) ∧ (decode cX6_copyFrom 92 = .ok (.aload_n 0, 1)) ∧ (decode cX6_copyFrom 93 = .ok (.getfield 27, 3)) := by decide +kernel
theorem dX6_copyFrom_68 : decode cX6_copyFrom 68 = .ok (.getfield 18, 3) := bX6_copyFrom_68.1
theorem dX6_copyFrom_71 : decode cX6_copyFrom 71 = .ok (.iload_n 2, 1) := bX6_copyFrom_68.2.1
theorem dX6_copyFrom_72 : decode cX6_copyFrom 72 = .ok (.iaload, 1) := bX6_copyFrom_68.2.2.1
theorem dX6_copyFrom_73 : decode cX6_copyFrom 73 = .ok (.iastore, 1) := bX6_copyFrom_68.2.2.2.1
theorem dX6_copyFrom_74 : decode cX6_copyFrom 74 = .ok (.aload_n 0, 1) := bX6_copyFrom_68.2.2.2.2.1
theorem dX6_copyFrom_75 : decode cX6_copyFrom 75 = .ok (.getfield 21, 3) := bX6_copyFrom_68.2.2.2.2.2.1
theorem dX6_copyFrom_78 : decode cX6_copyFrom 78 = .ok (.iload_n 2, 1) := bX6_copyFrom_68.2.2.2.2.2.2.1
theorem dX6_copyFrom_79 : decode cX6_copyFrom 79 = .ok (.aload_n 1, 1) := bX6_copyFrom_68.2.2.2.2.2.2.2.1
theorem dX6_copyFrom_80 : decode cX6_copyFrom 80 = .ok (.getfield 21, 3) := bX6_copyFrom_68.2.2.2.2.2.2.2.2.1
theorem dX6_copyFrom_83 : decode cX6_copyFrom 83 = .ok (.iload_n 2, 1) := bX6_copyFrom_68.2.2.2.2.2.2.2.2.2.1
theorem dX6_copyFrom_84 : decode cX6_copyFrom 84 = .ok (.iaload, 1) := bX6_copyFrom_68.2.2.2.2.2.2.2.2.2.2.1
theorem dX6_copyFrom_85 : decode cX6_copyFrom 85 = .ok (.iastore, 1) := bX6_copyFrom_68.2.2.2.2.2.2.2.2.2.2.2.1
theorem dX6_copyFrom_86 : decode cX6_copyFrom 86 = .ok (.iinc 2 1, 3) := bX6_copyFrom_68.2.2.2.2.2.2.2.2.2.2.2.2.1
theorem dX6_copyFrom_89 : decode cX6_copyFrom 89 = .ok (.goto (-33), 3) := bX6_copyFrom_68.2.2.2.2.2.2.2.2.2.2.2.2.2.1
theorem dX6_copyFrom_92 : decode cX6_copyFrom 92 = .ok (.aload_n 0, 1) := bX6_copyFrom_68.2.2.2.2.2.2.2.2.2.2.2.2.2.2.1
theorem dX6_copyFrom_93 : decode cX6_copyFrom 93 = .ok (.getfield 27, 3) := bX6_copyFrom_68.2.2.2.2.2.2.2.2.2.2.2.2.2.2.2
theorem bX6_copyFrom_96 : (decode cX6_copyFrom 96 = .ok (.aload_n 1, 1)) ∧ (decode cX6_copyFrom 97 = .ok (.getfield 27, 3)) ∧ (decode cX6_copyFrom 100 = .ok (.invokevirtual 70, 3)) ∧ (decode cX6_copyFrom 103 = .ok (.aload_n 0, 1)) ∧ (decode cX6_copyFrom 104 = .ok (.aload_n 1, 1)) ∧ (decode cX6_copyFrom 105 = .ok (.getfield 63, 3)) ∧ (decode cX6_copyFrom 108 = .ok (.putfield 63, 3)) ∧ (decode cX6_copyFrom 111 = .ok (.iconst 0, 1)) ∧ (decode cX6_copyFrom 112 = .ok (.istore_n 2, 1)) ∧ (decode cX6_copyFrom 113 = .ok (.iload_n 2, 1)) ∧ (decode cX6_copyFrom 114 = .ok (.aload_n 0, 1)) ∧ (decode cX6_copyFrom 115 = .ok (.getfield 63, 3)) ∧ (decode cX6_copyFrom 118 = .ok (.if_icmp .ge 24, 3)) ∧ (decode cX6_copyFrom 121 = .ok (.aload_n 0, 1)) ∧ (decode cX6_copyFrom 122 = .ok (.getfield 31, 3)) ∧ (decode cX6_copyFrom 125 = .ok (.iload_n 2, 1)) := by decide +kernel
theorem dX6_copyFrom_96 : decode cX6_copyFrom 96 = .ok (.aload_n 1, 1) := bX6_copyFrom_96.1
theorem dX6_copyFrom_97 : decode cX6_copyFrom 97 = .ok (.getfield 27, 3) := bX6_copyFrom_96.2.1
theorem dX6_copyFrom_100 : decode cX6_copyFrom 100 = .ok (.invokevirtual 70, 3) := bX6_copyFrom_96.2.2.1
theorem dX6_copyFrom_103 : decode cX6_copyFrom 103 = .ok (.aload_n 0, 1) := bX6_copyFrom_96.2.2.2.1
theorem dX6_copyFrom_104 : decode cX6_copyFrom 104 = .ok (.aload_n 1, 1) := bX6_copyFrom_96.2.2.2.2.1
theorem dX6_copyFrom_105 : decode cX6_copyFrom 105 = .ok (.getfield 63, 3) := bX6_copyFrom_96.2.2.2.2.2.1
theorem dX6_copyFrom_108 : decode cX6_copyFrom 108 = .ok (.putfield 63, 3) := bX6_copyFrom_96.2.2.2.2.2.2.1
theorem dX6_copyFrom_111 : decode cX6_copyFrom 111 = .ok (.iconst 0, 1) := bX6_copyFrom_96.2.2.2.2.2.2.2.1
theorem dX6_copyFrom_112 : decode cX6_copyFrom 112 = .ok (.istore_n 2, 1) := bX6_copyFrom_96.2.2.2.2.2.2.2.2.1
theorem dX6_copyFrom_113 : decode cX6_copyFrom 113 = .ok (.iload_n 2, 1) := bX6_copyFrom_96.2.2.2.2.2.2.2.2.2.1
theorem dX6_copyFrom_114 : decode cX6_copyFrom 114 = .ok (.aload_n 0, 1) := bX6_copyFrom_96.2.2.2.2.2.2.2.2.2.2.1
theorem dX6_copyFrom_115 : decode cX6_copyFrom 115 = .ok (.getfield 63, 3) := bX6_copyFrom_96.2.2.2.2.2.2.2.2.2.2.2.1
theorem dX6_copyFrom_118 : decode cX6_copyFrom 118 = .ok (.if_icmp .ge 24, 3) := bX6_copyFrom_96.2.2.2.2.2.2.2.2.2.2.2.2.1
theorem dX6_copyFrom_121 : decode cX6_copyFrom 121 = .ok (.aload_n 0, 1) := bX6_copyFrom_96.2.2.2.2.2.2.2.2.2.2.2.2.2.1
theorem dX6_copyFrom_122 : decode cX6_copyFrom 122 = .ok (.getfield 31, 3) := bX6_copyFrom_96.2.2.2.2.2.2.2.2.2.2.2.2.2.2.1
theorem dX6_copyFrom_125 : decode cX6_copyFrom 125 = .ok (.iload_n 2, 1) := bX6_copyFrom_96.2.2.2.2.2.2.2.2.2.2.2.2.2.2.2
theorem bX6_copyFrom_126 : (decode cX6_copyFrom 126 = .ok (.aaload, 1)) ∧ (decode cX6_copyFrom 127 = .ok (.aload_n 1, 1)) ∧ (decode cX6_copyFrom 128 = .ok (.getfield 31, 3)) ∧ (decode cX6_copyFrom 131 = .ok (.iload_n 2, 1)) ∧ (decode cX6_copyFrom 132 = .ok (.aaload, 1)) ∧ (decode cX6_copyFrom 133 = .ok (.invokevirtual 70, 3)) ∧ (decode cX6_copyFrom 136 = .ok (.iinc 2 1, 3)) ∧ (decode cX6_copyFrom 139 = .ok (.goto (-26), 3)) ∧ (decode cX6_copyFrom 142 = .ok (.aload_n 0, 1)) ∧ (decode cX6_copyFrom 143 = .ok (.getfield 40, 3)) ∧ (decode cX6_copyFrom 146 = .ok (.aload_n 1, 1)) ∧ (decode cX6_copyFrom 147 = .ok (.getfield 40, 3)) ∧ (decode cX6_copyFrom 150 = .ok (.invokevirtual 74, 3)) ∧ (decode cX6_copyFrom 153 = .ok (.aload_n 0, 1)) ∧ (decode cX6_copyFrom 154 = .ok (.getfield 44, 3)) ∧ (decode cX6_copyFrom 157 = .ok (.aload_n 1, 1)) := by decide +kernel
theorem dX6_copyFrom_126 : decode cX6_copyFrom 126 = .ok (.aaload, 1) := bX6_copyFrom_126.1
theorem dX6_copyFrom_127 : decode cX6_copyFrom 127 = .ok (.aload_n 1, 1) := bX6_copyFrom_126.2.1
theorem dX6_copyFrom_128 : decode cX6_copyFrom 128 = .ok (.getfield 31, 3) := bX6_copyFrom_126.2.2.1
theorem dX6_copyFrom_131 : decode cX6_copyFrom 131 = .ok (.iload_n 2, 1) := bX6_copyFrom_126.2.2.2.1
theorem dX6_copyFrom_132 : decode cX6_copyFrom 132 = .ok (.aaload, 1) := bX6_copyFrom_126.2.2.2.2.1
theorem dX6_copyFrom_133 : decode cX6_copyFrom 133 = .ok (.invokevirtual 70, 3) := bX6_copyFrom_126.2.2.2.2.2.1
theorem dX6_copyFrom_136 : decode cX6_copyFrom 136 = .ok (.iinc 2 1, 3) := bX6_copyFrom_126.2.2.2.2.2.2.1
theorem dX6_copyFrom_139 : decode cX6_copyFrom 139 = .ok (.goto (-26), 3) := bX6_copyFrom_126.2.2.2.2.2.2.2.1
theorem dX6_copyFrom_142 : decode cX6_copyFrom 142 = .ok (.aload_n 0, 1) := bX6_copyFrom_126.2.2.2.2.2.2.2.2.1
theorem dX6_copyFrom_143 : decode cX6_copyFrom 143 = .ok (.getfield 40, 3) := bX6_copyFrom_126.2.2.2.2.2.2.2.2.2.1
theorem dX6_copyFrom_146 : decode cX6_copyFrom 146 = .ok (.aload_n 1, 1) := bX6_copyFrom_126.2.2.2.2.2.2.2.2.2.2.1
theorem dX6_copyFrom_147 : decode cX6_copyFrom 147 = .ok (.getfield 40, 3) := bX6_copyFrom_126.2.2.2.2.2.2.2.2.2.2.2.1
theorem dX6_copyFrom_150 : decode cX6_copyFrom 150 = .ok (.invokevirtual 74, 3) := bX6_copyFrom_126.2.2.2.2.2.2.2.2.2.2.2.2.1
theorem dX6_copyFrom_153 : decode cX6_copyFrom 153 = .ok (.aload_n 0, 1) := bX6_copyFrom_126.2.2.2.2.2.2.2.2.2.2.2.2.2.1
theorem dX6_copyFrom_154 : decode cX6_copyFrom 154 = .ok (.getfield 44, 3) := bX6_copyFrom_126.2.2.2.2.2.2.2.2.2.2.2.2.2.2.1
theorem dX6_copyFrom_157 : decode cX6_copyFrom 157 = .ok (.aload_n 1, 1) := bX6_copyFrom_126.2.2.2.2.2.2.2.2.2.2.2.2.2.2.2
theorem bX6_copyFrom_158 : (decode cX6_copyFrom 158 = .ok (.getfield 44, 3)) ∧ (decode cX6_copyFrom 161 = .ok (.invokevirtual 74, 3)) ∧ (decode cX6_copyFrom 164 = .ok (.aload_n 0, 1)) ∧ (decode cX6_copyFrom 165 = .ok (.getfield 47, 3)) ∧ (decode cX6_copyFrom 168 = .ok (.aload_n 1, 1)) ∧ (decode cX6_copyFrom 169 = .ok (.getfield 47, 3)) ∧ (decode cX6_copyFrom 172 = .ok (.invokevirtual 74, 3)) ∧ (decode cX6_copyFrom 175 = .ok (.return_, 1)) := by decide +kernel
theorem dX6_copyFrom_158 : decode cX6_copyFrom 158 = .ok (.getfield 44, 3) := bX6_copyFrom_158.1
theorem dX6_copyFrom_161 : decode cX6_copyFrom 161 = .ok (.invokevirtual 74, 3) := bX6_copyFrom_158.2.1
theorem dX6_copyFrom_164 : decode cX6_copyFrom 164 = .ok (.aload_n 0, 1) := bX6_copyFrom_158.2.2.1
theorem dX6_copyFrom_165 : decode cX6_copyFrom 165 = .ok (.getfield 47, 3) := bX6_copyFrom_158.2.2.2.1
theorem dX6_copyFrom_168 : decode cX6_copyFrom 168 = .ok (.aload_n 1, 1) := bX6_copyFrom_158.2.2.2.2.1
theorem dX6_copyFrom_169 : decode cX6_copyFrom 169 = .ok (.getfield 47, 3) := bX6_copyFrom_158.2.2.2.2.2.1
theorem dX6_copyFrom_172 : decode cX6_copyFrom 172 = .ok (.invokevirtual 74, 3) := bX6_copyFrom_158.2.2.2.2.2.2.1
theorem dX6_copyFrom_175 : decode cX6_copyFrom 175 = .ok (.return_, 1) := bX6_copyFrom_158.2.2.2.2.2.2.2
theorem bX6_hasThing_0 : (decode cX6_hasThing 0 = .ok (.iload_n 1, 1)) ∧ (decode cX6_hasThing 1 = .ok (.ifCond .lt 15, 3)) ∧ (decode cX6_hasThing 4 = .ok (.iload_n 1, 1)) ∧ (decode cX6_hasThing 5 = .ok (.aload_n 0, 1)) ∧ (decode cX6_hasThing 6 = .ok (.getfield 50, 3)) ∧ (decode cX6_hasThing 9 = .ok (.if_icmp .ge 7, 3)) ∧ (decode cX6_hasThing 12 = .ok (.iconst 1, 1)) ∧ (decode cX6_hasThing 13 = .ok (.goto 4, 3)) ∧ (decode cX6_hasThing 16 = .ok (.iconst 0, 1)) ∧ (decode cX6_hasThing 17 = .ok (.ireturn, 1)) := by decide +kernel
theorem dX6_hasThing_0 : decode cX6_hasThing 0 = .ok (.iload_n 1, 1) := bX6_hasThing_0.1
theorem dX6_hasThing_1 : decode cX6_hasThing 1 = .ok (.ifCond .lt 15, 3) := bX6_hasThing_0.2.1
theorem dX6_hasThing_4 : decode cX6_hasThing 4 = .ok (.iload_n 1, 1) := bX6_hasThing_0.2.2.1
theorem dX6_hasThing_5 : decode cX6_hasThing 5 = .ok (.aload_n 0, 1) := bX6_hasThing_0.2.2.2.1
theorem dX6_hasThing_6 : decode cX6_hasThing 6 = .ok (.getfield 50, 3) := bX6_hasThing_0.2.2.2.2.1
theorem dX6_hasThing_9 : decode cX6_hasThing 9 = .ok (.if_icmp .ge 7, 3) := bX6_hasThing_0.2.2.2.2.2.1
theorem dX6_hasThing_12 : decode cX6_hasThing 12 = .ok (.iconst 1, 1) := bX6_hasThing_0.2.2.2.2.2.2.1
theorem dX6_hasThing_13 : decode cX6_hasThing 13 = .ok (.goto 4, 3) := bX6_hasThing_0.2.2.2.2.2.2.2.1
theorem dX6_hasThing_16 : decode cX6_hasThing 16 = .ok (.iconst 0, 1) := bX6_hasThing_0.2.2.2.2.2.2.2.2.1
theorem dX6_hasThing_17 : decode cX6_hasThing 17 = .ok (.ireturn, 1) := bX6_hasThing_0.2.2.2.2.2.2.2.2.2
theorem bX6_hasOne_0 : (decode cX6_hasOne 0 = .ok (.iload_n 1, 1)) ∧ (decode cX6_hasOne 1 = .ok (.ifCond .lt 15, 3)) ∧ (decode cX6_hasOne 4 = .ok (.iload_n 1, 1)) ∧ (decode cX6_hasOne 5 = .ok (.aload_n 0, 1)) ∧ (decode cX6_hasOne 6 = .ok (.getfield 54, 3)) ∧ (decode cX6_hasOne 9 = .ok (.if_icmp .ge 7, 3)) ∧ (decode cX6_hasOne 12 = .ok (.iconst 1, 1)) ∧ (decode cX6_hasOne 13 = .ok (.goto 4, 3)) ∧ (decode cX6_hasOne 16 = .ok (.iconst 0, 1)) ∧ (decode cX6_hasOne 17 = .ok (.ireturn, 1)) := by decide +kernel
theorem dX6_hasOne_0 : decode cX6_hasOne 0 = .ok (.iload_n 1, 1) := bX6_hasOne_0.1
theorem dX6_hasOne_1 : decode cX6_hasOne 1 = .ok (.ifCond .lt 15, 3) := bX6_hasOne_0.2.1
theorem dX6_hasOne_4 : decode cX6_hasOne 4 = .ok (.iload_n 1, 1) := bX6_hasOne_0.2.2.1
theorem dX6_hasOne_5 : decode cX6_hasOne 5 = .ok (.aload_n 0, 1) := bX6_hasOne_0.2.2.2.1
theorem dX6_hasOne_6 : decode cX6_hasOne 6 = .ok (.getfield 54, 3) := bX6_hasOne_0.2.2.2.2.1
theorem dX6_hasOne_9 : decode cX6_hasOne 9 = .ok (.if_icmp .ge 7, 3) := bX6_hasOne_0.2.2.2.2.2.1
theorem dX6_hasOne_12 : decode cX6_hasOne 12 = .ok (.iconst 1, 1) := bX6_hasOne_0.2.2.2.2.2.2.1
theorem dX6_hasOne_13 : decode cX6_hasOne 13 = .ok (.goto 4, 3) := bX6_hasOne_0.2.2.2.2.2.2.2.1
theorem dX6_hasOne_16 : decode cX6_hasOne 16 = .ok (.iconst 0, 1) := bX6_hasOne_0.2.2.2.2.2.2.2.2.1
theorem dX6_hasOne_17 : decode cX6_hasOne 17 = .ok (.ireturn, 1) := bX6_hasOne_0.2.2.2.2.2.2.2.2.2
theorem bX6_addThing_0 : (decode cX6_addThing 0 = .ok (.aload_n 0, 1)) ∧ (decode cX6_addThing 1 = .ok (.getfield 50, 3)) ∧ (decode cX6_addThing 4 = .ok (.istore_n 3, 1)) ∧ (decode cX6_addThing 5 = .ok (.aload_n 0, 1)) ∧ (decode cX6_addThing 6 = .ok (.getfield 9, 3)) ∧ (decode cX6_addThing 9 = .ok (.iload_n 3, 1)) ∧ (decode cX6_addThing 10 = .ok (.iload_n 1, 1)) ∧ (decode cX6_addThing 11 = .ok (.iastore, 1)) ∧ (decode cX6_addThing 12 = .ok (.aload_n 0, 1)) ∧ (decode cX6_addThing 13 = .ok (.getfield 15, 3)) ∧ (decode cX6_addThing 16 = .ok (.iload_n 3, 1)) ∧ (decode cX6_addThing 17 = .ok (.iload_n 2, 1)) ∧ (decode cX6_addThing 18 = .ok (.iastore, 1)) ∧ (decode cX6_addThing 19 = .ok (.aload_n 0, 1)) ∧ (decode cX6_addThing 20 = .ok (.dup, 1)) ∧ (decode cX6_addThing 21 = .ok (.getfield 50, 3)) := by decide +kernel
theorem dX6_addThing_0 : decode cX6_addThing 0 = .ok (.aload_n 0, 1) := bX6_addThing_0.1
theorem dX6_addThing_1 : decode cX6_addThing 1 = .ok (.getfield 50, 3) := bX6_addThing_0.2.1
theorem dX6_addThing_4 : decode cX6_addThing 4 = .ok (.istore_n 3, 1) := bX6_addThing_0.2.2.1
theorem dX6_addThing_5 : decode cX6_addThing 5 = .ok (.aload_n 0, 1) := bX6_addThing_0.2.2.2.1
theorem dX6_addThing_6 : decode cX6_addThing 6 = .ok (.getfield 9, 3) := bX6_addThing_0.2.2.2.2.1
theorem dX6_addThing_9 : decode cX6_addThing 9 = .ok (.iload_n 3, 1) := bX6_addThing_0.2.2.2.2.2.1
theorem dX6_addThing_10 : decode cX6_addThing 10 = .ok (.iload_n 1, 1) := bX6_addThing_0.2.2.2.2.2.2.1
theorem dX6_addThing_11 : decode cX6_addThing 11 = .ok (.iastore, 1) := bX6_addThing_0.2.2.2.2.2.2.2.1
theorem dX6_addThing_12 : decode cX6_addThing 12 = .ok (.aload_n 0, 1) := bX6_addThing_0.2.2.2.2.2.2.2.2.1
theorem dX6_addThing_13 : decode cX6_addThing 13 = .ok (.getfield 15, 3) := bX6_addThing_0.2.2.2.2.2.2.2.2.2.1
theorem dX6_addThing_16 : decode cX6_addThing 16 = .ok (.iload_n 3, 1) := bX6_addThing_0.2.2.2.2.2.2.2.2.2.2.1
theorem dX6_addThing_17 : decode cX6_addThing 17 = .ok (.iload_n 2, 1) := bX6_addThing_0.2.2.2.2.2.2.2.2.2.2.2.1
theorem dX6_addThing_18 : decode cX6_addThing 18 = .ok (.iastore, 1) := bX6_addThing_0.2.2.2.2.2.2.2.2.2.2.2.2.1
theorem dX6_addThing_19 : decode cX6_addThing 19 = .ok (.aload_n 0, 1) := bX6_addThing_0.2.2.2.2.2.2.2.2.2.2.2.2.2.1
theorem dX6_addThing_20 : decode cX6_addThing 20 = .ok (.dup, 1) := bX6_addThing_0.2.2.2.2.2.2.2.2.2.2.2.2.2.2.1
theorem dX6_addThing_21 : decode cX6_addThing 21 = .ok (.getfield 50, 3) := bX6_addThing_0.2.2.2.2.2.2.2.2.2.2.2.2.2.2.2
theorem bX6_addThing_24 : (decode cX6_addThing 24 = .ok (.iconst 1, 1)) ∧ (decode cX6_addThing 25 = .ok (.iadd, 1)) ∧ (decode cX6_addThing 26 = .ok (.putfield 50, 3)) ∧ (decode cX6_addThing 29 = .ok (.aload_n 0, 1)) ∧ (decode cX6_addThing 30 = .ok (.iconst 0, 1)) ∧ (decode cX6_addThing 31 = .ok (.putfield 63, 3)) ∧ (decode cX6_addThing 34 = .ok (.iload_n 3, 1)) ∧ (decode cX6_addThing 35 = .ok (.ireturn, 1)) := by decide +kernel
theorem dX6_addThing_24 : decode cX6_addThing 24 = .ok (.iconst 1, 1) := bX6_addThing_24.1
theorem dX6_addThing_25 : decode cX6_addThing 25 = .ok (.iadd, 1) := bX6_addThing_24.2.1
theorem dX6_addThing_26 : decode cX6_addThing 26 = .ok (.putfield 50, 3) := bX6_addThing_24.2.2.1
theorem dX6_addThing_29 : decode cX6_addThing 29 = .ok (.aload_n 0, 1) := bX6_addThing_24.2.2.2.1
theorem dX6_addThing_30 : decode cX6_addThing 30 = .ok (.iconst 0, 1) := bX6_addThing_24.2.2.2.2.1
theorem dX6_addThing_31 : decode cX6_addThing 31 = .ok (.putfield 63, 3) := bX6_addThing_24.2.2.2.2.2.1
theorem dX6_addThing_34 : decode cX6_addThing 34 = .ok (.iload_n 3, 1) := bX6_addThing_24.2.2.2.2.2.2.1
theorem dX6_addThing_35 : decode cX6_addThing 35 = .ok (.ireturn, 1) := bX6_addThing_24.2.2.2.2.2.2.2
theorem bX6_addOne_0 : (decode cX6_addOne 0 = .ok (.aload_n 0, 1)) ∧ (decode cX6_addOne 1 = .ok (.getfield 54, 3)) ∧ (decode cX6_addOne 4 = .ok (.istore 4, 2)) ∧ (decode cX6_addOne 6 = .ok (.aload_n 0, 1)) ∧ (decode cX6_addOne 7 = .ok (.getfield 18, 3)) ∧ (decode cX6_addOne 10 = .ok (.iload 4, 2)) ∧ (decode cX6_addOne 12 = .ok (.iload_n 1, 1)) ∧ (decode cX6_addOne 13 = .ok (.iastore, 1)) ∧ (decode cX6_addOne 14 = .ok (.aload_n 0, 1)) ∧ (decode cX6_addOne 15 = .ok (.getfield 21, 3)) ∧ (decode cX6_addOne 18 = .ok (.iload 4, 2)) ∧ (decode cX6_addOne 20 = .ok (.iload_n 2, 1)) ∧ (decode cX6_addOne 21 = .ok (.iastore, 1)) ∧ (decode cX6_addOne 22 = .ok (.aload_n 0, 1)) ∧ (decode cX6_addOne 23 = .ok (.getfield 27, 3)) ∧ (decode cX6_addOne 26 = .ok (.getfield 77, 3)) := by decide +kernel
theorem dX6_addOne_0 : decode cX6_addOne 0 = .ok (.aload_n 0, 1) := bX6_addOne_0.1
theorem dX6_addOne_1 : decode cX6_addOne 1 = .ok (.getfield 54, 3) := bX6_addOne_0.2.1
theorem dX6_addOne_4 : decode cX6_addOne 4 = .ok (.istore 4, 2) := bX6_addOne_0.2.2.1
theorem dX6_addOne_6 : decode cX6_addOne 6 = .ok (.aload_n 0, 1) := bX6_addOne_0.2.2.2.1
theorem dX6_addOne_7 : decode cX6_addOne 7 = .ok (.getfield 18, 3) := bX6_addOne_0.2.2.2.2.1
theorem dX6_addOne_10 : decode cX6_addOne 10 = .ok (.iload 4, 2) := bX6_addOne_0.2.2.2.2.2.1
theorem dX6_addOne_12 : decode cX6_addOne 12 = .ok (.iload_n 1, 1) := bX6_addOne_0.2.2.2.2.2.2.1
theorem dX6_addOne_13 : decode cX6_addOne 13 = .ok (.iastore, 1) := bX6_addOne_0.2.2.2.2.2.2.2.1
theorem dX6_addOne_14 : decode cX6_addOne 14 = .ok (.aload_n 0, 1) := bX6_addOne_0.2.2.2.2.2.2.2.2.1
theorem dX6_addOne_15 : decode cX6_addOne 15 = .ok (.getfield 21, 3) := bX6_addOne_0.2.2.2.2.2.2.2.2.2.1
theorem dX6_addOne_18 : decode cX6_addOne 18 = .ok (.iload 4, 2) := bX6_addOne_0.2.2.2.2.2.2.2.2.2.2.1
theorem dX6_addOne_20 : decode cX6_addOne 20 = .ok (.iload_n 2, 1) := bX6_addOne_0.2.2.2.2.2.2.2.2.2.2.2.1
theorem dX6_addOne_21 : decode cX6_addOne 21 = .ok (.iastore, 1) := bX6_addOne_0.2.2.2.2.2.2.2.2.2.2.2.2.1
theorem dX6_addOne_22 : decode cX6_addOne 22 = .ok (.aload_n 0, 1) := bX6_addOne_0.2.2.2.2.2.2.2.2.2.2.2.2.2.1
theorem dX6_addOne_23 : decode cX6_addOne 23 = .ok (.getfield 27, 3) := bX6_addOne_0.2.2.2.2.2.2.2.2.2.2.2.2.2.2.1
theorem dX6_addOne_26 : decode cX6_addOne 26 = .ok (.getfield 77, 3) := bX6_addOne_0.2.2.2.2.2.2.2.2.2.2.2.2.2.2.2
theorem bX6_addOne_29 : (decode cX6_addOne 29 = .ok (.iload 4, 2)) ∧ (decode cX6_addOne 31 = .ok (.iload_n 3, 1)) ∧ (decode cX6_addOne 32 = .ok (.iastore, 1)) ∧ (decode cX6_addOne 33 = .ok (.aload_n 0, 1)) ∧ (decode cX6_addOne 34 = .ok (.getfield 27, 3)) ∧ (decode cX6_addOne 37 = .ok (.getfield 80, 3)) ∧ (decode cX6_addOne 40 = .ok (.iload 4, 2)) ∧ (decode cX6_addOne 42 = .ok (.iconst (-1), 1)) ∧ (decode cX6_addOne 43 = .ok (.iastore, 1)) ∧ (decode cX6_addOne 44 = .ok (.aload_n 0, 1)) ∧ (decode cX6_addOne 45 = .ok (.getfield 27, 3)) ∧ (decode cX6_addOne 48 = .ok (.dup, 1)) ∧ (decode cX6_addOne 49 = .ok (.getfield 57, 3)) ∧ (decode cX6_addOne 52 = .ok (.iconst 1, 1)) ∧ (decode cX6_addOne 53 = .ok (.iload 4, 2)) ∧ (decode cX6_addOne 55 = .ok (.ishl, 1)) := by decide +kernel
theorem dX6_addOne_29 : decode cX6_addOne 29 = .ok (.iload 4, 2) := bX6_addOne_29.1
theorem dX6_addOne_31 : decode cX6_addOne 31 = .ok (.iload_n 3, 1) := bX6_addOne_29.2.1
theorem dX6_addOne_32 : decode cX6_addOne 32 = .ok (.iastore, 1) := bX6_addOne_29.2.2.1
theorem dX6_addOne_33 : decode cX6_addOne 33 = .ok (.aload_n 0, 1) := bX6_addOne_29.2.2.2.1
theorem dX6_addOne_34 : decode cX6_addOne 34 = .ok (.getfield 27, 3) := bX6_addOne_29.2.2.2.2.1
theorem dX6_addOne_37 : decode cX6_addOne 37 = .ok (.getfield 80, 3) := bX6_addOne_29.2.2.2.2.2.1
theorem dX6_addOne_40 : decode cX6_addOne 40 = .ok (.iload 4, 2) := bX6_addOne_29.2.2.2.2.2.2.1
theorem dX6_addOne_42 : decode cX6_addOne 42 = .ok (.iconst (-1), 1) := bX6_addOne_29.2.2.2.2.2.2.2.1
theorem dX6_addOne_43 : decode cX6_addOne 43 = .ok (.iastore, 1) := bX6_addOne_29.2.2.2.2.2.2.2.2.1
theorem dX6_addOne_44 : decode cX6_addOne 44 = .ok (.aload_n 0, 1) := bX6_addOne_29.2.2.2.2.2.2.2.2.2.1
theorem dX6_addOne_45 : decode cX6_addOne 45 = .ok (.getfield 27, 3) := bX6_addOne_29.2.2.2.2.2.2.2.2.2.2.1
theorem dX6_addOne_48 : decode cX6_addOne 48 = .ok (.dup, 1) := bX6_addOne_29.2.2.2.2.2.2.2.2.2.2.2.1
theorem dX6_addOne_49 : decode cX6_addOne 49 = .ok (.getfield 57, 3) := bX6_addOne_29.2.2.2.2.2.2.2.2.2.2.2.2.1
theorem dX6_addOne_52 : decode cX6_addOne 52 = .ok (.iconst 1, 1) := bX6_addOne_29.2.2.2.2.2.2.2.2.2.2.2.2.2.1
theorem dX6_addOne_53 : decode cX6_addOne 53 = .ok (.iload 4, 2) := bX6_addOne_29.2.2.2.2.2.2.2.2.2.2.2.2.2.2.1
theorem dX6_addOne_55 : decode cX6_addOne 55 = .ok (.ishl, 1) := bX6_addOne_29.2.2.2.2.2.2.2.2.2.2.2.2.2.2.2
theorem bX6_addOne_56 : (decode cX6_addOne 56 = .ok (.ior, 1)) ∧ (decode cX6_addOne 57 = .ok (.putfield 57, 3)) ∧ (decode cX6_addOne 60 = .ok (.aload_n 0, 1)) ∧ (decode cX6_addOne 61 = .ok (.dup, 1)) ∧ (decode cX6_addOne 62 = .ok (.getfield 54, 3)) ∧ (decode cX6_addOne 65 = .ok (.iconst 1, 1)) ∧ (decode cX6_addOne 66 = .ok (.iadd, 1)) ∧ (decode cX6_addOne 67 = .ok (.putfield 54, 3)) ∧ (decode cX6_addOne 70 = .ok (.aload_n 0, 1)) ∧ (decode cX6_addOne 71 = .ok (.iconst 0, 1)) ∧ (decode cX6_addOne 72 = .ok (.putfield 63, 3)) ∧ (decode cX6_addOne 75 = .ok (.iload 4, 2)) ∧ (decode cX6_addOne 77 = .ok (.ireturn, 1)) := by decide +kernel
theorem dX6_addOne_56 : decode cX6_addOne 56 = .ok (.ior, 1) := bX6_addOne_56.1
theorem dX6_addOne_57 : decode cX6_addOne 57 = .ok (.putfield 57, 3) := bX6_addOne_56.2.1
theorem dX6_addOne_60 : decode cX6_addOne 60 = .ok (.aload_n 0, 1) := bX6_addOne_56.2.2.1
theorem dX6_addOne_61 : decode cX6_addOne 61 = .ok (.dup, 1) := bX6_addOne_56.2.2.2.1
theorem dX6_addOne_62 : decode cX6_addOne 62 = .ok (.getfield 54, 3) := bX6_addOne_56.2.2.2.2.1
theorem dX6_addOne_65 : decode cX6_addOne 65 = .ok (.iconst 1, 1) := bX6_addOne_56.2.2.2.2.2.1
theorem dX6_addOne_66 : decode cX6_addOne 66 = .ok (.iadd, 1) := bX6_addOne_56.2.2.2.2.2.2.1
theorem dX6_addOne_67 : decode cX6_addOne 67 = .ok (.putfield 54, 3) := bX6_addOne_56.2.2.2.2.2.2.2.1
theorem dX6_addOne_70 : decode cX6_addOne 70 = .ok (.aload_n 0, 1) := bX6_addOne_56.2.2.2.2.2.2.2.2.1
theorem dX6_addOne_71 : decode cX6_addOne 71 = .ok (.iconst 0, 1) := bX6_addOne_56.2.2.2.2.2.2.2.2.2.1
theorem dX6_addOne_72 : decode cX6_addOne 72 = .ok (.putfield 63, 3) := bX6_addOne_56.2.2.2.2.2.2.2.2.2.2.1
theorem dX6_addOne_75 : decode cX6_addOne 75 = .ok (.iload 4, 2) := bX6_addOne_56.2.2.2.2.2.2.2.2.2.2.2.1
theorem dX6_addOne_77 : decode cX6_addOne 77 = .ok (.ireturn, 1) := bX6_addOne_56.2.2.2.2.2.2.2.2.2.2.2.2
theorem bX6_remember_0 : (decode cX6_remember 0 = .ok (.aload_n 0, 1)) ∧ (decode cX6_remember 1 = .ok (.getfield 63, 3)) ∧ (decode cX6_remember 4 = .ok (.bipush 8, 2)) ∧ (decode cX6_remember 6 = .ok (.if_icmp .lt 52, 3)) ∧ (decode cX6_remember 9 = .ok (.aload_n 0, 1)) ∧ (decode cX6_remember 10 = .ok (.getfield 31, 3)) ∧ (decode cX6_remember 13 = .ok (.iconst 0, 1)) ∧ (decode cX6_remember 14 = .ok (.aaload, 1)) ∧ (decode cX6_remember 15 = .ok (.astore_n 1, 1)) ∧ (decode cX6_remember 16 = .ok (.iconst 1, 1)) ∧ (decode cX6_remember 17 = .ok (.istore_n 2, 1)) ∧ (decode cX6_remember 18 = .ok (.iload_n 2, 1)) ∧ (decode cX6_remember 19 = .ok (.bipush 8, 2)) ∧ (decode cX6_remember 21 = .ok (.if_icmp .ge 23, 3)) ∧ (decode cX6_remember 24 = .ok (.aload_n 0, 1)) ∧ (decode cX6_remember 25 = .ok (.getfield 31, 3)) := by decide +kernel
theorem dX6_remember_0 : decode cX6_remember 0 = .ok (.aload_n 0, 1) := bX6_remember_0.1
theorem dX6_remember_1 : decode cX6_remember 1 = .ok (.getfield 63, 3) := bX6_remember_0.2.1
theorem dX6_remember_4 : decode cX6_remember 4 = .ok (.bipush 8, 2) := bX6_remember_0.2.2.1
theorem dX6_remember_6 : decode cX6_remember 6 = .ok (.if_icmp .lt 52, 3) := bX6_remember_0.2.2.2.1
theorem dX6_remember_9 : decode cX6_remember 9 = .ok (.aload_n 0, 1) := bX6_remember_0.2.2.2.2.1
theorem dX6_remember_10 : decode cX6_remember 10 = .ok (.getfield 31, 3) := bX6_remember_0.2.2.2.2.2.1
theorem dX6_remember_13 : decode cX6_remember 13 = .ok (.iconst 0, 1) := bX6_remember_0.2.2.2.2.2.2.1
theorem dX6_remember_14 : decode cX6_remember 14 = .ok (.aaload, 1) := bX6_remember_0.2.2.2.2.2.2.2.1
theorem dX6_remember_15 : decode cX6_remember 15 = .ok (.astore_n 1, 1) := bX6_remember_0.2.2.2.2.2.2.2.2.1
theorem dX6_remember_16 : decode cX6_remember 16 = .ok (.iconst 1, 1) := bX6_remember_0.2.2.2.2.2.2.2.2.2.1
theorem dX6_remember_17 : decode cX6_remember 17 = .ok (.istore_n 2, 1) := bX6_remember_0.2.2.2.2.2.2.2.2.2.2.1
theorem dX6_remember_18 : decode cX6_remember 18 = .ok (.iload_n 2, 1) := bX6_remember_0.2.2.2.2.2.2.2.2.2.2.2.1
theorem dX6_remember_19 : decode cX6_remember 19 = .ok (.bipush 8, 2) := bX6_remember_0.2.2.2.2.2.2.2.2.2.2.2.2.1
theorem dX6_remember_21 : decode cX6_remember 21 = .ok (.if_icmp .ge 23, 3) := bX6_remember_0.2.2.2.2.2.2.2.2.2.2.2.2.2.1
theorem dX6_remember_24 : decode cX6_remember 24 = .ok (.aload_n 0, 1) := bX6_remember_0.2.2.2.2.2.2.2.2.2.2.2.2.2.2.1
theorem dX6_remember_25 : decode cX6_remember 25 = .ok (.getfield 31, 3) := bX6_remember_0.2.2.2.2.2.2.2.2.2.2.2.2.2.2.2
theorem bX6_remember_28 : (decode cX6_remember 28 = .ok (.iload_n 2, 1)) ∧ (decode cX6_remember 29 = .ok (.iconst 1, 1)) ∧ (decode cX6_remember 30 = .ok (.isub, 1)) ∧ (decode cX6_remember 31 = .ok (.aload_n 0, 1)) ∧ (decode cX6_remember 32 = .ok (.getfield 31, 3)) ∧ (decode cX6_remember 35 = .ok (.iload_n 2, 1)) ∧ (decode cX6_remember 36 = .ok (.aaload, 1)) ∧ (decode cX6_remember 37 = .ok (.aastore, 1)) ∧ (decode cX6_remember 38 = .ok (.iinc 2 1, 3)) ∧ (decode cX6_remember 41 = .ok (.goto (-23), 3)) ∧ (decode cX6_remember 44 = .ok (.aload_n 0, 1)) ∧ (decode cX6_remember 45 = .ok (.getfield 31, 3)) ∧ (decode cX6_remember 48 = .ok (.bipush 7, 2)) ∧ (decode cX6_remember 50 = .ok (.aload_n 1, 1)) ∧ (decode cX6_remember 51 = .ok (.aastore, 1)) ∧ (decode cX6_remember 52 = .ok (.aload_n 0, 1)) := by decide +kernel
theorem dX6_remember_28 : decode cX6_remember 28 = .ok (.iload_n 2, 1) := bX6_remember_28.1
theorem dX6_remember_29 : decode cX6_remember 29 = .ok (.iconst 1, 1) := bX6_remember_28.2.1
theorem dX6_remember_30 : decode cX6_remember 30 = .ok (.isub, 1) := bX6_remember_28.2.2.1
theorem dX6_remember_31 : decode cX6_remember 31 = .ok (.aload_n 0, 1) := bX6_remember_28.2.2.2.1
theorem dX6_remember_32 : decode cX6_remember 32 = .ok (.getfield 31, 3) := bX6_remember_28.2.2.2.2.1
theorem dX6_remember_35 : decode cX6_remember 35 = .ok (.iload_n 2, 1) := bX6_remember_28.2.2.2.2.2.1
theorem dX6_remember_36 : decode cX6_remember 36 = .ok (.aaload, 1) := bX6_remember_28.2.2.2.2.2.2.1
theorem dX6_remember_37 : decode cX6_remember 37 = .ok (.aastore, 1) := bX6_remember_28.2.2.2.2.2.2.2.1
theorem dX6_remember_38 : decode cX6_remember 38 = .ok (.iinc 2 1, 3) := bX6_remember_28.2.2.2.2.2.2.2.2.1
theorem dX6_remember_41 : decode cX6_remember 41 = .ok (.goto (-23), 3) := bX6_remember_28.2.2.2.2.2.2.2.2.2.1
theorem dX6_remember_44 : decode cX6_remember 44 = .ok (.aload_n 0, 1) := bX6_remember_28.2.2.2.2.2.2.2.2.2.2.1
theorem dX6_remember_45 : decode cX6_remember 45 = .ok (.getfield 31, 3) := bX6_remember_28.2.2.2.2.2.2.2.2.2.2.2.1
theorem dX6_remember_48 : decode cX6_remember 48 = .ok (.bipush 7, 2) := bX6_remember_28.2.2.2.2.2.2.2.2.2.2.2.2.1
theorem dX6_remember_50 : decode cX6_remember 50 = .ok (.aload_n 1, 1) := bX6_remember_28.2.2.2.2.2.2.2.2.2.2.2.2.2.1
theorem dX6_remember_51 : decode cX6_remember 51 = .ok (.aastore, 1) := bX6_remember_28.2.2.2.2.2.2.2.2.2.2.2.2.2.2.1
theorem dX6_remember_52 : decode cX6_remember 52 = .ok (.aload_n 0, 1) := bX6_remember_28.2.2.2.2.2.2.2.2.2.2.2.2.2.2.2
theorem bX6_remember_53 : (decode cX6_remember 53 = .ok (.bipush 7, 2)) ∧ (decode cX6_remember 55 = .ok (.putfield 63, 3)) ∧ (decode cX6_remember 58 = .ok (.aload_n 0, 1)) ∧ (decode cX6_remember 59 = .ok (.getfield 31, 3)) ∧ (decode cX6_remember 62 = .ok (.aload_n 0, 1)) ∧ (decode cX6_remember 63 = .ok (.getfield 63, 3)) ∧ (decode cX6_remember 66 = .ok (.aaload, 1)) ∧ (decode cX6_remember 67 = .ok (.aload_n 0, 1)) ∧ (decode cX6_remember 68 = .ok (.getfield 27, 3)) ∧ (decode cX6_remember 71 = .ok (.invokevirtual 70, 3)) ∧ (decode cX6_remember 74 = .ok (.aload_n 0, 1)) ∧ (decode cX6_remember 75 = .ok (.dup, 1)) ∧ (decode cX6_remember 76 = .ok (.getfield 63, 3)) ∧ (decode cX6_remember 79 = .ok (.iconst 1, 1)) ∧ (decode cX6_remember 80 = .ok (.iadd, 1)) ∧ (decode cX6_remember 81 = .ok (.putfield 63, 3)) := by decide +kernel
theorem dX6_remember_53 : decode cX6_remember 53 = .ok (.bipush 7, 2) := bX6_remember_53.1
theorem dX6_remember_55 : decode cX6_remember 55 = .ok (.putfield 63, 3) := bX6_remember_53.2.1
theorem dX6_remember_58 : decode cX6_remember 58 = .ok (.aload_n 0, 1) := bX6_remember_53.2.2.1
theorem dX6_remember_59 : decode cX6_remember 59 = .ok (.getfield 31, 3) := bX6_remember_53.2.2.2.1
theorem dX6_remember_62 : decode cX6_remember 62 = .ok (.aload_n 0, 1) := bX6_remember_53.2.2.2.2.1
theorem dX6_remember_63 : decode cX6_remember 63 = .ok (.getfield 63, 3) := bX6_remember_53.2.2.2.2.2.1
theorem dX6_remember_66 : decode cX6_remember 66 = .ok (.aaload, 1) := bX6_remember_53.2.2.2.2.2.2.1
theorem dX6_remember_67 : decode cX6_remember 67 = .ok (.aload_n 0, 1) := bX6_remember_53.2.2.2.2.2.2.2.1
theorem dX6_remember_68 : decode cX6_remember 68 = .ok (.getfield 27, 3) := bX6_remember_53.2.2.2.2.2.2.2.2.1
theorem dX6_remember_71 : decode cX6_remember 71 = .ok (.invokevirtual 70, 3) := bX6_remember_53.2.2.2.2.2.2.2.2.2.1
theorem dX6_remember_74 : decode cX6_remember 74 = .ok (.aload_n 0, 1) := bX6_remember_53.2.2.2.2.2.2.2.2.2.2.1
theorem dX6_remember_75 : decode cX6_remember 75 = .ok (.dup, 1) := bX6_remember_53.2.2.2.2.2.2.2.2.2.2.2.1
theorem dX6_remember_76 : decode cX6_remember 76 = .ok (.getfield 63, 3) := bX6_remember_53.2.2.2.2.2.2.2.2.2.2.2.2.1
theorem dX6_remember_79 : decode cX6_remember 79 = .ok (.iconst 1, 1) := bX6_remember_53.2.2.2.2.2.2.2.2.2.2.2.2.2.1
theorem dX6_remember_80 : decode cX6_remember 80 = .ok (.iadd, 1) := bX6_remember_53.2.2.2.2.2.2.2.2.2.2.2.2.2.2.1
theorem dX6_remember_81 : decode cX6_remember 81 = .ok (.putfield 63, 3) := bX6_remember_53.2.2.2.2.2.2.2.2.2.2.2.2.2.2.2
theorem dX6_remember_84 : decode cX6_remember 84 = .ok (.return_, 1) := by decide +kernel
theorem bX6_bringBack_0 : (decode cX6_bringBack 0 = .ok (.aload_n 0, 1)) ∧ (decode cX6_bringBack 1 = .ok (.dup, 1)) ∧ (decode cX6_bringBack 2 = .ok (.getfield 63, 3)) ∧ (decode cX6_bringBack 5 = .ok (.iconst 1, 1)) ∧ (decode cX6_bringBack 6 = .ok (.isub, 1)) ∧ (decode cX6_bringBack 7 = .ok (.putfield 63, 3)) ∧ (decode cX6_bringBack 10 = .ok (.aload_n 0, 1)) ∧ (decode cX6_bringBack 11 = .ok (.getfield 27, 3)) ∧ (decode cX6_bringBack 14 = .ok (.aload_n 0, 1)) ∧ (decode cX6_bringBack 15 = .ok (.getfield 31, 3)) ∧ (decode cX6_bringBack 18 = .ok (.aload_n 0, 1)) ∧ (decode cX6_bringBack 19 = .ok (.getfield 63, 3)) ∧ (decode cX6_bringBack 22 = .ok (.aaload, 1)) ∧ (decode cX6_bringBack 23 = .ok (.invokevirtual 70, 3)) ∧ (decode cX6_bringBack 26 = .ok (.return_, 1)) := by decide +kernel
theorem dX6_bringBack_0 : decode cX6_bringBack 0 = .ok (.aload_n 0, 1) := bX6_bringBack_0.1
theorem dX6_bringBack_1 : decode cX6_bringBack 1 = .ok (.dup, 1) := bX6_bringBack_0.2.1
theorem dX6_bringBack_2 : decode cX6_bringBack 2 = .ok (.getfield 63, 3) := bX6_bringBack_0.2.2.1
theorem dX6_bringBack_5 : decode cX6_bringBack 5 = .ok (.iconst 1, 1) := bX6_bringBack_0.2.2.2.1
theorem dX6_bringBack_6 : decode cX6_bringBack 6 = .ok (.isub, 1) := bX6_bringBack_0.2.2.2.2.1
theorem dX6_bringBack_7 : decode cX6_bringBack 7 = .ok (.putfield 63, 3) := bX6_bringBack_0.2.2.2.2.2.1
theorem dX6_bringBack_10 : decode cX6_bringBack 10 = .ok (.aload_n 0, 1) := bX6_bringBack_0.2.2.2.2.2.2.1
theorem dX6_bringBack_11 : decode cX6_bringBack 11 = .ok (.getfield 27, 3) := bX6_bringBack_0.2.2.2.2.2.2.2.1
theorem dX6_bringBack_14 : decode cX6_bringBack 14 = .ok (.aload_n 0, 1) := bX6_bringBack_0.2.2.2.2.2.2.2.2.1
theorem dX6_bringBack_15 : decode cX6_bringBack 15 = .ok (.getfield 31, 3) := bX6_bringBack_0.2.2.2.2.2.2.2.2.2.1
theorem dX6_bringBack_18 : decode cX6_bringBack 18 = .ok (.aload_n 0, 1) := bX6_bringBack_0.2.2.2.2.2.2.2.2.2.2.1
theorem dX6_bringBack_19 : decode cX6_bringBack 19 = .ok (.getfield 63, 3) := bX6_bringBack_0.2.2.2.2.2.2.2.2.2.2.2.1
theorem dX6_bringBack_22 : decode cX6_bringBack 22 = .ok (.aaload, 1) := bX6_bringBack_0.2.2.2.2.2.2.2.2.2.2.2.2.1
theorem dX6_bringBack_23 : decode cX6_bringBack 23 = .ok (.invokevirtual 70, 3) := bX6_bringBack_0.2.2.2.2.2.2.2.2.2.2.2.2.2.1
theorem dX6_bringBack_26 : decode cX6_bringBack 26 = .ok (.return_, 1) := bX6_bringBack_0.2.2.2.2.2.2.2.2.2.2.2.2.2.2
theorem bX6_mayGet_0 : (decode cX6_mayGet 0 = .ok (.aload_n 0, 1)) ∧ (decode cX6_mayGet 1 = .ok (.getfield 27, 3)) ∧ (decode cX6_mayGet 4 = .ok (.iload_n 1, 1)) ∧ (decode cX6_mayGet 5 = .ok (.invokevirtual 83, 3)) ∧ (decode cX6_mayGet 8 = .ok (.ifCond .eq 20, 3)) ∧ (decode cX6_mayGet 11 = .ok (.aload_n 0, 1)) ∧ (decode cX6_mayGet 12 = .ok (.getfield 27, 3)) ∧ (decode cX6_mayGet 15 = .ok (.getfield 80, 3)) ∧ (decode cX6_mayGet 18 = .ok (.iload_n 1, 1)) ∧ (decode cX6_mayGet 19 = .ok (.iaload, 1)) ∧ (decode cX6_mayGet 20 = .ok (.iconst (-1), 1)) ∧ (decode cX6_mayGet 21 = .ok (.if_icmp .ne 7, 3)) ∧ (decode cX6_mayGet 24 = .ok (.iconst 1, 1)) ∧ (decode cX6_mayGet 25 = .ok (.goto 4, 3)) ∧ (decode cX6_mayGet 28 = .ok (.iconst 0, 1)) ∧ (decode cX6_mayGet 29 = .ok (.ireturn, 1)) := by decide +kernel
theorem dX6_mayGet_0 : decode cX6_mayGet 0 = .ok (.aload_n 0, 1) := bX6_mayGet_0.1
theorem dX6_mayGet_1 : decode cX6_mayGet 1 = .ok (.getfield 27, 3) := bX6_mayGet_0.2.1
theorem dX6_mayGet_4 : decode cX6_mayGet 4 = .ok (.iload_n 1, 1) := bX6_mayGet_0.2.2.1
theorem dX6_mayGet_5 : decode cX6_mayGet 5 = .ok (.invokevirtual 83, 3) := bX6_mayGet_0.2.2.2.1
theorem dX6_mayGet_8 : decode cX6_mayGet 8 = .ok (.ifCond .eq 20, 3) := bX6_mayGet_0.2.2.2.2.1
theorem dX6_mayGet_11 : decode cX6_mayGet 11 = .ok (.aload_n 0, 1) := bX6_mayGet_0.2.2.2.2.2.1
theorem dX6_mayGet_12 : decode cX6_mayGet 12 = .ok (.getfield 27, 3) := bX6_mayGet_0.2.2.2.2.2.2.1
theorem dX6_mayGet_15 : decode cX6_mayGet 15 = .ok (.getfield 80, 3) := bX6_mayGet_0.2.2.2.2.2.2.2.1
theorem dX6_mayGet_18 : decode cX6_mayGet 18 = .ok (.iload_n 1, 1) := bX6_mayGet_0.2.2.2.2.2.2.2.2.1
theorem dX6_mayGet_19 : decode cX6_mayGet 19 = .ok (.iaload, 1) := bX6_mayGet_0.2.2.2.2.2.2.2.2.2.1
theorem dX6_mayGet_20 : decode cX6_mayGet 20 = .ok (.iconst (-1), 1) := bX6_mayGet_0.2.2.2.2.2.2.2.2.2.2.1
theorem dX6_mayGet_21 : decode cX6_mayGet 21 = .ok (.if_icmp .ne 7, 3) := bX6_mayGet_0.2.2.2.2.2.2.2.2.2.2.2.1
theorem dX6_mayGet_24 : decode cX6_mayGet 24 = .ok (.iconst 1, 1) := bX6_mayGet_0.2.2.2.2.2.2.2.2.2.2.2.2.1
theorem dX6_mayGet_25 : decode cX6_mayGet 25 = .ok (.goto 4, 3) := bX6_mayGet_0.2.2.2.2.2.2.2.2.2.2.2.2.2.1
theorem dX6_mayGet_28 : decode cX6_mayGet 28 = .ok (.iconst 0, 1) := bX6_mayGet_0.2.2.2.2.2.2.2.2.2.2.2.2.2.2.1
theorem dX6_mayGet_29 : decode cX6_mayGet 29 = .ok (.ireturn, 1) := bX6_mayGet_0.2.2.2.2.2.2.2.2.2.2.2.2.2.2.2
theorem bX6_ownerOf_0 : (decode cX6_ownerOf 0 = .ok (.aload_n 0, 1)) ∧ (decode cX6_ownerOf 1 = .ok (.aload_n 0, 1)) ∧ (decode cX6_ownerOf 2 = .ok (.getfield 27, 3)) ∧ (decode cX6_ownerOf 5 = .ok (.iload_n 1, 1)) ∧ (decode cX6_ownerOf 6 = .ok (.invokevirtual 87, 3)) ∧ (decode cX6_ownerOf 9 = .ok (.ireturn, 1)) := by decide +kernel
theorem dX6_ownerOf_0 : decode cX6_ownerOf 0 = .ok (.aload_n 0, 1) := bX6_ownerOf_0.1
theorem dX6_ownerOf_1 : decode cX6_ownerOf 1 = .ok (.aload_n 0, 1) := bX6_ownerOf_0.2.1
theorem dX6_ownerOf_2 : decode cX6_ownerOf 2 = .ok (.getfield 27, 3) := bX6_ownerOf_0.2.2.1
theorem dX6_ownerOf_5 : decode cX6_ownerOf 5 = .ok (.iload_n 1, 1) := bX6_ownerOf_0.2.2.2.1
theorem dX6_ownerOf_6 : decode cX6_ownerOf 6 = .ok (.invokevirtual 87, 3) := bX6_ownerOf_0.2.2.2.2.1
theorem dX6_ownerOf_9 : decode cX6_ownerOf 9 = .ok (.ireturn, 1) := bX6_ownerOf_0.2.2.2.2.2
theorem bX6_ownerIn_0 : (decode cX6_ownerIn 0 = .ok (.iconst 0, 1)) ∧ (decode cX6_ownerIn 1 = .ok (.istore_n 3, 1)) ∧ (decode cX6_ownerIn 2 = .ok (.iload_n 3, 1)) ∧ (decode cX6_ownerIn 3 = .ok (.aload_n 0, 1)) ∧ (decode cX6_ownerIn 4 = .ok (.getfield 54, 3)) ∧ (decode cX6_ownerIn 7 = .ok (.if_icmp .ge 21, 3)) ∧ (decode cX6_ownerIn 10 = .ok (.aload_n 1, 1)) ∧ (decode cX6_ownerIn 11 = .ok (.getfield 80, 3)) ∧ (decode cX6_ownerIn 14 = .ok (.iload_n 3, 1)) ∧ (decode cX6_ownerIn 15 = .ok (.iaload, 1)) ∧ (decode cX6_ownerIn 16 = .ok (.iload_n 2, 1)) ∧ (decode cX6_ownerIn 17 = .ok (.if_icmp .ne 5, 3)) ∧ (decode cX6_ownerIn 20 = .ok (.iload_n 3, 1)) ∧ (decode cX6_ownerIn 21 = .ok (.ireturn, 1)) ∧ (decode cX6_ownerIn 22 = .ok (.iinc 3 1, 3)) ∧ (decode cX6_ownerIn 25 = .ok (.goto (-23), 3)) := by decide +kernel
theorem dX6_ownerIn_0 : decode cX6_ownerIn 0 = .ok (.iconst 0, 1) := bX6_ownerIn_0.1
theorem dX6_ownerIn_1 : decode cX6_ownerIn 1 = .ok (.istore_n 3, 1) := bX6_ownerIn_0.2.1
theorem dX6_ownerIn_2 : decode cX6_ownerIn 2 = .ok (.iload_n 3, 1) := bX6_ownerIn_0.2.2.1
theorem dX6_ownerIn_3 : decode cX6_ownerIn 3 = .ok (.aload_n 0, 1) := bX6_ownerIn_0.2.2.2.1
theorem dX6_ownerIn_4 : decode cX6_ownerIn 4 = .ok (.getfield 54, 3) := bX6_ownerIn_0.2.2.2.2.1
theorem dX6_ownerIn_7 : decode cX6_ownerIn 7 = .ok (.if_icmp .ge 21, 3) := bX6_ownerIn_0.2.2.2.2.2.1
theorem dX6_ownerIn_10 : decode cX6_ownerIn 10 = .ok (.aload_n 1, 1) := bX6_ownerIn_0.2.2.2.2.2.2.1
theorem dX6_ownerIn_11 : decode cX6_ownerIn 11 = .ok (.getfield 80, 3) := bX6_ownerIn_0.2.2.2.2.2.2.2.1
theorem dX6_ownerIn_14 : decode cX6_ownerIn 14 = .ok (.iload_n 3, 1) := bX6_ownerIn_0.2.2.2.2.2.2.2.2.1
theorem dX6_ownerIn_15 : decode cX6_ownerIn 15 = .ok (.iaload, 1) := bX6_ownerIn_0.2.2.2.2.2.2.2.2.2.1
theorem dX6_ownerIn_16 : decode cX6_ownerIn 16 = .ok (.iload_n 2, 1) := bX6_ownerIn_0.2.2.2.2.2.2.2.2.2.2.1
theorem dX6_ownerIn_17 : decode cX6_ownerIn 17 = .ok (.if_icmp .ne 5, 3) := bX6_ownerIn_0.2.2.2.2.2.2.2.2.2.2.2.1
theorem dX6_ownerIn_20 : decode cX6_ownerIn 20 = .ok (.iload_n 3, 1) := bX6_ownerIn_0.2.2.2.2.2.2.2.2.2.2.2.2.1
theorem dX6_ownerIn_21 : decode cX6_ownerIn 21 = .ok (.ireturn, 1) := bX6_ownerIn_0.2.2.2.2.2.2.2.2.2.2.2.2.2.1
theorem dX6_ownerIn_22 : decode cX6_ownerIn 22 = .ok (.iinc 3 1, 3) := bX6_ownerIn_0.2.2.2.2.2.2.2.2.2.2.2.2.2.2.1
theorem dX6_ownerIn_25 : decode cX6_ownerIn 25 = .ok (.goto (-23), 3) := bX6_ownerIn_0.2.2.2.2.2.2.2.2.2.2.2.2.2.2.2
theorem bX6_ownerIn_28 : (decode cX6_ownerIn 28 = .ok (.iconst (-1), 1)) ∧ (decode cX6_ownerIn 29 = .ok (.ireturn, 1)) := by decide +kernel
theorem dX6_ownerIn_28 : decode cX6_ownerIn 28 = .ok (.iconst (-1), 1) := bX6_ownerIn_28.1
theorem dX6_ownerIn_29 : decode cX6_ownerIn 29 = .ok (.ireturn, 1) := bX6_ownerIn_28.2
theorem bX6_countOwned_0 : (decode cX6_countOwned 0 = .ok (.iconst 0, 1)) ∧ (decode cX6_countOwned 1 = .ok (.istore_n 1, 1)) ∧ (decode cX6_countOwned 2 = .ok (.iconst 0, 1)) ∧ (decode cX6_countOwned 3 = .ok (.istore_n 2, 1)) ∧ (decode cX6_countOwned 4 = .ok (.iload_n 2, 1)) ∧ (decode cX6_countOwned 5 = .ok (.aload_n 0, 1)) ∧ (decode cX6_countOwned 6 = .ok (.getfield 54, 3)) ∧ (decode cX6_countOwned 9 = .ok (.if_icmp .ge 25, 3)) ∧ (decode cX6_countOwned 12 = .ok (.aload_n 0, 1)) ∧ (decode cX6_countOwned 13 = .ok (.getfield 27, 3)) ∧ (decode cX6_countOwned 16 = .ok (.getfield 80, 3)) ∧ (decode cX6_countOwned 19 = .ok (.iload_n 2, 1)) ∧ (decode cX6_countOwned 20 = .ok (.iaload, 1)) ∧ (decode cX6_countOwned 21 = .ok (.iconst (-1), 1)) ∧ (decode cX6_countOwned 22 = .ok (.if_icmp .eq 6, 3)) ∧ (decode cX6_countOwned 25 = .ok (.iinc 1 1, 3)) := by decide +kernel
theorem dX6_countOwned_0 : decode cX6_countOwned 0 = .ok (.iconst 0, 1) := bX6_countOwned_0.1
theorem dX6_countOwned_1 : decode cX6_countOwned 1 = .ok (.istore_n 1, 1) := bX6_countOwned_0.2.1
theorem dX6_countOwned_2 : decode cX6_countOwned 2 = .ok (.iconst 0, 1) := bX6_countOwned_0.2.2.1
theorem dX6_countOwned_3 : decode cX6_countOwned 3 = .ok (.istore_n 2, 1) := bX6_countOwned_0.2.2.2.1
theorem dX6_countOwned_4 : decode cX6_countOwned 4 = .ok (.iload_n 2, 1) := bX6_countOwned_0.2.2.2.2.1
theorem dX6_countOwned_5 : decode cX6_countOwned 5 = .ok (.aload_n 0, 1) := bX6_countOwned_0.2.2.2.2.2.1
theorem dX6_countOwned_6 : decode cX6_countOwned 6 = .ok (.getfield 54, 3) := bX6_countOwned_0.2.2.2.2.2.2.1
theorem dX6_countOwned_9 : decode cX6_countOwned 9 = .ok (.if_icmp .ge 25, 3) := bX6_countOwned_0.2.2.2.2.2.2.2.1
theorem dX6_countOwned_12 : decode cX6_countOwned 12 = .ok (.aload_n 0, 1) := bX6_countOwned_0.2.2.2.2.2.2.2.2.1
theorem dX6_countOwned_13 : decode cX6_countOwned 13 = .ok (.getfield 27, 3) := bX6_countOwned_0.2.2.2.2.2.2.2.2.2.1
theorem dX6_countOwned_16 : decode cX6_countOwned 16 = .ok (.getfield 80, 3) := bX6_countOwned_0.2.2.2.2.2.2.2.2.2.2.1
theorem dX6_countOwned_19 : decode cX6_countOwned 19 = .ok (.iload_n 2, 1) := bX6_countOwned_0.2.2.2.2.2.2.2.2.2.2.2.1
theorem dX6_countOwned_20 : decode cX6_countOwned 20 = .ok (.iaload, 1) := bX6_countOwned_0.2.2.2.2.2.2.2.2.2.2.2.2.1
theorem dX6_countOwned_21 : decode cX6_countOwned 21 = .ok (.iconst (-1), 1) := bX6_countOwned_0.2.2.2.2.2.2.2.2.2.2.2.2.2.1
theorem dX6_countOwned_22 : decode cX6_countOwned 22 = .ok (.if_icmp .eq 6, 3) := bX6_countOwned_0.2.2.2.2.2.2.2.2.2.2.2.2.2.2.1
theorem dX6_countOwned_25 : decode cX6_countOwned 25 = .ok (.iinc 1 1, 3) := bX6_countOwned_0.2.2.2.2.2.2.2.2.2.2.2.2.2.2.2
theorem bX6_countOwned_28 : (decode cX6_countOwned 28 = .ok (.iinc 2 1, 3)) ∧ (decode cX6_countOwned 31 = .ok (.goto (-27), 3)) ∧ (decode cX6_countOwned 34 = .ok (.iload_n 1, 1)) ∧ (decode cX6_countOwned 35 = .ok (.ireturn, 1)) := by decide +kernel
theorem dX6_countOwned_28 : decode cX6_countOwned 28 = .ok (.iinc 2 1, 3) := bX6_countOwned_28.1
theorem dX6_countOwned_31 : decode cX6_countOwned 31 = .ok (.goto (-27), 3) := bX6_countOwned_28.2.1
theorem dX6_countOwned_34 : decode cX6_countOwned 34 = .ok (.iload_n 1, 1) := bX6_countOwned_28.2.2.1
theorem dX6_countOwned_35 : decode cX6_countOwned 35 = .ok (.ireturn, 1) := bX6_countOwned_28.2.2.2
theorem bX6_factOfOne_0 : (decode cX6_factOfOne 0 = .ok (.iload_n 2, 1)) ∧ (decode cX6_factOfOne 1 = .ok (.tableswitch 65 0 3 #[31, 38, 45, 55], 31)) ∧ (decode cX6_factOfOne 32 = .ok (.aload_n 0, 1)) ∧ (decode cX6_factOfOne 33 = .ok (.getfield 18, 3)) ∧ (decode cX6_factOfOne 36 = .ok (.iload_n 1, 1)) ∧ (decode cX6_factOfOne 37 = .ok (.iaload, 1)) ∧ (decode cX6_factOfOne 38 = .ok (.ireturn, 1)) ∧ (decode cX6_factOfOne 39 = .ok (.aload_n 0, 1)) ∧ (decode cX6_factOfOne 40 = .ok (.getfield 21, 3)) ∧ (decode cX6_factOfOne 43 = .ok (.iload_n 1, 1)) ∧ (decode cX6_factOfOne 44 = .ok (.iaload, 1)) ∧ (decode cX6_factOfOne 45 = .ok (.ireturn, 1)) ∧ (decode cX6_factOfOne 46 = .ok (.aload_n 0, 1)) ∧ (decode cX6_factOfOne 47 = .ok (.getfield 27, 3)) ∧ (decode cX6_factOfOne 50 = .ok (.getfield 77, 3)) ∧ (decode cX6_factOfOne 53 = .ok (.iload_n 1, 1)) := by decide +kernel
theorem dX6_factOfOne_0 : decode cX6_factOfOne 0 = .ok (.iload_n 2, 1) := bX6_factOfOne_0.1
theorem dX6_factOfOne_1 : decode cX6_factOfOne 1 = .ok (.tableswitch 65 0 3 #[31, 38, 45, 55], 31) := bX6_factOfOne_0.2.1
theorem dX6_factOfOne_32 : decode cX6_factOfOne 32 = .ok (.aload_n 0, 1) := bX6_factOfOne_0.2.2.1
theorem dX6_factOfOne_33 : decode cX6_factOfOne 33 = .ok (.getfield 18, 3) := bX6_factOfOne_0.2.2.2.1
theorem dX6_factOfOne_36 : decode cX6_factOfOne 36 = .ok (.iload_n 1, 1) := bX6_factOfOne_0.2.2.2.2.1
theorem dX6_factOfOne_37 : decode cX6_factOfOne 37 = .ok (.iaload, 1) := bX6_factOfOne_0.2.2.2.2.2.1
theorem dX6_factOfOne_38 : decode cX6_factOfOne 38 = .ok (.ireturn, 1) := bX6_factOfOne_0.2.2.2.2.2.2.1
theorem dX6_factOfOne_39 : decode cX6_factOfOne 39 = .ok (.aload_n 0, 1) := bX6_factOfOne_0.2.2.2.2.2.2.2.1
theorem dX6_factOfOne_40 : decode cX6_factOfOne 40 = .ok (.getfield 21, 3) := bX6_factOfOne_0.2.2.2.2.2.2.2.2.1
theorem dX6_factOfOne_43 : decode cX6_factOfOne 43 = .ok (.iload_n 1, 1) := bX6_factOfOne_0.2.2.2.2.2.2.2.2.2.1
theorem dX6_factOfOne_44 : decode cX6_factOfOne 44 = .ok (.iaload, 1) := bX6_factOfOne_0.2.2.2.2.2.2.2.2.2.2.1
theorem dX6_factOfOne_45 : decode cX6_factOfOne 45 = .ok (.ireturn, 1) := bX6_factOfOne_0.2.2.2.2.2.2.2.2.2.2.2.1
theorem dX6_factOfOne_46 : decode cX6_factOfOne 46 = .ok (.aload_n 0, 1) := bX6_factOfOne_0.2.2.2.2.2.2.2.2.2.2.2.2.1
theorem dX6_factOfOne_47 : decode cX6_factOfOne 47 = .ok (.getfield 27, 3) := bX6_factOfOne_0.2.2.2.2.2.2.2.2.2.2.2.2.2.1
theorem dX6_factOfOne_50 : decode cX6_factOfOne 50 = .ok (.getfield 77, 3) := bX6_factOfOne_0.2.2.2.2.2.2.2.2.2.2.2.2.2.2.1
theorem dX6_factOfOne_53 : decode cX6_factOfOne 53 = .ok (.iload_n 1, 1) := bX6_factOfOne_0.2.2.2.2.2.2.2.2.2.2.2.2.2.2.2
theorem bX6_factOfOne_54 : (decode cX6_factOfOne 54 = .ok (.iaload, 1)) ∧ (decode cX6_factOfOne 55 = .ok (.ireturn, 1)) ∧ (decode cX6_factOfOne 56 = .ok (.aload_n 0, 1)) ∧ (decode cX6_factOfOne 57 = .ok (.getfield 27, 3)) ∧ (decode cX6_factOfOne 60 = .ok (.getfield 80, 3)) ∧ (decode cX6_factOfOne 63 = .ok (.iload_n 1, 1)) ∧ (decode cX6_factOfOne 64 = .ok (.iaload, 1)) ∧ (decode cX6_factOfOne 65 = .ok (.ireturn, 1)) ∧ (decode cX6_factOfOne 66 = .ok (.aload_n 0, 1)) ∧ (decode cX6_factOfOne 67 = .ok (.getfield 27, 3)) ∧ (decode cX6_factOfOne 70 = .ok (.iload_n 1, 1)) ∧ (decode cX6_factOfOne 71 = .ok (.invokevirtual 83, 3)) ∧ (decode cX6_factOfOne 74 = .ok (.ifCond .eq 7, 3)) ∧ (decode cX6_factOfOne 77 = .ok (.iconst 1, 1)) ∧ (decode cX6_factOfOne 78 = .ok (.goto 4, 3)) ∧ (decode cX6_factOfOne 81 = .ok (.iconst 0, 1)) := by decide +kernel
theorem dX6_factOfOne_54 : decode cX6_factOfOne 54 = .ok (.iaload, 1) := bX6_factOfOne_54.1
theorem dX6_factOfOne_55 : decode cX6_factOfOne 55 = .ok (.ireturn, 1) := bX6_factOfOne_54.2.1
theorem dX6_factOfOne_56 : decode cX6_factOfOne 56 = .ok (.aload_n 0, 1) := bX6_factOfOne_54.2.2.1
theorem dX6_factOfOne_57 : decode cX6_factOfOne 57 = .ok (.getfield 27, 3) := bX6_factOfOne_54.2.2.2.1
theorem dX6_factOfOne_60 : decode cX6_factOfOne 60 = .ok (.getfield 80, 3) := bX6_factOfOne_54.2.2.2.2.1
theorem dX6_factOfOne_63 : decode cX6_factOfOne 63 = .ok (.iload_n 1, 1) := bX6_factOfOne_54.2.2.2.2.2.1
theorem dX6_factOfOne_64 : decode cX6_factOfOne 64 = .ok (.iaload, 1) := bX6_factOfOne_54.2.2.2.2.2.2.1
theorem dX6_factOfOne_65 : decode cX6_factOfOne 65 = .ok (.ireturn, 1) := bX6_factOfOne_54.2.2.2.2.2.2.2.1
theorem dX6_factOfOne_66 : decode cX6_factOfOne 66 = .ok (.aload_n 0, 1) := bX6_factOfOne_54.2.2.2.2.2.2.2.2.1
theorem dX6_factOfOne_67 : decode cX6_factOfOne 67 = .ok (.getfield 27, 3) := bX6_factOfOne_54.2.2.2.2.2.2.2.2.2.1
theorem dX6_factOfOne_70 : decode cX6_factOfOne 70 = .ok (.iload_n 1, 1) := bX6_factOfOne_54.2.2.2.2.2.2.2.2.2.2.1
theorem dX6_factOfOne_71 : decode cX6_factOfOne 71 = .ok (.invokevirtual 83, 3) := bX6_factOfOne_54.2.2.2.2.2.2.2.2.2.2.2.1
theorem dX6_factOfOne_74 : decode cX6_factOfOne 74 = .ok (.ifCond .eq 7, 3) := bX6_factOfOne_54.2.2.2.2.2.2.2.2.2.2.2.2.1
theorem dX6_factOfOne_77 : decode cX6_factOfOne 77 = .ok (.iconst 1, 1) := bX6_factOfOne_54.2.2.2.2.2.2.2.2.2.2.2.2.2.1
theorem dX6_factOfOne_78 : decode cX6_factOfOne 78 = .ok (.goto 4, 3) := bX6_factOfOne_54.2.2.2.2.2.2.2.2.2.2.2.2.2.2.1
theorem dX6_factOfOne_81 : decode cX6_factOfOne 81 = .ok (.iconst 0, 1) := bX6_factOfOne_54.2.2.2.2.2.2.2.2.2.2.2.2.2.2.2
theorem dX6_factOfOne_82 : decode cX6_factOfOne 82 = .ok (.ireturn, 1) := by decide +kernel
theorem bX6_weightOf_0 : (decode cX6_weightOf 0 = .ok (.aload_n 0, 1)) ∧ (decode cX6_weightOf 1 = .ok (.getfield 9, 3)) ∧ (decode cX6_weightOf 4 = .ok (.iload_n 1, 1)) ∧ (decode cX6_weightOf 5 = .ok (.iaload, 1)) ∧ (decode cX6_weightOf 6 = .ok (.aload_n 0, 1)) ∧ (decode cX6_weightOf 7 = .ok (.getfield 15, 3)) ∧ (decode cX6_weightOf 10 = .ok (.iload_n 1, 1)) ∧ (decode cX6_weightOf 11 = .ok (.iaload, 1)) ∧ (decode cX6_weightOf 12 = .ok (.aload_n 0, 1)) ∧ (decode cX6_weightOf 13 = .ok (.getfield 27, 3)) ∧ (decode cX6_weightOf 16 = .ok (.getfield 60, 3)) ∧ (decode cX6_weightOf 19 = .ok (.iload_n 2, 1)) ∧ (decode cX6_weightOf 20 = .ok (.iadd, 1)) ∧ (decode cX6_weightOf 21 = .ok (.invokestatic 91, 3)) ∧ (decode cX6_weightOf 24 = .ok (.ireturn, 1)) := by decide +kernel
theorem dX6_weightOf_0 : decode cX6_weightOf 0 = .ok (.aload_n 0, 1) := bX6_weightOf_0.1
theorem dX6_weightOf_1 : decode cX6_weightOf 1 = .ok (.getfield 9, 3) := bX6_weightOf_0.2.1
theorem dX6_weightOf_4 : decode cX6_weightOf 4 = .ok (.iload_n 1, 1) := bX6_weightOf_0.2.2.1
theorem dX6_weightOf_5 : decode cX6_weightOf 5 = .ok (.iaload, 1) := bX6_weightOf_0.2.2.2.1
theorem dX6_weightOf_6 : decode cX6_weightOf 6 = .ok (.aload_n 0, 1) := bX6_weightOf_0.2.2.2.2.1
theorem dX6_weightOf_7 : decode cX6_weightOf 7 = .ok (.getfield 15, 3) := bX6_weightOf_0.2.2.2.2.2.1
theorem dX6_weightOf_10 : decode cX6_weightOf 10 = .ok (.iload_n 1, 1) := bX6_weightOf_0.2.2.2.2.2.2.1
theorem dX6_weightOf_11 : decode cX6_weightOf 11 = .ok (.iaload, 1) := bX6_weightOf_0.2.2.2.2.2.2.2.1
theorem dX6_weightOf_12 : decode cX6_weightOf 12 = .ok (.aload_n 0, 1) := bX6_weightOf_0.2.2.2.2.2.2.2.2.1
theorem dX6_weightOf_13 : decode cX6_weightOf 13 = .ok (.getfield 27, 3) := bX6_weightOf_0.2.2.2.2.2.2.2.2.2.1
theorem dX6_weightOf_16 : decode cX6_weightOf 16 = .ok (.getfield 60, 3) := bX6_weightOf_0.2.2.2.2.2.2.2.2.2.2.1
theorem dX6_weightOf_19 : decode cX6_weightOf 19 = .ok (.iload_n 2, 1) := bX6_weightOf_0.2.2.2.2.2.2.2.2.2.2.2.1
theorem dX6_weightOf_20 : decode cX6_weightOf 20 = .ok (.iadd, 1) := bX6_weightOf_0.2.2.2.2.2.2.2.2.2.2.2.2.1
theorem dX6_weightOf_21 : decode cX6_weightOf 21 = .ok (.invokestatic 91, 3) := bX6_weightOf_0.2.2.2.2.2.2.2.2.2.2.2.2.2.1
theorem dX6_weightOf_24 : decode cX6_weightOf 24 = .ok (.ireturn, 1) := bX6_weightOf_0.2.2.2.2.2.2.2.2.2.2.2.2.2.2
theorem bX6_liftOf_0 : (decode cX6_liftOf 0 = .ok (.aload_n 0, 1)) ∧ (decode cX6_liftOf 1 = .ok (.getfield 27, 3)) ∧ (decode cX6_liftOf 4 = .ok (.iload_n 1, 1)) ∧ (decode cX6_liftOf 5 = .ok (.invokevirtual 83, 3)) ∧ (decode cX6_liftOf 8 = .ok (.ifCond .eq 22, 3)) ∧ (decode cX6_liftOf 11 = .ok (.bipush 99, 2)) ∧ (decode cX6_liftOf 13 = .ok (.aload_n 0, 1)) ∧ (decode cX6_liftOf 14 = .ok (.getfield 27, 3)) ∧ (decode cX6_liftOf 17 = .ok (.getfield 77, 3)) ∧ (decode cX6_liftOf 20 = .ok (.iload_n 1, 1)) ∧ (decode cX6_liftOf 21 = .ok (.iaload, 1)) ∧ (decode cX6_liftOf 22 = .ok (.iload_n 2, 1)) ∧ (decode cX6_liftOf 23 = .ok (.iadd, 1)) ∧ (decode cX6_liftOf 24 = .ok (.invokestatic 97, 3)) ∧ (decode cX6_liftOf 27 = .ok (.goto 12, 3)) ∧ (decode cX6_liftOf 30 = .ok (.aload_n 0, 1)) := by decide +kernel
theorem dX6_liftOf_0 : decode cX6_liftOf 0 = .ok (.aload_n 0, 1) := bX6_liftOf_0.1
theorem dX6_liftOf_1 : decode cX6_liftOf 1 = .ok (.getfield 27, 3) := bX6_liftOf_0.2.1
theorem dX6_liftOf_4 : decode cX6_liftOf 4 = .ok (.iload_n 1, 1) := bX6_liftOf_0.2.2.1
theorem dX6_liftOf_5 : decode cX6_liftOf 5 = .ok (.invokevirtual 83, 3) := bX6_liftOf_0.2.2.2.1
theorem dX6_liftOf_8 : decode cX6_liftOf 8 = .ok (.ifCond .eq 22, 3) := bX6_liftOf_0.2.2.2.2.1
theorem dX6_liftOf_11 : decode cX6_liftOf 11 = .ok (.bipush 99, 2) := bX6_liftOf_0.2.2.2.2.2.1
theorem dX6_liftOf_13 : decode cX6_liftOf 13 = .ok (.aload_n 0, 1) := bX6_liftOf_0.2.2.2.2.2.2.1
theorem dX6_liftOf_14 : decode cX6_liftOf 14 = .ok (.getfield 27, 3) := bX6_liftOf_0.2.2.2.2.2.2.2.1
theorem dX6_liftOf_17 : decode cX6_liftOf 17 = .ok (.getfield 77, 3) := bX6_liftOf_0.2.2.2.2.2.2.2.2.1
theorem dX6_liftOf_20 : decode cX6_liftOf 20 = .ok (.iload_n 1, 1) := bX6_liftOf_0.2.2.2.2.2.2.2.2.2.1
theorem dX6_liftOf_21 : decode cX6_liftOf 21 = .ok (.iaload, 1) := bX6_liftOf_0.2.2.2.2.2.2.2.2.2.2.1
theorem dX6_liftOf_22 : decode cX6_liftOf 22 = .ok (.iload_n 2, 1) := bX6_liftOf_0.2.2.2.2.2.2.2.2.2.2.2.1
theorem dX6_liftOf_23 : decode cX6_liftOf 23 = .ok (.iadd, 1) := bX6_liftOf_0.2.2.2.2.2.2.2.2.2.2.2.2.1
theorem dX6_liftOf_24 : decode cX6_liftOf 24 = .ok (.invokestatic 97, 3) := bX6_liftOf_0.2.2.2.2.2.2.2.2.2.2.2.2.2.1
theorem dX6_liftOf_27 : decode cX6_liftOf 27 = .ok (.goto 12, 3) := bX6_liftOf_0.2.2.2.2.2.2.2.2.2.2.2.2.2.2.1
theorem dX6_liftOf_30 : decode cX6_liftOf 30 = .ok (.aload_n 0, 1) := bX6_liftOf_0.2.2.2.2.2.2.2.2.2.2.2.2.2.2.2
theorem bX6_liftOf_31 : (decode cX6_liftOf 31 = .ok (.getfield 27, 3)) ∧ (decode cX6_liftOf 34 = .ok (.getfield 77, 3)) ∧ (decode cX6_liftOf 37 = .ok (.iload_n 1, 1)) ∧ (decode cX6_liftOf 38 = .ok (.iaload, 1)) ∧ (decode cX6_liftOf 39 = .ok (.istore_n 3, 1)) ∧ (decode cX6_liftOf 40 = .ok (.aload_n 0, 1)) ∧ (decode cX6_liftOf 41 = .ok (.getfield 18, 3)) ∧ (decode cX6_liftOf 44 = .ok (.iload_n 1, 1)) ∧ (decode cX6_liftOf 45 = .ok (.iaload, 1)) ∧ (decode cX6_liftOf 46 = .ok (.aload_n 0, 1)) ∧ (decode cX6_liftOf 47 = .ok (.getfield 21, 3)) ∧ (decode cX6_liftOf 50 = .ok (.iload_n 1, 1)) ∧ (decode cX6_liftOf 51 = .ok (.iaload, 1)) ∧ (decode cX6_liftOf 52 = .ok (.iload_n 3, 1)) ∧ (decode cX6_liftOf 53 = .ok (.invokestatic 103, 3)) ∧ (decode cX6_liftOf 56 = .ok (.ireturn, 1)) := by decide +kernel
theorem dX6_liftOf_31 : decode cX6_liftOf 31 = .ok (.getfield 27, 3) := bX6_liftOf_31.1
theorem dX6_liftOf_34 : decode cX6_liftOf 34 = .ok (.getfield 77, 3) := bX6_liftOf_31.2.1
theorem dX6_liftOf_37 : decode cX6_liftOf 37 = .ok (.iload_n 1, 1) := bX6_liftOf_31.2.2.1
theorem dX6_liftOf_38 : decode cX6_liftOf 38 = .ok (.iaload, 1) := bX6_liftOf_31.2.2.2.1
theorem dX6_liftOf_39 : decode cX6_liftOf 39 = .ok (.istore_n 3, 1) := bX6_liftOf_31.2.2.2.2.1
theorem dX6_liftOf_40 : decode cX6_liftOf 40 = .ok (.aload_n 0, 1) := bX6_liftOf_31.2.2.2.2.2.1
theorem dX6_liftOf_41 : decode cX6_liftOf 41 = .ok (.getfield 18, 3) := bX6_liftOf_31.2.2.2.2.2.2.1
theorem dX6_liftOf_44 : decode cX6_liftOf 44 = .ok (.iload_n 1, 1) := bX6_liftOf_31.2.2.2.2.2.2.2.1
theorem dX6_liftOf_45 : decode cX6_liftOf 45 = .ok (.iaload, 1) := bX6_liftOf_31.2.2.2.2.2.2.2.2.1
theorem dX6_liftOf_46 : decode cX6_liftOf 46 = .ok (.aload_n 0, 1) := bX6_liftOf_31.2.2.2.2.2.2.2.2.2.1
theorem dX6_liftOf_47 : decode cX6_liftOf 47 = .ok (.getfield 21, 3) := bX6_liftOf_31.2.2.2.2.2.2.2.2.2.2.1
theorem dX6_liftOf_50 : decode cX6_liftOf 50 = .ok (.iload_n 1, 1) := bX6_liftOf_31.2.2.2.2.2.2.2.2.2.2.2.1
theorem dX6_liftOf_51 : decode cX6_liftOf 51 = .ok (.iaload, 1) := bX6_liftOf_31.2.2.2.2.2.2.2.2.2.2.2.2.1
theorem dX6_liftOf_52 : decode cX6_liftOf 52 = .ok (.iload_n 3, 1) := bX6_liftOf_31.2.2.2.2.2.2.2.2.2.2.2.2.2.1
theorem dX6_liftOf_53 : decode cX6_liftOf 53 = .ok (.invokestatic 103, 3) := bX6_liftOf_31.2.2.2.2.2.2.2.2.2.2.2.2.2.2.1
theorem dX6_liftOf_56 : decode cX6_liftOf 56 = .ok (.ireturn, 1) := bX6_liftOf_31.2.2.2.2.2.2.2.2.2.2.2.2.2.2.2
theorem bX6_holdsFor_0 : (decode cX6_holdsFor 0 = .ok (.iconst 0, 1)) ∧ (decode cX6_holdsFor 1 = .ok (.istore 4, 2)) ∧ (decode cX6_holdsFor 3 = .ok (.iload 4, 2)) ∧ (decode cX6_holdsFor 5 = .ok (.iload_n 3, 1)) ∧ (decode cX6_holdsFor 6 = .ok (.if_icmp .ge 29, 3)) ∧ (decode cX6_holdsFor 9 = .ok (.aload_n 0, 1)) ∧ (decode cX6_holdsFor 10 = .ok (.iload_n 1, 1)) ∧ (decode cX6_holdsFor 11 = .ok (.iload 4, 2)) ∧ (decode cX6_holdsFor 13 = .ok (.invokevirtual 106, 3)) ∧ (decode cX6_holdsFor 16 = .ok (.aload_n 0, 1)) ∧ (decode cX6_holdsFor 17 = .ok (.iload_n 2, 1)) ∧ (decode cX6_holdsFor 18 = .ok (.iload 4, 2)) ∧ (decode cX6_holdsFor 20 = .ok (.invokevirtual 109, 3)) ∧ (decode cX6_holdsFor 23 = .ok (.if_icmp .gt 6, 3)) ∧ (decode cX6_holdsFor 26 = .ok (.iload 4, 2)) ∧ (decode cX6_holdsFor 28 = .ok (.ireturn, 1)) := by decide +kernel
theorem dX6_holdsFor_0 : decode cX6_holdsFor 0 = .ok (.iconst 0, 1) := bX6_holdsFor_0.1
theorem dX6_holdsFor_1 : decode cX6_holdsFor 1 = .ok (.istore 4, 2) := bX6_holdsFor_0.2.1
theorem dX6_holdsFor_3 : decode cX6_holdsFor 3 = .ok (.iload 4, 2) := bX6_holdsFor_0.2.2.1
theorem dX6_holdsFor_5 : decode cX6_holdsFor 5 = .ok (.iload_n 3, 1) := bX6_holdsFor_0.2.2.2.1
theorem dX6_holdsFor_6 : decode cX6_holdsFor 6 = .ok (.if_icmp .ge 29, 3) := bX6_holdsFor_0.2.2.2.2.1
theorem dX6_holdsFor_9 : decode cX6_holdsFor 9 = .ok (.aload_n 0, 1) := bX6_holdsFor_0.2.2.2.2.2.1
theorem dX6_holdsFor_10 : decode cX6_holdsFor 10 = .ok (.iload_n 1, 1) := bX6_holdsFor_0.2.2.2.2.2.2.1
theorem dX6_holdsFor_11 : decode cX6_holdsFor 11 = .ok (.iload 4, 2) := bX6_holdsFor_0.2.2.2.2.2.2.2.1
theorem dX6_holdsFor_13 : decode cX6_holdsFor 13 = .ok (.invokevirtual 106, 3) := bX6_holdsFor_0.2.2.2.2.2.2.2.2.1
theorem dX6_holdsFor_16 : decode cX6_holdsFor 16 = .ok (.aload_n 0, 1) := bX6_holdsFor_0.2.2.2.2.2.2.2.2.2.1
theorem dX6_holdsFor_17 : decode cX6_holdsFor 17 = .ok (.iload_n 2, 1) := bX6_holdsFor_0.2.2.2.2.2.2.2.2.2.2.1
theorem dX6_holdsFor_18 : decode cX6_holdsFor 18 = .ok (.iload 4, 2) := bX6_holdsFor_0.2.2.2.2.2.2.2.2.2.2.2.1
theorem dX6_holdsFor_20 : decode cX6_holdsFor 20 = .ok (.invokevirtual 109, 3) := bX6_holdsFor_0.2.2.2.2.2.2.2.2.2.2.2.2.1
theorem dX6_holdsFor_23 : decode cX6_holdsFor 23 = .ok (.if_icmp .gt 6, 3) := bX6_holdsFor_0.2.2.2.2.2.2.2.2.2.2.2.2.2.1
theorem dX6_holdsFor_26 : decode cX6_holdsFor 26 = .ok (.iload 4, 2) := bX6_holdsFor_0.2.2.2.2.2.2.2.2.2.2.2.2.2.2.1
theorem dX6_holdsFor_28 : decode cX6_holdsFor 28 = .ok (.ireturn, 1) := bX6_holdsFor_0.2.2.2.2.2.2.2.2.2.2.2.2.2.2.2
theorem bX6_holdsFor_29 : (decode cX6_holdsFor 29 = .ok (.iinc 4 1, 3)) ∧ (decode cX6_holdsFor 32 = .ok (.goto (-29), 3)) ∧ (decode cX6_holdsFor 35 = .ok (.iload_n 3, 1)) ∧ (decode cX6_holdsFor 36 = .ok (.ireturn, 1)) := by decide +kernel
theorem dX6_holdsFor_29 : decode cX6_holdsFor 29 = .ok (.iinc 4 1, 3) := bX6_holdsFor_29.1
theorem dX6_holdsFor_32 : decode cX6_holdsFor 32 = .ok (.goto (-29), 3) := bX6_holdsFor_29.2.1
theorem dX6_holdsFor_35 : decode cX6_holdsFor 35 = .ok (.iload_n 3, 1) := bX6_holdsFor_29.2.2.1
theorem dX6_holdsFor_36 : decode cX6_holdsFor 36 = .ok (.ireturn, 1) := bX6_holdsFor_29.2.2.2
theorem bX6_thingsHolding_0 : (decode cX6_thingsHolding 0 = .ok (.iconst 0, 1)) ∧ (decode cX6_thingsHolding 1 = .ok (.istore_n 3, 1)) ∧ (decode cX6_thingsHolding 2 = .ok (.aload_n 0, 1)) ∧ (decode cX6_thingsHolding 3 = .ok (.getfield 27, 3)) ∧ (decode cX6_thingsHolding 6 = .ok (.iload_n 1, 1)) ∧ (decode cX6_thingsHolding 7 = .ok (.invokevirtual 83, 3)) ∧ (decode cX6_thingsHolding 10 = .ok (.ifCond .eq 40, 3)) ∧ (decode cX6_thingsHolding 13 = .ok (.iconst 0, 1)) ∧ (decode cX6_thingsHolding 14 = .ok (.istore 4, 2)) ∧ (decode cX6_thingsHolding 16 = .ok (.iload 4, 2)) ∧ (decode cX6_thingsHolding 18 = .ok (.aload_n 0, 1)) ∧ (decode cX6_thingsHolding 19 = .ok (.getfield 50, 3)) ∧ (decode cX6_thingsHolding 22 = .ok (.if_icmp .ge 28, 3)) ∧ (decode cX6_thingsHolding 25 = .ok (.aload_n 0, 1)) ∧ (decode cX6_thingsHolding 26 = .ok (.iload 4, 2)) ∧ (decode cX6_thingsHolding 28 = .ok (.iload_n 1, 1)) := by decide +kernel
theorem dX6_thingsHolding_0 : decode cX6_thingsHolding 0 = .ok (.iconst 0, 1) := bX6_thingsHolding_0.1
theorem dX6_thingsHolding_1 : decode cX6_thingsHolding 1 = .ok (.istore_n 3, 1) := bX6_thingsHolding_0.2.1
theorem dX6_thingsHolding_2 : decode cX6_thingsHolding 2 = .ok (.aload_n 0, 1) := bX6_thingsHolding_0.2.2.1
theorem dX6_thingsHolding_3 : decode cX6_thingsHolding 3 = .ok (.getfield 27, 3) := bX6_thingsHolding_0.2.2.2.1
theorem dX6_thingsHolding_6 : decode cX6_thingsHolding 6 = .ok (.iload_n 1, 1) := bX6_thingsHolding_0.2.2.2.2.1
theorem dX6_thingsHolding_7 : decode cX6_thingsHolding 7 = .ok (.invokevirtual 83, 3) := bX6_thingsHolding_0.2.2.2.2.2.1
theorem dX6_thingsHolding_10 : decode cX6_thingsHolding 10 = .ok (.ifCond .eq 40, 3) := bX6_thingsHolding_0.2.2.2.2.2.2.1
theorem dX6_thingsHolding_13 : decode cX6_thingsHolding 13 = .ok (.iconst 0, 1) := bX6_thingsHolding_0.2.2.2.2.2.2.2.1
theorem dX6_thingsHolding_14 : decode cX6_thingsHolding 14 = .ok (.istore 4, 2) := bX6_thingsHolding_0.2.2.2.2.2.2.2.2.1
theorem dX6_thingsHolding_16 : decode cX6_thingsHolding 16 = .ok (.iload 4, 2) := bX6_thingsHolding_0.2.2.2.2.2.2.2.2.2.1
theorem dX6_thingsHolding_18 : decode cX6_thingsHolding 18 = .ok (.aload_n 0, 1) := bX6_thingsHolding_0.2.2.2.2.2.2.2.2.2.2.1
theorem dX6_thingsHolding_19 : decode cX6_thingsHolding 19 = .ok (.getfield 50, 3) := bX6_thingsHolding_0.2.2.2.2.2.2.2.2.2.2.2.1
theorem dX6_thingsHolding_22 : decode cX6_thingsHolding 22 = .ok (.if_icmp .ge 28, 3) := bX6_thingsHolding_0.2.2.2.2.2.2.2.2.2.2.2.2.1
theorem dX6_thingsHolding_25 : decode cX6_thingsHolding 25 = .ok (.aload_n 0, 1) := bX6_thingsHolding_0.2.2.2.2.2.2.2.2.2.2.2.2.2.1
theorem dX6_thingsHolding_26 : decode cX6_thingsHolding 26 = .ok (.iload 4, 2) := bX6_thingsHolding_0.2.2.2.2.2.2.2.2.2.2.2.2.2.2.1
theorem dX6_thingsHolding_28 : decode cX6_thingsHolding 28 = .ok (.iload_n 1, 1) := bX6_thingsHolding_0.2.2.2.2.2.2.2.2.2.2.2.2.2.2.2
theorem bX6_thingsHolding_29 : (decode cX6_thingsHolding 29 = .ok (.iload_n 2, 1)) ∧ (decode cX6_thingsHolding 30 = .ok (.invokevirtual 112, 3)) ∧ (decode cX6_thingsHolding 33 = .ok (.iload_n 2, 1)) ∧ (decode cX6_thingsHolding 34 = .ok (.if_icmp .lt 10, 3)) ∧ (decode cX6_thingsHolding 37 = .ok (.iload_n 3, 1)) ∧ (decode cX6_thingsHolding 38 = .ok (.iconst 1, 1)) ∧ (decode cX6_thingsHolding 39 = .ok (.iload 4, 2)) ∧ (decode cX6_thingsHolding 41 = .ok (.ishl, 1)) ∧ (decode cX6_thingsHolding 42 = .ok (.ior, 1)) ∧ (decode cX6_thingsHolding 43 = .ok (.istore_n 3, 1)) ∧ (decode cX6_thingsHolding 44 = .ok (.iinc 4 1, 3)) ∧ (decode cX6_thingsHolding 47 = .ok (.goto (-31), 3)) ∧ (decode cX6_thingsHolding 50 = .ok (.iload_n 3, 1)) ∧ (decode cX6_thingsHolding 51 = .ok (.ireturn, 1)) := by decide +kernel
theorem dX6_thingsHolding_29 : decode cX6_thingsHolding 29 = .ok (.iload_n 2, 1) := bX6_thingsHolding_29.1
theorem dX6_thingsHolding_30 : decode cX6_thingsHolding 30 = .ok (.invokevirtual 112, 3) := bX6_thingsHolding_29.2.1
theorem dX6_thingsHolding_33 : decode cX6_thingsHolding 33 = .ok (.iload_n 2, 1) := bX6_thingsHolding_29.2.2.1
theorem dX6_thingsHolding_34 : decode cX6_thingsHolding 34 = .ok (.if_icmp .lt 10, 3) := bX6_thingsHolding_29.2.2.2.1
theorem dX6_thingsHolding_37 : decode cX6_thingsHolding 37 = .ok (.iload_n 3, 1) := bX6_thingsHolding_29.2.2.2.2.1
theorem dX6_thingsHolding_38 : decode cX6_thingsHolding 38 = .ok (.iconst 1, 1) := bX6_thingsHolding_29.2.2.2.2.2.1
theorem dX6_thingsHolding_39 : decode cX6_thingsHolding 39 = .ok (.iload 4, 2) := bX6_thingsHolding_29.2.2.2.2.2.2.1
theorem dX6_thingsHolding_41 : decode cX6_thingsHolding 41 = .ok (.ishl, 1) := bX6_thingsHolding_29.2.2.2.2.2.2.2.1
theorem dX6_thingsHolding_42 : decode cX6_thingsHolding 42 = .ok (.ior, 1) := bX6_thingsHolding_29.2.2.2.2.2.2.2.2.1
theorem dX6_thingsHolding_43 : decode cX6_thingsHolding 43 = .ok (.istore_n 3, 1) := bX6_thingsHolding_29.2.2.2.2.2.2.2.2.2.1
theorem dX6_thingsHolding_44 : decode cX6_thingsHolding 44 = .ok (.iinc 4 1, 3) := bX6_thingsHolding_29.2.2.2.2.2.2.2.2.2.2.1
theorem dX6_thingsHolding_47 : decode cX6_thingsHolding 47 = .ok (.goto (-31), 3) := bX6_thingsHolding_29.2.2.2.2.2.2.2.2.2.2.2.1
theorem dX6_thingsHolding_50 : decode cX6_thingsHolding 50 = .ok (.iload_n 3, 1) := bX6_thingsHolding_29.2.2.2.2.2.2.2.2.2.2.2.2.1
theorem dX6_thingsHolding_51 : decode cX6_thingsHolding 51 = .ok (.ireturn, 1) := bX6_thingsHolding_29.2.2.2.2.2.2.2.2.2.2.2.2.2
theorem bX6_toldWeight_0 : (decode cX6_toldWeight 0 = .ok (.iconst 0, 1)) ∧ (decode cX6_toldWeight 1 = .ok (.istore_n 2, 1)) ∧ (decode cX6_toldWeight 2 = .ok (.iconst 0, 1)) ∧ (decode cX6_toldWeight 3 = .ok (.istore_n 3, 1)) ∧ (decode cX6_toldWeight 4 = .ok (.iload_n 3, 1)) ∧ (decode cX6_toldWeight 5 = .ok (.aload_n 0, 1)) ∧ (decode cX6_toldWeight 6 = .ok (.getfield 50, 3)) ∧ (decode cX6_toldWeight 9 = .ok (.if_icmp .ge 27, 3)) ∧ (decode cX6_toldWeight 12 = .ok (.iload_n 1, 1)) ∧ (decode cX6_toldWeight 13 = .ok (.iload_n 3, 1)) ∧ (decode cX6_toldWeight 14 = .ok (.ishr, 1)) ∧ (decode cX6_toldWeight 15 = .ok (.iconst 1, 1)) ∧ (decode cX6_toldWeight 16 = .ok (.iand, 1)) ∧ (decode cX6_toldWeight 17 = .ok (.iconst 1, 1)) ∧ (decode cX6_toldWeight 18 = .ok (.if_icmp .ne 12, 3)) ∧ (decode cX6_toldWeight 21 = .ok (.iload_n 2, 1)) := by decide +kernel
theorem dX6_toldWeight_0 : decode cX6_toldWeight 0 = .ok (.iconst 0, 1) := bX6_toldWeight_0.1
theorem dX6_toldWeight_1 : decode cX6_toldWeight 1 = .ok (.istore_n 2, 1) := bX6_toldWeight_0.2.1
theorem dX6_toldWeight_2 : decode cX6_toldWeight 2 = .ok (.iconst 0, 1) := bX6_toldWeight_0.2.2.1
theorem dX6_toldWeight_3 : decode cX6_toldWeight 3 = .ok (.istore_n 3, 1) := bX6_toldWeight_0.2.2.2.1
theorem dX6_toldWeight_4 : decode cX6_toldWeight 4 = .ok (.iload_n 3, 1) := bX6_toldWeight_0.2.2.2.2.1
theorem dX6_toldWeight_5 : decode cX6_toldWeight 5 = .ok (.aload_n 0, 1) := bX6_toldWeight_0.2.2.2.2.2.1
theorem dX6_toldWeight_6 : decode cX6_toldWeight 6 = .ok (.getfield 50, 3) := bX6_toldWeight_0.2.2.2.2.2.2.1
theorem dX6_toldWeight_9 : decode cX6_toldWeight 9 = .ok (.if_icmp .ge 27, 3) := bX6_toldWeight_0.2.2.2.2.2.2.2.1
theorem dX6_toldWeight_12 : decode cX6_toldWeight 12 = .ok (.iload_n 1, 1) := bX6_toldWeight_0.2.2.2.2.2.2.2.2.1
theorem dX6_toldWeight_13 : decode cX6_toldWeight 13 = .ok (.iload_n 3, 1) := bX6_toldWeight_0.2.2.2.2.2.2.2.2.2.1
theorem dX6_toldWeight_14 : decode cX6_toldWeight 14 = .ok (.ishr, 1) := bX6_toldWeight_0.2.2.2.2.2.2.2.2.2.2.1
theorem dX6_toldWeight_15 : decode cX6_toldWeight 15 = .ok (.iconst 1, 1) := bX6_toldWeight_0.2.2.2.2.2.2.2.2.2.2.2.1
theorem dX6_toldWeight_16 : decode cX6_toldWeight 16 = .ok (.iand, 1) := bX6_toldWeight_0.2.2.2.2.2.2.2.2.2.2.2.2.1
theorem dX6_toldWeight_17 : decode cX6_toldWeight 17 = .ok (.iconst 1, 1) := bX6_toldWeight_0.2.2.2.2.2.2.2.2.2.2.2.2.2.1
theorem dX6_toldWeight_18 : decode cX6_toldWeight 18 = .ok (.if_icmp .ne 12, 3) := bX6_toldWeight_0.2.2.2.2.2.2.2.2.2.2.2.2.2.2.1
theorem dX6_toldWeight_21 : decode cX6_toldWeight 21 = .ok (.iload_n 2, 1) := bX6_toldWeight_0.2.2.2.2.2.2.2.2.2.2.2.2.2.2.2
theorem bX6_toldWeight_22 : (decode cX6_toldWeight 22 = .ok (.aload_n 0, 1)) ∧ (decode cX6_toldWeight 23 = .ok (.getfield 15, 3)) ∧ (decode cX6_toldWeight 26 = .ok (.iload_n 3, 1)) ∧ (decode cX6_toldWeight 27 = .ok (.iaload, 1)) ∧ (decode cX6_toldWeight 28 = .ok (.iadd, 1)) ∧ (decode cX6_toldWeight 29 = .ok (.istore_n 2, 1)) ∧ (decode cX6_toldWeight 30 = .ok (.iinc 3 1, 3)) ∧ (decode cX6_toldWeight 33 = .ok (.goto (-29), 3)) ∧ (decode cX6_toldWeight 36 = .ok (.iload_n 2, 1)) ∧ (decode cX6_toldWeight 37 = .ok (.ireturn, 1)) := by decide +kernel
theorem dX6_toldWeight_22 : decode cX6_toldWeight 22 = .ok (.aload_n 0, 1) := bX6_toldWeight_22.1
theorem dX6_toldWeight_23 : decode cX6_toldWeight 23 = .ok (.getfield 15, 3) := bX6_toldWeight_22.2.1
theorem dX6_toldWeight_26 : decode cX6_toldWeight 26 = .ok (.iload_n 3, 1) := bX6_toldWeight_22.2.2.1
theorem dX6_toldWeight_27 : decode cX6_toldWeight 27 = .ok (.iaload, 1) := bX6_toldWeight_22.2.2.2.1
theorem dX6_toldWeight_28 : decode cX6_toldWeight 28 = .ok (.iadd, 1) := bX6_toldWeight_22.2.2.2.2.1
theorem dX6_toldWeight_29 : decode cX6_toldWeight 29 = .ok (.istore_n 2, 1) := bX6_toldWeight_22.2.2.2.2.2.1
theorem dX6_toldWeight_30 : decode cX6_toldWeight 30 = .ok (.iinc 3 1, 3) := bX6_toldWeight_22.2.2.2.2.2.2.1
theorem dX6_toldWeight_33 : decode cX6_toldWeight 33 = .ok (.goto (-29), 3) := bX6_toldWeight_22.2.2.2.2.2.2.2.1
theorem dX6_toldWeight_36 : decode cX6_toldWeight 36 = .ok (.iload_n 2, 1) := bX6_toldWeight_22.2.2.2.2.2.2.2.2.1
theorem dX6_toldWeight_37 : decode cX6_toldWeight 37 = .ok (.ireturn, 1) := bX6_toldWeight_22.2.2.2.2.2.2.2.2.2
theorem bX6_liftByTwo_0 : (decode cX6_liftByTwo 0 = .ok (.aload_n 0, 1)) ∧ (decode cX6_liftByTwo 1 = .ok (.getfield 27, 3)) ∧ (decode cX6_liftByTwo 4 = .ok (.iload_n 2, 1)) ∧ (decode cX6_liftByTwo 5 = .ok (.invokevirtual 83, 3)) ∧ (decode cX6_liftByTwo 8 = .ok (.ifCond .eq 14, 3)) ∧ (decode cX6_liftByTwo 11 = .ok (.aload_n 0, 1)) ∧ (decode cX6_liftByTwo 12 = .ok (.getfield 27, 3)) ∧ (decode cX6_liftByTwo 15 = .ok (.iload_n 3, 1)) ∧ (decode cX6_liftByTwo 16 = .ok (.invokevirtual 83, 3)) ∧ (decode cX6_liftByTwo 19 = .ok (.ifCond .ne 5, 3)) ∧ (decode cX6_liftByTwo 22 = .ok (.iconst 0, 1)) ∧ (decode cX6_liftByTwo 23 = .ok (.ireturn, 1)) ∧ (decode cX6_liftByTwo 24 = .ok (.aload_n 0, 1)) ∧ (decode cX6_liftByTwo 25 = .ok (.iload_n 1, 1)) ∧ (decode cX6_liftByTwo 26 = .ok (.iconst 0, 1)) ∧ (decode cX6_liftByTwo 27 = .ok (.invokevirtual 106, 3)) := by decide +kernel
theorem dX6_liftByTwo_0 : decode cX6_liftByTwo 0 = .ok (.aload_n 0, 1) := bX6_liftByTwo_0.1
theorem dX6_liftByTwo_1 : decode cX6_liftByTwo 1 = .ok (.getfield 27, 3) := bX6_liftByTwo_0.2.1
theorem dX6_liftByTwo_4 : decode cX6_liftByTwo 4 = .ok (.iload_n 2, 1) := bX6_liftByTwo_0.2.2.1
theorem dX6_liftByTwo_5 : decode cX6_liftByTwo 5 = .ok (.invokevirtual 83, 3) := bX6_liftByTwo_0.2.2.2.1
theorem dX6_liftByTwo_8 : decode cX6_liftByTwo 8 = .ok (.ifCond .eq 14, 3) := bX6_liftByTwo_0.2.2.2.2.1
theorem dX6_liftByTwo_11 : decode cX6_liftByTwo 11 = .ok (.aload_n 0, 1) := bX6_liftByTwo_0.2.2.2.2.2.1
theorem dX6_liftByTwo_12 : decode cX6_liftByTwo 12 = .ok (.getfield 27, 3) := bX6_liftByTwo_0.2.2.2.2.2.2.1
theorem dX6_liftByTwo_15 : decode cX6_liftByTwo 15 = .ok (.iload_n 3, 1) := bX6_liftByTwo_0.2.2.2.2.2.2.2.1
theorem dX6_liftByTwo_16 : decode cX6_liftByTwo 16 = .ok (.invokevirtual 83, 3) := bX6_liftByTwo_0.2.2.2.2.2.2.2.2.1
theorem dX6_liftByTwo_19 : decode cX6_liftByTwo 19 = .ok (.ifCond .ne 5, 3) := bX6_liftByTwo_0.2.2.2.2.2.2.2.2.2.1
theorem dX6_liftByTwo_22 : decode cX6_liftByTwo 22 = .ok (.iconst 0, 1) := bX6_liftByTwo_0.2.2.2.2.2.2.2.2.2.2.1
theorem dX6_liftByTwo_23 : decode cX6_liftByTwo 23 = .ok (.ireturn, 1) := bX6_liftByTwo_0.2.2.2.2.2.2.2.2.2.2.2.1
theorem dX6_liftByTwo_24 : decode cX6_liftByTwo 24 = .ok (.aload_n 0, 1) := bX6_liftByTwo_0.2.2.2.2.2.2.2.2.2.2.2.2.1
theorem dX6_liftByTwo_25 : decode cX6_liftByTwo 25 = .ok (.iload_n 1, 1) := bX6_liftByTwo_0.2.2.2.2.2.2.2.2.2.2.2.2.2.1
theorem dX6_liftByTwo_26 : decode cX6_liftByTwo 26 = .ok (.iconst 0, 1) := bX6_liftByTwo_0.2.2.2.2.2.2.2.2.2.2.2.2.2.2.1
theorem dX6_liftByTwo_27 : decode cX6_liftByTwo 27 = .ok (.invokevirtual 106, 3) := bX6_liftByTwo_0.2.2.2.2.2.2.2.2.2.2.2.2.2.2.2
theorem bX6_liftByTwo_30 : (decode cX6_liftByTwo 30 = .ok (.istore 4, 2)) ∧ (decode cX6_liftByTwo 32 = .ok (.aload_n 0, 1)) ∧ (decode cX6_liftByTwo 33 = .ok (.iload_n 2, 1)) ∧ (decode cX6_liftByTwo 34 = .ok (.iconst 0, 1)) ∧ (decode cX6_liftByTwo 35 = .ok (.invokevirtual 109, 3)) ∧ (decode cX6_liftByTwo 38 = .ok (.istore 5, 2)) ∧ (decode cX6_liftByTwo 40 = .ok (.aload_n 0, 1)) ∧ (decode cX6_liftByTwo 41 = .ok (.iload_n 3, 1)) ∧ (decode cX6_liftByTwo 42 = .ok (.iconst 0, 1)) ∧ (decode cX6_liftByTwo 43 = .ok (.invokevirtual 109, 3)) ∧ (decode cX6_liftByTwo 46 = .ok (.istore 6, 2)) ∧ (decode cX6_liftByTwo 48 = .ok (.iload 5, 2)) ∧ (decode cX6_liftByTwo 50 = .ok (.iload 4, 2)) ∧ (decode cX6_liftByTwo 52 = .ok (.if_icmp .ge 24, 3)) ∧ (decode cX6_liftByTwo 55 = .ok (.iload 6, 2)) ∧ (decode cX6_liftByTwo 57 = .ok (.iload 4, 2)) := by decide +kernel
theorem dX6_liftByTwo_30 : decode cX6_liftByTwo 30 = .ok (.istore 4, 2) := bX6_liftByTwo_30.1
theorem dX6_liftByTwo_32 : decode cX6_liftByTwo 32 = .ok (.aload_n 0, 1) := bX6_liftByTwo_30.2.1
theorem dX6_liftByTwo_33 : decode cX6_liftByTwo 33 = .ok (.iload_n 2, 1) := bX6_liftByTwo_30.2.2.1
theorem dX6_liftByTwo_34 : decode cX6_liftByTwo 34 = .ok (.iconst 0, 1) := bX6_liftByTwo_30.2.2.2.1
theorem dX6_liftByTwo_35 : decode cX6_liftByTwo 35 = .ok (.invokevirtual 109, 3) := bX6_liftByTwo_30.2.2.2.2.1
theorem dX6_liftByTwo_38 : decode cX6_liftByTwo 38 = .ok (.istore 5, 2) := bX6_liftByTwo_30.2.2.2.2.2.1
theorem dX6_liftByTwo_40 : decode cX6_liftByTwo 40 = .ok (.aload_n 0, 1) := bX6_liftByTwo_30.2.2.2.2.2.2.1
theorem dX6_liftByTwo_41 : decode cX6_liftByTwo 41 = .ok (.iload_n 3, 1) := bX6_liftByTwo_30.2.2.2.2.2.2.2.1
theorem dX6_liftByTwo_42 : decode cX6_liftByTwo 42 = .ok (.iconst 0, 1) := bX6_liftByTwo_30.2.2.2.2.2.2.2.2.1
theorem dX6_liftByTwo_43 : decode cX6_liftByTwo 43 = .ok (.invokevirtual 109, 3) := bX6_liftByTwo_30.2.2.2.2.2.2.2.2.2.1
theorem dX6_liftByTwo_46 : decode cX6_liftByTwo 46 = .ok (.istore 6, 2) := bX6_liftByTwo_30.2.2.2.2.2.2.2.2.2.2.1
theorem dX6_liftByTwo_48 : decode cX6_liftByTwo 48 = .ok (.iload 5, 2) := bX6_liftByTwo_30.2.2.2.2.2.2.2.2.2.2.2.1
theorem dX6_liftByTwo_50 : decode cX6_liftByTwo 50 = .ok (.iload 4, 2) := bX6_liftByTwo_30.2.2.2.2.2.2.2.2.2.2.2.2.1
theorem dX6_liftByTwo_52 : decode cX6_liftByTwo 52 = .ok (.if_icmp .ge 24, 3) := bX6_liftByTwo_30.2.2.2.2.2.2.2.2.2.2.2.2.2.1
theorem dX6_liftByTwo_55 : decode cX6_liftByTwo 55 = .ok (.iload 6, 2) := bX6_liftByTwo_30.2.2.2.2.2.2.2.2.2.2.2.2.2.2.1
theorem dX6_liftByTwo_57 : decode cX6_liftByTwo 57 = .ok (.iload 4, 2) := bX6_liftByTwo_30.2.2.2.2.2.2.2.2.2.2.2.2.2.2.2
theorem bX6_liftByTwo_59 : (decode cX6_liftByTwo 59 = .ok (.if_icmp .ge 17, 3)) ∧ (decode cX6_liftByTwo 62 = .ok (.iload 5, 2)) ∧ (decode cX6_liftByTwo 64 = .ok (.iload 6, 2)) ∧ (decode cX6_liftByTwo 66 = .ok (.iadd, 1)) ∧ (decode cX6_liftByTwo 67 = .ok (.iload 4, 2)) ∧ (decode cX6_liftByTwo 69 = .ok (.if_icmp .lt 7, 3)) ∧ (decode cX6_liftByTwo 72 = .ok (.iconst 1, 1)) ∧ (decode cX6_liftByTwo 73 = .ok (.goto 4, 3)) ∧ (decode cX6_liftByTwo 76 = .ok (.iconst 0, 1)) ∧ (decode cX6_liftByTwo 77 = .ok (.ireturn, 1)) := by decide +kernel
theorem dX6_liftByTwo_59 : decode cX6_liftByTwo 59 = .ok (.if_icmp .ge 17, 3) := bX6_liftByTwo_59.1
theorem dX6_liftByTwo_62 : decode cX6_liftByTwo 62 = .ok (.iload 5, 2) := bX6_liftByTwo_59.2.1
theorem dX6_liftByTwo_64 : decode cX6_liftByTwo 64 = .ok (.iload 6, 2) := bX6_liftByTwo_59.2.2.1
theorem dX6_liftByTwo_66 : decode cX6_liftByTwo 66 = .ok (.iadd, 1) := bX6_liftByTwo_59.2.2.2.1
theorem dX6_liftByTwo_67 : decode cX6_liftByTwo 67 = .ok (.iload 4, 2) := bX6_liftByTwo_59.2.2.2.2.1
theorem dX6_liftByTwo_69 : decode cX6_liftByTwo 69 = .ok (.if_icmp .lt 7, 3) := bX6_liftByTwo_59.2.2.2.2.2.1
theorem dX6_liftByTwo_72 : decode cX6_liftByTwo 72 = .ok (.iconst 1, 1) := bX6_liftByTwo_59.2.2.2.2.2.2.1
theorem dX6_liftByTwo_73 : decode cX6_liftByTwo 73 = .ok (.goto 4, 3) := bX6_liftByTwo_59.2.2.2.2.2.2.2.1
theorem dX6_liftByTwo_76 : decode cX6_liftByTwo 76 = .ok (.iconst 0, 1) := bX6_liftByTwo_59.2.2.2.2.2.2.2.2.1
theorem dX6_liftByTwo_77 : decode cX6_liftByTwo 77 = .ok (.ireturn, 1) := bX6_liftByTwo_59.2.2.2.2.2.2.2.2.2
theorem bX6_isHeldIn_0 : (decode cX6_isHeldIn 0 = .ok (.aload_n 1, 1)) ∧ (decode cX6_isHeldIn 1 = .ok (.getfield 80, 3)) ∧ (decode cX6_isHeldIn 4 = .ok (.iload_n 2, 1)) ∧ (decode cX6_isHeldIn 5 = .ok (.iaload, 1)) ∧ (decode cX6_isHeldIn 6 = .ok (.istore_n 3, 1)) ∧ (decode cX6_isHeldIn 7 = .ok (.aload_n 0, 1)) ∧ (decode cX6_isHeldIn 8 = .ok (.iload_n 3, 1)) ∧ (decode cX6_isHeldIn 9 = .ok (.invokevirtual 115, 3)) ∧ (decode cX6_isHeldIn 12 = .ok (.ifCond .eq 50, 3)) ∧ (decode cX6_isHeldIn 15 = .ok (.aload_n 0, 1)) ∧ (decode cX6_isHeldIn 16 = .ok (.getfield 9, 3)) ∧ (decode cX6_isHeldIn 19 = .ok (.iload_n 3, 1)) ∧ (decode cX6_isHeldIn 20 = .ok (.iaload, 1)) ∧ (decode cX6_isHeldIn 21 = .ok (.aload_n 0, 1)) ∧ (decode cX6_isHeldIn 22 = .ok (.getfield 15, 3)) ∧ (decode cX6_isHeldIn 25 = .ok (.iload_n 3, 1)) := by decide +kernel
theorem dX6_isHeldIn_0 : decode cX6_isHeldIn 0 = .ok (.aload_n 1, 1) := bX6_isHeldIn_0.1
theorem dX6_isHeldIn_1 : decode cX6_isHeldIn 1 = .ok (.getfield 80, 3) := bX6_isHeldIn_0.2.1
theorem dX6_isHeldIn_4 : decode cX6_isHeldIn 4 = .ok (.iload_n 2, 1) := bX6_isHeldIn_0.2.2.1
theorem dX6_isHeldIn_5 : decode cX6_isHeldIn 5 = .ok (.iaload, 1) := bX6_isHeldIn_0.2.2.2.1
theorem dX6_isHeldIn_6 : decode cX6_isHeldIn 6 = .ok (.istore_n 3, 1) := bX6_isHeldIn_0.2.2.2.2.1
theorem dX6_isHeldIn_7 : decode cX6_isHeldIn 7 = .ok (.aload_n 0, 1) := bX6_isHeldIn_0.2.2.2.2.2.1
theorem dX6_isHeldIn_8 : decode cX6_isHeldIn 8 = .ok (.iload_n 3, 1) := bX6_isHeldIn_0.2.2.2.2.2.2.1
theorem dX6_isHeldIn_9 : decode cX6_isHeldIn 9 = .ok (.invokevirtual 115, 3) := bX6_isHeldIn_0.2.2.2.2.2.2.2.1
theorem dX6_isHeldIn_12 : decode cX6_isHeldIn 12 = .ok (.ifCond .eq 50, 3) := bX6_isHeldIn_0.2.2.2.2.2.2.2.2.1
theorem dX6_isHeldIn_15 : decode cX6_isHeldIn 15 = .ok (.aload_n 0, 1) := bX6_isHeldIn_0.2.2.2.2.2.2.2.2.2.1
theorem dX6_isHeldIn_16 : decode cX6_isHeldIn 16 = .ok (.getfield 9, 3) := bX6_isHeldIn_0.2.2.2.2.2.2.2.2.2.2.1
theorem dX6_isHeldIn_19 : decode cX6_isHeldIn 19 = .ok (.iload_n 3, 1) := bX6_isHeldIn_0.2.2.2.2.2.2.2.2.2.2.2.1
theorem dX6_isHeldIn_20 : decode cX6_isHeldIn 20 = .ok (.iaload, 1) := bX6_isHeldIn_0.2.2.2.2.2.2.2.2.2.2.2.2.1
theorem dX6_isHeldIn_21 : decode cX6_isHeldIn 21 = .ok (.aload_n 0, 1) := bX6_isHeldIn_0.2.2.2.2.2.2.2.2.2.2.2.2.2.1
theorem dX6_isHeldIn_22 : decode cX6_isHeldIn 22 = .ok (.getfield 15, 3) := bX6_isHeldIn_0.2.2.2.2.2.2.2.2.2.2.2.2.2.2.1
theorem dX6_isHeldIn_25 : decode cX6_isHeldIn 25 = .ok (.iload_n 3, 1) := bX6_isHeldIn_0.2.2.2.2.2.2.2.2.2.2.2.2.2.2.2
theorem bX6_isHeldIn_26 : (decode cX6_isHeldIn 26 = .ok (.iaload, 1)) ∧ (decode cX6_isHeldIn 27 = .ok (.aload_n 1, 1)) ∧ (decode cX6_isHeldIn 28 = .ok (.getfield 60, 3)) ∧ (decode cX6_isHeldIn 31 = .ok (.invokestatic 91, 3)) ∧ (decode cX6_isHeldIn 34 = .ok (.aload_n 0, 1)) ∧ (decode cX6_isHeldIn 35 = .ok (.getfield 18, 3)) ∧ (decode cX6_isHeldIn 38 = .ok (.iload_n 2, 1)) ∧ (decode cX6_isHeldIn 39 = .ok (.iaload, 1)) ∧ (decode cX6_isHeldIn 40 = .ok (.aload_n 0, 1)) ∧ (decode cX6_isHeldIn 41 = .ok (.getfield 21, 3)) ∧ (decode cX6_isHeldIn 44 = .ok (.iload_n 2, 1)) ∧ (decode cX6_isHeldIn 45 = .ok (.iaload, 1)) ∧ (decode cX6_isHeldIn 46 = .ok (.aload_n 1, 1)) ∧ (decode cX6_isHeldIn 47 = .ok (.getfield 77, 3)) ∧ (decode cX6_isHeldIn 50 = .ok (.iload_n 2, 1)) ∧ (decode cX6_isHeldIn 51 = .ok (.iaload, 1)) := by decide +kernel
theorem dX6_isHeldIn_26 : decode cX6_isHeldIn 26 = .ok (.iaload, 1) := bX6_isHeldIn_26.1
theorem dX6_isHeldIn_27 : decode cX6_isHeldIn 27 = .ok (.aload_n 1, 1) := bX6_isHeldIn_26.2.1
theorem dX6_isHeldIn_28 : decode cX6_isHeldIn 28 = .ok (.getfield 60, 3) := bX6_isHeldIn_26.2.2.1
theorem dX6_isHeldIn_31 : decode cX6_isHeldIn 31 = .ok (.invokestatic 91, 3) := bX6_isHeldIn_26.2.2.2.1
theorem dX6_isHeldIn_34 : decode cX6_isHeldIn 34 = .ok (.aload_n 0, 1) := bX6_isHeldIn_26.2.2.2.2.1
theorem dX6_isHeldIn_35 : decode cX6_isHeldIn 35 = .ok (.getfield 18, 3) := bX6_isHeldIn_26.2.2.2.2.2.1
theorem dX6_isHeldIn_38 : decode cX6_isHeldIn 38 = .ok (.iload_n 2, 1) := bX6_isHeldIn_26.2.2.2.2.2.2.1
theorem dX6_isHeldIn_39 : decode cX6_isHeldIn 39 = .ok (.iaload, 1) := bX6_isHeldIn_26.2.2.2.2.2.2.2.1
theorem dX6_isHeldIn_40 : decode cX6_isHeldIn 40 = .ok (.aload_n 0, 1) := bX6_isHeldIn_26.2.2.2.2.2.2.2.2.1
theorem dX6_isHeldIn_41 : decode cX6_isHeldIn 41 = .ok (.getfield 21, 3) := bX6_isHeldIn_26.2.2.2.2.2.2.2.2.2.1
theorem dX6_isHeldIn_44 : decode cX6_isHeldIn 44 = .ok (.iload_n 2, 1) := bX6_isHeldIn_26.2.2.2.2.2.2.2.2.2.2.1
theorem dX6_isHeldIn_45 : decode cX6_isHeldIn 45 = .ok (.iaload, 1) := bX6_isHeldIn_26.2.2.2.2.2.2.2.2.2.2.2.1
theorem dX6_isHeldIn_46 : decode cX6_isHeldIn 46 = .ok (.aload_n 1, 1) := bX6_isHeldIn_26.2.2.2.2.2.2.2.2.2.2.2.2.1
theorem dX6_isHeldIn_47 : decode cX6_isHeldIn 47 = .ok (.getfield 77, 3) := bX6_isHeldIn_26.2.2.2.2.2.2.2.2.2.2.2.2.2.1
theorem dX6_isHeldIn_50 : decode cX6_isHeldIn 50 = .ok (.iload_n 2, 1) := bX6_isHeldIn_26.2.2.2.2.2.2.2.2.2.2.2.2.2.2.1
theorem dX6_isHeldIn_51 : decode cX6_isHeldIn 51 = .ok (.iaload, 1) := bX6_isHeldIn_26.2.2.2.2.2.2.2.2.2.2.2.2.2.2.2
theorem bX6_isHeldIn_52 : (decode cX6_isHeldIn 52 = .ok (.invokestatic 103, 3)) ∧ (decode cX6_isHeldIn 55 = .ok (.if_icmp .le 7, 3)) ∧ (decode cX6_isHeldIn 58 = .ok (.iconst 1, 1)) ∧ (decode cX6_isHeldIn 59 = .ok (.goto 4, 3)) ∧ (decode cX6_isHeldIn 62 = .ok (.iconst 0, 1)) ∧ (decode cX6_isHeldIn 63 = .ok (.ireturn, 1)) := by decide +kernel
theorem dX6_isHeldIn_52 : decode cX6_isHeldIn 52 = .ok (.invokestatic 103, 3) := bX6_isHeldIn_52.1
theorem dX6_isHeldIn_55 : decode cX6_isHeldIn 55 = .ok (.if_icmp .le 7, 3) := bX6_isHeldIn_52.2.1
theorem dX6_isHeldIn_58 : decode cX6_isHeldIn 58 = .ok (.iconst 1, 1) := bX6_isHeldIn_52.2.2.1
theorem dX6_isHeldIn_59 : decode cX6_isHeldIn 59 = .ok (.goto 4, 3) := bX6_isHeldIn_52.2.2.2.1
theorem dX6_isHeldIn_62 : decode cX6_isHeldIn 62 = .ok (.iconst 0, 1) := bX6_isHeldIn_52.2.2.2.2.1
theorem dX6_isHeldIn_63 : decode cX6_isHeldIn 63 = .ok (.ireturn, 1) := bX6_isHeldIn_52.2.2.2.2.2
theorem bX6_passYears_0 : (decode cX6_passYears 0 = .ok (.iconst 0, 1)) ∧ (decode cX6_passYears 1 = .ok (.istore 4, 2)) ∧ (decode cX6_passYears 3 = .ok (.iload 4, 2)) ∧ (decode cX6_passYears 5 = .ok (.iload_n 2, 1)) ∧ (decode cX6_passYears 6 = .ok (.if_icmp .ge 82, 3)) ∧ (decode cX6_passYears 9 = .ok (.aload_n 1, 1)) ∧ (decode cX6_passYears 10 = .ok (.getfield 60, 3)) ∧ (decode cX6_passYears 13 = .ok (.iload_n 3, 1)) ∧ (decode cX6_passYears 14 = .ok (.if_icmp .ge 74, 3)) ∧ (decode cX6_passYears 17 = .ok (.iconst 0, 1)) ∧ (decode cX6_passYears 18 = .ok (.istore 5, 2)) ∧ (decode cX6_passYears 20 = .ok (.iload 5, 2)) ∧ (decode cX6_passYears 22 = .ok (.aload_n 0, 1)) ∧ (decode cX6_passYears 23 = .ok (.getfield 54, 3)) ∧ (decode cX6_passYears 26 = .ok (.if_icmp .ge 46, 3)) ∧ (decode cX6_passYears 29 = .ok (.aload_n 1, 1)) := by decide +kernel
theorem dX6_passYears_0 : decode cX6_passYears 0 = .ok (.iconst 0, 1) := bX6_passYears_0.1
theorem dX6_passYears_1 : decode cX6_passYears 1 = .ok (.istore 4, 2) := bX6_passYears_0.2.1
theorem dX6_passYears_3 : decode cX6_passYears 3 = .ok (.iload 4, 2) := bX6_passYears_0.2.2.1
theorem dX6_passYears_5 : decode cX6_passYears 5 = .ok (.iload_n 2, 1) := bX6_passYears_0.2.2.2.1
theorem dX6_passYears_6 : decode cX6_passYears 6 = .ok (.if_icmp .ge 82, 3) := bX6_passYears_0.2.2.2.2.1
theorem dX6_passYears_9 : decode cX6_passYears 9 = .ok (.aload_n 1, 1) := bX6_passYears_0.2.2.2.2.2.1
theorem dX6_passYears_10 : decode cX6_passYears 10 = .ok (.getfield 60, 3) := bX6_passYears_0.2.2.2.2.2.2.1
theorem dX6_passYears_13 : decode cX6_passYears 13 = .ok (.iload_n 3, 1) := bX6_passYears_0.2.2.2.2.2.2.2.1
theorem dX6_passYears_14 : decode cX6_passYears 14 = .ok (.if_icmp .ge 74, 3) := bX6_passYears_0.2.2.2.2.2.2.2.2.1
theorem dX6_passYears_17 : decode cX6_passYears 17 = .ok (.iconst 0, 1) := bX6_passYears_0.2.2.2.2.2.2.2.2.2.1
theorem dX6_passYears_18 : decode cX6_passYears 18 = .ok (.istore 5, 2) := bX6_passYears_0.2.2.2.2.2.2.2.2.2.2.1
theorem dX6_passYears_20 : decode cX6_passYears 20 = .ok (.iload 5, 2) := bX6_passYears_0.2.2.2.2.2.2.2.2.2.2.2.1
theorem dX6_passYears_22 : decode cX6_passYears 22 = .ok (.aload_n 0, 1) := bX6_passYears_0.2.2.2.2.2.2.2.2.2.2.2.2.1
theorem dX6_passYears_23 : decode cX6_passYears 23 = .ok (.getfield 54, 3) := bX6_passYears_0.2.2.2.2.2.2.2.2.2.2.2.2.2.1
theorem dX6_passYears_26 : decode cX6_passYears 26 = .ok (.if_icmp .ge 46, 3) := bX6_passYears_0.2.2.2.2.2.2.2.2.2.2.2.2.2.2.1
theorem dX6_passYears_29 : decode cX6_passYears 29 = .ok (.aload_n 1, 1) := bX6_passYears_0.2.2.2.2.2.2.2.2.2.2.2.2.2.2.2
theorem bX6_passYears_30 : (decode cX6_passYears 30 = .ok (.iload 5, 2)) ∧ (decode cX6_passYears 32 = .ok (.invokevirtual 83, 3)) ∧ (decode cX6_passYears 35 = .ok (.ifCond .ne 6, 3)) ∧ (decode cX6_passYears 38 = .ok (.goto 28, 3)) ∧ (decode cX6_passYears 41 = .ok (.aload_n 0, 1)) ∧ (decode cX6_passYears 42 = .ok (.aload_n 1, 1)) ∧ (decode cX6_passYears 43 = .ok (.iload 5, 2)) ∧ (decode cX6_passYears 45 = .ok (.invokevirtual 118, 3)) ∧ (decode cX6_passYears 48 = .ok (.ifCond .eq 12, 3)) ∧ (decode cX6_passYears 51 = .ok (.aload_n 1, 1)) ∧ (decode cX6_passYears 52 = .ok (.iload 5, 2)) ∧ (decode cX6_passYears 54 = .ok (.invokevirtual 122, 3)) ∧ (decode cX6_passYears 57 = .ok (.goto 9, 3)) ∧ (decode cX6_passYears 60 = .ok (.aload_n 1, 1)) ∧ (decode cX6_passYears 61 = .ok (.iload 5, 2)) ∧ (decode cX6_passYears 63 = .ok (.invokevirtual 125, 3)) := by decide +kernel
theorem dX6_passYears_30 : decode cX6_passYears 30 = .ok (.iload 5, 2) := bX6_passYears_30.1
theorem dX6_passYears_32 : decode cX6_passYears 32 = .ok (.invokevirtual 83, 3) := bX6_passYears_30.2.1
theorem dX6_passYears_35 : decode cX6_passYears 35 = .ok (.ifCond .ne 6, 3) := bX6_passYears_30.2.2.1
theorem dX6_passYears_38 : decode cX6_passYears 38 = .ok (.goto 28, 3) := bX6_passYears_30.2.2.2.1
theorem dX6_passYears_41 : decode cX6_passYears 41 = .ok (.aload_n 0, 1) := bX6_passYears_30.2.2.2.2.1
theorem dX6_passYears_42 : decode cX6_passYears 42 = .ok (.aload_n 1, 1) := bX6_passYears_30.2.2.2.2.2.1
theorem dX6_passYears_43 : decode cX6_passYears 43 = .ok (.iload 5, 2) := bX6_passYears_30.2.2.2.2.2.2.1
theorem dX6_passYears_45 : decode cX6_passYears 45 = .ok (.invokevirtual 118, 3) := bX6_passYears_30.2.2.2.2.2.2.2.1
theorem dX6_passYears_48 : decode cX6_passYears 48 = .ok (.ifCond .eq 12, 3) := bX6_passYears_30.2.2.2.2.2.2.2.2.1
theorem dX6_passYears_51 : decode cX6_passYears 51 = .ok (.aload_n 1, 1) := bX6_passYears_30.2.2.2.2.2.2.2.2.2.1
theorem dX6_passYears_52 : decode cX6_passYears 52 = .ok (.iload 5, 2) := bX6_passYears_30.2.2.2.2.2.2.2.2.2.2.1
theorem dX6_passYears_54 : decode cX6_passYears 54 = .ok (.invokevirtual 122, 3) := bX6_passYears_30.2.2.2.2.2.2.2.2.2.2.2.1
theorem dX6_passYears_57 : decode cX6_passYears 57 = .ok (.goto 9, 3) := bX6_passYears_30.2.2.2.2.2.2.2.2.2.2.2.2.1
theorem dX6_passYears_60 : decode cX6_passYears 60 = .ok (.aload_n 1, 1) := bX6_passYears_30.2.2.2.2.2.2.2.2.2.2.2.2.2.1
theorem dX6_passYears_61 : decode cX6_passYears 61 = .ok (.iload 5, 2) := bX6_passYears_30.2.2.2.2.2.2.2.2.2.2.2.2.2.2.1
theorem dX6_passYears_63 : decode cX6_passYears 63 = .ok (.invokevirtual 125, 3) := bX6_passYears_30.2.2.2.2.2.2.2.2.2.2.2.2.2.2.2
theorem bX6_passYears_66 : (decode cX6_passYears 66 = .ok (.iinc 5 1, 3)) ∧ (decode cX6_passYears 69 = .ok (.goto (-49), 3)) ∧ (decode cX6_passYears 72 = .ok (.aload_n 1, 1)) ∧ (decode cX6_passYears 73 = .ok (.dup, 1)) ∧ (decode cX6_passYears 74 = .ok (.getfield 60, 3)) ∧ (decode cX6_passYears 77 = .ok (.iconst 1, 1)) ∧ (decode cX6_passYears 78 = .ok (.iadd, 1)) ∧ (decode cX6_passYears 79 = .ok (.putfield 60, 3)) ∧ (decode cX6_passYears 82 = .ok (.iinc 4 1, 3)) ∧ (decode cX6_passYears 85 = .ok (.goto (-82), 3)) ∧ (decode cX6_passYears 88 = .ok (.return_, 1)) := by decide +kernel
theorem dX6_passYears_66 : decode cX6_passYears 66 = .ok (.iinc 5 1, 3) := bX6_passYears_66.1
theorem dX6_passYears_69 : decode cX6_passYears 69 = .ok (.goto (-49), 3) := bX6_passYears_66.2.1
theorem dX6_passYears_72 : decode cX6_passYears 72 = .ok (.aload_n 1, 1) := bX6_passYears_66.2.2.1
theorem dX6_passYears_73 : decode cX6_passYears 73 = .ok (.dup, 1) := bX6_passYears_66.2.2.2.1
theorem dX6_passYears_74 : decode cX6_passYears 74 = .ok (.getfield 60, 3) := bX6_passYears_66.2.2.2.2.1
theorem dX6_passYears_77 : decode cX6_passYears 77 = .ok (.iconst 1, 1) := bX6_passYears_66.2.2.2.2.2.1
theorem dX6_passYears_78 : decode cX6_passYears 78 = .ok (.iadd, 1) := bX6_passYears_66.2.2.2.2.2.2.1
theorem dX6_passYears_79 : decode cX6_passYears 79 = .ok (.putfield 60, 3) := bX6_passYears_66.2.2.2.2.2.2.2.1
theorem dX6_passYears_82 : decode cX6_passYears 82 = .ok (.iinc 4 1, 3) := bX6_passYears_66.2.2.2.2.2.2.2.2.1
theorem dX6_passYears_85 : decode cX6_passYears 85 = .ok (.goto (-82), 3) := bX6_passYears_66.2.2.2.2.2.2.2.2.2.1
theorem dX6_passYears_88 : decode cX6_passYears 88 = .ok (.return_, 1) := bX6_passYears_66.2.2.2.2.2.2.2.2.2.2
theorem bX6_giveIfFree_0 : (decode cX6_giveIfFree 0 = .ok (.aload_n 0, 1)) ∧ (decode cX6_giveIfFree 1 = .ok (.iload_n 2, 1)) ∧ (decode cX6_giveIfFree 2 = .ok (.invokevirtual 128, 3)) ∧ (decode cX6_giveIfFree 5 = .ok (.ifCond .eq 46, 3)) ∧ (decode cX6_giveIfFree 8 = .ok (.aload_n 1, 1)) ∧ (decode cX6_giveIfFree 9 = .ok (.iload_n 2, 1)) ∧ (decode cX6_giveIfFree 10 = .ok (.invokevirtual 83, 3)) ∧ (decode cX6_giveIfFree 13 = .ok (.ifCond .eq 38, 3)) ∧ (decode cX6_giveIfFree 16 = .ok (.aload_n 1, 1)) ∧ (decode cX6_giveIfFree 17 = .ok (.getfield 80, 3)) ∧ (decode cX6_giveIfFree 20 = .ok (.iload_n 2, 1)) ∧ (decode cX6_giveIfFree 21 = .ok (.iaload, 1)) ∧ (decode cX6_giveIfFree 22 = .ok (.iconst (-1), 1)) ∧ (decode cX6_giveIfFree 23 = .ok (.if_icmp .ne 28, 3)) ∧ (decode cX6_giveIfFree 26 = .ok (.aload_n 0, 1)) ∧ (decode cX6_giveIfFree 27 = .ok (.iload_n 3, 1)) := by decide +kernel
theorem dX6_giveIfFree_0 : decode cX6_giveIfFree 0 = .ok (.aload_n 0, 1) := bX6_giveIfFree_0.1
theorem dX6_giveIfFree_1 : decode cX6_giveIfFree 1 = .ok (.iload_n 2, 1) := bX6_giveIfFree_0.2.1
theorem dX6_giveIfFree_2 : decode cX6_giveIfFree 2 = .ok (.invokevirtual 128, 3) := bX6_giveIfFree_0.2.2.1
theorem dX6_giveIfFree_5 : decode cX6_giveIfFree 5 = .ok (.ifCond .eq 46, 3) := bX6_giveIfFree_0.2.2.2.1
theorem dX6_giveIfFree_8 : decode cX6_giveIfFree 8 = .ok (.aload_n 1, 1) := bX6_giveIfFree_0.2.2.2.2.1
theorem dX6_giveIfFree_9 : decode cX6_giveIfFree 9 = .ok (.iload_n 2, 1) := bX6_giveIfFree_0.2.2.2.2.2.1
theorem dX6_giveIfFree_10 : decode cX6_giveIfFree 10 = .ok (.invokevirtual 83, 3) := bX6_giveIfFree_0.2.2.2.2.2.2.1
theorem dX6_giveIfFree_13 : decode cX6_giveIfFree 13 = .ok (.ifCond .eq 38, 3) := bX6_giveIfFree_0.2.2.2.2.2.2.2.1
theorem dX6_giveIfFree_16 : decode cX6_giveIfFree 16 = .ok (.aload_n 1, 1) := bX6_giveIfFree_0.2.2.2.2.2.2.2.2.1
theorem dX6_giveIfFree_17 : decode cX6_giveIfFree 17 = .ok (.getfield 80, 3) := bX6_giveIfFree_0.2.2.2.2.2.2.2.2.2.1
theorem dX6_giveIfFree_20 : decode cX6_giveIfFree 20 = .ok (.iload_n 2, 1) := bX6_giveIfFree_0.2.2.2.2.2.2.2.2.2.2.1
theorem dX6_giveIfFree_21 : decode cX6_giveIfFree 21 = .ok (.iaload, 1) := bX6_giveIfFree_0.2.2.2.2.2.2.2.2.2.2.2.1
theorem dX6_giveIfFree_22 : decode cX6_giveIfFree 22 = .ok (.iconst (-1), 1) := bX6_giveIfFree_0.2.2.2.2.2.2.2.2.2.2.2.2.1
theorem dX6_giveIfFree_23 : decode cX6_giveIfFree 23 = .ok (.if_icmp .ne 28, 3) := bX6_giveIfFree_0.2.2.2.2.2.2.2.2.2.2.2.2.2.1
theorem dX6_giveIfFree_26 : decode cX6_giveIfFree 26 = .ok (.aload_n 0, 1) := bX6_giveIfFree_0.2.2.2.2.2.2.2.2.2.2.2.2.2.2.1
theorem dX6_giveIfFree_27 : decode cX6_giveIfFree 27 = .ok (.iload_n 3, 1) := bX6_giveIfFree_0.2.2.2.2.2.2.2.2.2.2.2.2.2.2.2
theorem bX6_giveIfFree_28 : (decode cX6_giveIfFree 28 = .ok (.invokevirtual 115, 3)) ∧ (decode cX6_giveIfFree 31 = .ok (.ifCond .eq 20, 3)) ∧ (decode cX6_giveIfFree 34 = .ok (.aload_n 0, 1)) ∧ (decode cX6_giveIfFree 35 = .ok (.aload_n 1, 1)) ∧ (decode cX6_giveIfFree 36 = .ok (.iload_n 3, 1)) ∧ (decode cX6_giveIfFree 37 = .ok (.invokevirtual 87, 3)) ∧ (decode cX6_giveIfFree 40 = .ok (.iconst (-1), 1)) ∧ (decode cX6_giveIfFree 41 = .ok (.if_icmp .ne 10, 3)) ∧ (decode cX6_giveIfFree 44 = .ok (.aload_n 1, 1)) ∧ (decode cX6_giveIfFree 45 = .ok (.getfield 80, 3)) ∧ (decode cX6_giveIfFree 48 = .ok (.iload_n 2, 1)) ∧ (decode cX6_giveIfFree 49 = .ok (.iload_n 3, 1)) ∧ (decode cX6_giveIfFree 50 = .ok (.iastore, 1)) ∧ (decode cX6_giveIfFree 51 = .ok (.return_, 1)) := by decide +kernel
theorem dX6_giveIfFree_28 : decode cX6_giveIfFree 28 = .ok (.invokevirtual 115, 3) := bX6_giveIfFree_28.1
theorem dX6_giveIfFree_31 : decode cX6_giveIfFree 31 = .ok (.ifCond .eq 20, 3) := bX6_giveIfFree_28.2.1
theorem dX6_giveIfFree_34 : decode cX6_giveIfFree 34 = .ok (.aload_n 0, 1) := bX6_giveIfFree_28.2.2.1
theorem dX6_giveIfFree_35 : decode cX6_giveIfFree 35 = .ok (.aload_n 1, 1) := bX6_giveIfFree_28.2.2.2.1
theorem dX6_giveIfFree_36 : decode cX6_giveIfFree 36 = .ok (.iload_n 3, 1) := bX6_giveIfFree_28.2.2.2.2.1
theorem dX6_giveIfFree_37 : decode cX6_giveIfFree 37 = .ok (.invokevirtual 87, 3) := bX6_giveIfFree_28.2.2.2.2.2.1
theorem dX6_giveIfFree_40 : decode cX6_giveIfFree 40 = .ok (.iconst (-1), 1) := bX6_giveIfFree_28.2.2.2.2.2.2.1
theorem dX6_giveIfFree_41 : decode cX6_giveIfFree 41 = .ok (.if_icmp .ne 10, 3) := bX6_giveIfFree_28.2.2.2.2.2.2.2.1
theorem dX6_giveIfFree_44 : decode cX6_giveIfFree 44 = .ok (.aload_n 1, 1) := bX6_giveIfFree_28.2.2.2.2.2.2.2.2.1
theorem dX6_giveIfFree_45 : decode cX6_giveIfFree 45 = .ok (.getfield 80, 3) := bX6_giveIfFree_28.2.2.2.2.2.2.2.2.2.1
theorem dX6_giveIfFree_48 : decode cX6_giveIfFree 48 = .ok (.iload_n 2, 1) := bX6_giveIfFree_28.2.2.2.2.2.2.2.2.2.2.1
theorem dX6_giveIfFree_49 : decode cX6_giveIfFree 49 = .ok (.iload_n 3, 1) := bX6_giveIfFree_28.2.2.2.2.2.2.2.2.2.2.2.1
theorem dX6_giveIfFree_50 : decode cX6_giveIfFree 50 = .ok (.iastore, 1) := bX6_giveIfFree_28.2.2.2.2.2.2.2.2.2.2.2.2.1
theorem dX6_giveIfFree_51 : decode cX6_giveIfFree 51 = .ok (.return_, 1) := bX6_giveIfFree_28.2.2.2.2.2.2.2.2.2.2.2.2.2
theorem bX6_tenthsHeld_0 : (decode cX6_tenthsHeld 0 = .ok (.aload_n 0, 1)) ∧ (decode cX6_tenthsHeld 1 = .ok (.getfield 27, 3)) ∧ (decode cX6_tenthsHeld 4 = .ok (.getfield 80, 3)) ∧ (decode cX6_tenthsHeld 7 = .ok (.iload_n 1, 1)) ∧ (decode cX6_tenthsHeld 8 = .ok (.iaload, 1)) ∧ (decode cX6_tenthsHeld 9 = .ok (.istore 4, 2)) ∧ (decode cX6_tenthsHeld 11 = .ok (.aload_n 0, 1)) ∧ (decode cX6_tenthsHeld 12 = .ok (.iload 4, 2)) ∧ (decode cX6_tenthsHeld 14 = .ok (.invokevirtual 115, 3)) ∧ (decode cX6_tenthsHeld 17 = .ok (.ifCond .ne 5, 3)) ∧ (decode cX6_tenthsHeld 20 = .ok (.iconst 0, 1)) ∧ (decode cX6_tenthsHeld 21 = .ok (.ireturn, 1)) ∧ (decode cX6_tenthsHeld 22 = .ok (.aload_n 0, 1)) ∧ (decode cX6_tenthsHeld 23 = .ok (.iload 4, 2)) ∧ (decode cX6_tenthsHeld 25 = .ok (.iload_n 2, 1)) ∧ (decode cX6_tenthsHeld 26 = .ok (.invokevirtual 106, 3)) := by decide +kernel
theorem dX6_tenthsHeld_0 : decode cX6_tenthsHeld 0 = .ok (.aload_n 0, 1) := bX6_tenthsHeld_0.1
theorem dX6_tenthsHeld_1 : decode cX6_tenthsHeld 1 = .ok (.getfield 27, 3) := bX6_tenthsHeld_0.2.1
theorem dX6_tenthsHeld_4 : decode cX6_tenthsHeld 4 = .ok (.getfield 80, 3) := bX6_tenthsHeld_0.2.2.1
theorem dX6_tenthsHeld_7 : decode cX6_tenthsHeld 7 = .ok (.iload_n 1, 1) := bX6_tenthsHeld_0.2.2.2.1
theorem dX6_tenthsHeld_8 : decode cX6_tenthsHeld 8 = .ok (.iaload, 1) := bX6_tenthsHeld_0.2.2.2.2.1
theorem dX6_tenthsHeld_9 : decode cX6_tenthsHeld 9 = .ok (.istore 4, 2) := bX6_tenthsHeld_0.2.2.2.2.2.1
theorem dX6_tenthsHeld_11 : decode cX6_tenthsHeld 11 = .ok (.aload_n 0, 1) := bX6_tenthsHeld_0.2.2.2.2.2.2.1
theorem dX6_tenthsHeld_12 : decode cX6_tenthsHeld 12 = .ok (.iload 4, 2) := bX6_tenthsHeld_0.2.2.2.2.2.2.2.1
theorem dX6_tenthsHeld_14 : decode cX6_tenthsHeld 14 = .ok (.invokevirtual 115, 3) := bX6_tenthsHeld_0.2.2.2.2.2.2.2.2.1
theorem dX6_tenthsHeld_17 : decode cX6_tenthsHeld 17 = .ok (.ifCond .ne 5, 3) := bX6_tenthsHeld_0.2.2.2.2.2.2.2.2.2.1
theorem dX6_tenthsHeld_20 : decode cX6_tenthsHeld 20 = .ok (.iconst 0, 1) := bX6_tenthsHeld_0.2.2.2.2.2.2.2.2.2.2.1
theorem dX6_tenthsHeld_21 : decode cX6_tenthsHeld 21 = .ok (.ireturn, 1) := bX6_tenthsHeld_0.2.2.2.2.2.2.2.2.2.2.2.1
theorem dX6_tenthsHeld_22 : decode cX6_tenthsHeld 22 = .ok (.aload_n 0, 1) := bX6_tenthsHeld_0.2.2.2.2.2.2.2.2.2.2.2.2.1
theorem dX6_tenthsHeld_23 : decode cX6_tenthsHeld 23 = .ok (.iload 4, 2) := bX6_tenthsHeld_0.2.2.2.2.2.2.2.2.2.2.2.2.2.1
theorem dX6_tenthsHeld_25 : decode cX6_tenthsHeld 25 = .ok (.iload_n 2, 1) := bX6_tenthsHeld_0.2.2.2.2.2.2.2.2.2.2.2.2.2.2.1
theorem dX6_tenthsHeld_26 : decode cX6_tenthsHeld 26 = .ok (.invokevirtual 106, 3) := bX6_tenthsHeld_0.2.2.2.2.2.2.2.2.2.2.2.2.2.2.2
theorem bX6_tenthsHeld_29 : (decode cX6_tenthsHeld 29 = .ok (.istore 5, 2)) ∧ (decode cX6_tenthsHeld 31 = .ok (.aload_n 0, 1)) ∧ (decode cX6_tenthsHeld 32 = .ok (.iload_n 1, 1)) ∧ (decode cX6_tenthsHeld 33 = .ok (.iload_n 2, 1)) ∧ (decode cX6_tenthsHeld 34 = .ok (.invokevirtual 109, 3)) ∧ (decode cX6_tenthsHeld 37 = .ok (.istore 6, 2)) ∧ (decode cX6_tenthsHeld 39 = .ok (.iload 5, 2)) ∧ (decode cX6_tenthsHeld 41 = .ok (.iload 6, 2)) ∧ (decode cX6_tenthsHeld 43 = .ok (.if_icmp .le 10, 3)) ∧ (decode cX6_tenthsHeld 46 = .ok (.bipush 10, 2)) ∧ (decode cX6_tenthsHeld 48 = .ok (.iload_n 3, 1)) ∧ (decode cX6_tenthsHeld 49 = .ok (.isub, 1)) ∧ (decode cX6_tenthsHeld 50 = .ok (.goto 4, 3)) ∧ (decode cX6_tenthsHeld 53 = .ok (.iconst 0, 1)) ∧ (decode cX6_tenthsHeld 54 = .ok (.iload 5, 2)) ∧ (decode cX6_tenthsHeld 56 = .ok (.iload 6, 2)) := by decide +kernel
theorem dX6_tenthsHeld_29 : decode cX6_tenthsHeld 29 = .ok (.istore 5, 2) := bX6_tenthsHeld_29.1
theorem dX6_tenthsHeld_31 : decode cX6_tenthsHeld 31 = .ok (.aload_n 0, 1) := bX6_tenthsHeld_29.2.1
theorem dX6_tenthsHeld_32 : decode cX6_tenthsHeld 32 = .ok (.iload_n 1, 1) := bX6_tenthsHeld_29.2.2.1
theorem dX6_tenthsHeld_33 : decode cX6_tenthsHeld 33 = .ok (.iload_n 2, 1) := bX6_tenthsHeld_29.2.2.2.1
theorem dX6_tenthsHeld_34 : decode cX6_tenthsHeld 34 = .ok (.invokevirtual 109, 3) := bX6_tenthsHeld_29.2.2.2.2.1
theorem dX6_tenthsHeld_37 : decode cX6_tenthsHeld 37 = .ok (.istore 6, 2) := bX6_tenthsHeld_29.2.2.2.2.2.1
theorem dX6_tenthsHeld_39 : decode cX6_tenthsHeld 39 = .ok (.iload 5, 2) := bX6_tenthsHeld_29.2.2.2.2.2.2.1
theorem dX6_tenthsHeld_41 : decode cX6_tenthsHeld 41 = .ok (.iload 6, 2) := bX6_tenthsHeld_29.2.2.2.2.2.2.2.1
theorem dX6_tenthsHeld_43 : decode cX6_tenthsHeld 43 = .ok (.if_icmp .le 10, 3) := bX6_tenthsHeld_29.2.2.2.2.2.2.2.2.1
theorem dX6_tenthsHeld_46 : decode cX6_tenthsHeld 46 = .ok (.bipush 10, 2) := bX6_tenthsHeld_29.2.2.2.2.2.2.2.2.2.1
theorem dX6_tenthsHeld_48 : decode cX6_tenthsHeld 48 = .ok (.iload_n 3, 1) := bX6_tenthsHeld_29.2.2.2.2.2.2.2.2.2.2.1
theorem dX6_tenthsHeld_49 : decode cX6_tenthsHeld 49 = .ok (.isub, 1) := bX6_tenthsHeld_29.2.2.2.2.2.2.2.2.2.2.2.1
theorem dX6_tenthsHeld_50 : decode cX6_tenthsHeld 50 = .ok (.goto 4, 3) := bX6_tenthsHeld_29.2.2.2.2.2.2.2.2.2.2.2.2.1
theorem dX6_tenthsHeld_53 : decode cX6_tenthsHeld 53 = .ok (.iconst 0, 1) := bX6_tenthsHeld_29.2.2.2.2.2.2.2.2.2.2.2.2.2.1
theorem dX6_tenthsHeld_54 : decode cX6_tenthsHeld 54 = .ok (.iload 5, 2) := bX6_tenthsHeld_29.2.2.2.2.2.2.2.2.2.2.2.2.2.2.1
theorem dX6_tenthsHeld_56 : decode cX6_tenthsHeld 56 = .ok (.iload 6, 2) := bX6_tenthsHeld_29.2.2.2.2.2.2.2.2.2.2.2.2.2.2.2
theorem bX6_tenthsHeld_58 : (decode cX6_tenthsHeld 58 = .ok (.iconst 5, 1)) ∧ (decode cX6_tenthsHeld 59 = .ok (.iadd, 1)) ∧ (decode cX6_tenthsHeld 60 = .ok (.if_icmp .le 7, 3)) ∧ (decode cX6_tenthsHeld 63 = .ok (.iload_n 3, 1)) ∧ (decode cX6_tenthsHeld 64 = .ok (.goto 4, 3)) ∧ (decode cX6_tenthsHeld 67 = .ok (.iconst 0, 1)) ∧ (decode cX6_tenthsHeld 68 = .ok (.iadd, 1)) ∧ (decode cX6_tenthsHeld 69 = .ok (.ireturn, 1)) := by decide +kernel
theorem dX6_tenthsHeld_58 : decode cX6_tenthsHeld 58 = .ok (.iconst 5, 1) := bX6_tenthsHeld_58.1
theorem dX6_tenthsHeld_59 : decode cX6_tenthsHeld 59 = .ok (.iadd, 1) := bX6_tenthsHeld_58.2.1
theorem dX6_tenthsHeld_60 : decode cX6_tenthsHeld 60 = .ok (.if_icmp .le 7, 3) := bX6_tenthsHeld_58.2.2.1
theorem dX6_tenthsHeld_63 : decode cX6_tenthsHeld 63 = .ok (.iload_n 3, 1) := bX6_tenthsHeld_58.2.2.2.1
theorem dX6_tenthsHeld_64 : decode cX6_tenthsHeld 64 = .ok (.goto 4, 3) := bX6_tenthsHeld_58.2.2.2.2.1
theorem dX6_tenthsHeld_67 : decode cX6_tenthsHeld 67 = .ok (.iconst 0, 1) := bX6_tenthsHeld_58.2.2.2.2.2.1
theorem dX6_tenthsHeld_68 : decode cX6_tenthsHeld 68 = .ok (.iadd, 1) := bX6_tenthsHeld_58.2.2.2.2.2.2.1
theorem dX6_tenthsHeld_69 : decode cX6_tenthsHeld 69 = .ok (.ireturn, 1) := bX6_tenthsHeld_58.2.2.2.2.2.2.2
theorem bX6_fittingStrengths_0 : (decode cX6_fittingStrengths 0 = .ok (.iconst 0, 1)) ∧ (decode cX6_fittingStrengths 1 = .ok (.istore_n 2, 1)) ∧ (decode cX6_fittingStrengths 2 = .ok (.iconst 1, 1)) ∧ (decode cX6_fittingStrengths 3 = .ok (.istore_n 3, 1)) ∧ (decode cX6_fittingStrengths 4 = .ok (.iload_n 3, 1)) ∧ (decode cX6_fittingStrengths 5 = .ok (.bipush 9, 2)) ∧ (decode cX6_fittingStrengths 7 = .ok (.if_icmp .gt 24, 3)) ∧ (decode cX6_fittingStrengths 10 = .ok (.aload_n 0, 1)) ∧ (decode cX6_fittingStrengths 11 = .ok (.iload_n 1, 1)) ∧ (decode cX6_fittingStrengths 12 = .ok (.iload_n 3, 1)) ∧ (decode cX6_fittingStrengths 13 = .ok (.invokevirtual 131, 3)) ∧ (decode cX6_fittingStrengths 16 = .ok (.ifCond .eq 9, 3)) ∧ (decode cX6_fittingStrengths 19 = .ok (.iload_n 2, 1)) ∧ (decode cX6_fittingStrengths 20 = .ok (.iconst 1, 1)) ∧ (decode cX6_fittingStrengths 21 = .ok (.iload_n 3, 1)) ∧ (decode cX6_fittingStrengths 22 = .ok (.ishl, 1)) := by decide +kernel
theorem dX6_fittingStrengths_0 : decode cX6_fittingStrengths 0 = .ok (.iconst 0, 1) := bX6_fittingStrengths_0.1
theorem dX6_fittingStrengths_1 : decode cX6_fittingStrengths 1 = .ok (.istore_n 2, 1) := bX6_fittingStrengths_0.2.1
theorem dX6_fittingStrengths_2 : decode cX6_fittingStrengths 2 = .ok (.iconst 1, 1) := bX6_fittingStrengths_0.2.2.1
theorem dX6_fittingStrengths_3 : decode cX6_fittingStrengths 3 = .ok (.istore_n 3, 1) := bX6_fittingStrengths_0.2.2.2.1
theorem dX6_fittingStrengths_4 : decode cX6_fittingStrengths 4 = .ok (.iload_n 3, 1) := bX6_fittingStrengths_0.2.2.2.2.1
theorem dX6_fittingStrengths_5 : decode cX6_fittingStrengths 5 = .ok (.bipush 9, 2) := bX6_fittingStrengths_0.2.2.2.2.2.1
theorem dX6_fittingStrengths_7 : decode cX6_fittingStrengths 7 = .ok (.if_icmp .gt 24, 3) := bX6_fittingStrengths_0.2.2.2.2.2.2.1
theorem dX6_fittingStrengths_10 : decode cX6_fittingStrengths 10 = .ok (.aload_n 0, 1) := bX6_fittingStrengths_0.2.2.2.2.2.2.2.1
theorem dX6_fittingStrengths_11 : decode cX6_fittingStrengths 11 = .ok (.iload_n 1, 1) := bX6_fittingStrengths_0.2.2.2.2.2.2.2.2.1
theorem dX6_fittingStrengths_12 : decode cX6_fittingStrengths 12 = .ok (.iload_n 3, 1) := bX6_fittingStrengths_0.2.2.2.2.2.2.2.2.2.1
theorem dX6_fittingStrengths_13 : decode cX6_fittingStrengths 13 = .ok (.invokevirtual 131, 3) := bX6_fittingStrengths_0.2.2.2.2.2.2.2.2.2.2.1
theorem dX6_fittingStrengths_16 : decode cX6_fittingStrengths 16 = .ok (.ifCond .eq 9, 3) := bX6_fittingStrengths_0.2.2.2.2.2.2.2.2.2.2.2.1
theorem dX6_fittingStrengths_19 : decode cX6_fittingStrengths 19 = .ok (.iload_n 2, 1) := bX6_fittingStrengths_0.2.2.2.2.2.2.2.2.2.2.2.2.1
theorem dX6_fittingStrengths_20 : decode cX6_fittingStrengths 20 = .ok (.iconst 1, 1) := bX6_fittingStrengths_0.2.2.2.2.2.2.2.2.2.2.2.2.2.1
theorem dX6_fittingStrengths_21 : decode cX6_fittingStrengths 21 = .ok (.iload_n 3, 1) := bX6_fittingStrengths_0.2.2.2.2.2.2.2.2.2.2.2.2.2.2.1
theorem dX6_fittingStrengths_22 : decode cX6_fittingStrengths 22 = .ok (.ishl, 1) := bX6_fittingStrengths_0.2.2.2.2.2.2.2.2.2.2.2.2.2.2.2
theorem bX6_fittingStrengths_23 : (decode cX6_fittingStrengths 23 = .ok (.ior, 1)) ∧ (decode cX6_fittingStrengths 24 = .ok (.istore_n 2, 1)) ∧ (decode cX6_fittingStrengths 25 = .ok (.iinc 3 1, 3)) ∧ (decode cX6_fittingStrengths 28 = .ok (.goto (-24), 3)) ∧ (decode cX6_fittingStrengths 31 = .ok (.iload_n 2, 1)) ∧ (decode cX6_fittingStrengths 32 = .ok (.ireturn, 1)) := by decide +kernel
theorem dX6_fittingStrengths_23 : decode cX6_fittingStrengths 23 = .ok (.ior, 1) := bX6_fittingStrengths_23.1
theorem dX6_fittingStrengths_24 : decode cX6_fittingStrengths 24 = .ok (.istore_n 2, 1) := bX6_fittingStrengths_23.2.1
theorem dX6_fittingStrengths_25 : decode cX6_fittingStrengths 25 = .ok (.iinc 3 1, 3) := bX6_fittingStrengths_23.2.2.1
theorem dX6_fittingStrengths_28 : decode cX6_fittingStrengths 28 = .ok (.goto (-24), 3) := bX6_fittingStrengths_23.2.2.2.1
theorem dX6_fittingStrengths_31 : decode cX6_fittingStrengths 31 = .ok (.iload_n 2, 1) := bX6_fittingStrengths_23.2.2.2.2.1
theorem dX6_fittingStrengths_32 : decode cX6_fittingStrengths 32 = .ok (.ireturn, 1) := bX6_fittingStrengths_23.2.2.2.2.2
theorem bX6_fitsSeen_0 : (decode cX6_fitsSeen 0 = .ok (.iconst 0, 1)) ∧ (decode cX6_fitsSeen 1 = .ok (.istore_n 3, 1)) ∧ (decode cX6_fitsSeen 2 = .ok (.iload_n 3, 1)) ∧ (decode cX6_fitsSeen 3 = .ok (.aload_n 0, 1)) ∧ (decode cX6_fitsSeen 4 = .ok (.getfield 40, 3)) ∧ (decode cX6_fitsSeen 7 = .ok (.getfield 135, 3)) ∧ (decode cX6_fitsSeen 10 = .ok (.if_icmp .ge 80, 3)) ∧ (decode cX6_fitsSeen 13 = .ok (.aload_n 0, 1)) ∧ (decode cX6_fitsSeen 14 = .ok (.getfield 40, 3)) ∧ (decode cX6_fitsSeen 17 = .ok (.iload_n 3, 1)) ∧ (decode cX6_fitsSeen 18 = .ok (.iconst 0, 1)) ∧ (decode cX6_fitsSeen 19 = .ok (.invokevirtual 138, 3)) ∧ (decode cX6_fitsSeen 22 = .ok (.iload_n 1, 1)) ∧ (decode cX6_fitsSeen 23 = .ok (.if_icmp .ne 61, 3)) ∧ (decode cX6_fitsSeen 26 = .ok (.aload_n 0, 1)) ∧ (decode cX6_fitsSeen 27 = .ok (.getfield 18, 3)) := by decide +kernel
theorem dX6_fitsSeen_0 : decode cX6_fitsSeen 0 = .ok (.iconst 0, 1) := bX6_fitsSeen_0.1
theorem dX6_fitsSeen_1 : decode cX6_fitsSeen 1 = .ok (.istore_n 3, 1) := bX6_fitsSeen_0.2.1
theorem dX6_fitsSeen_2 : decode cX6_fitsSeen 2 = .ok (.iload_n 3, 1) := bX6_fitsSeen_0.2.2.1
theorem dX6_fitsSeen_3 : decode cX6_fitsSeen 3 = .ok (.aload_n 0, 1) := bX6_fitsSeen_0.2.2.2.1
theorem dX6_fitsSeen_4 : decode cX6_fitsSeen 4 = .ok (.getfield 40, 3) := bX6_fitsSeen_0.2.2.2.2.1
theorem dX6_fitsSeen_7 : decode cX6_fitsSeen 7 = .ok (.getfield 135, 3) := bX6_fitsSeen_0.2.2.2.2.2.1
theorem dX6_fitsSeen_10 : decode cX6_fitsSeen 10 = .ok (.if_icmp .ge 80, 3) := bX6_fitsSeen_0.2.2.2.2.2.2.1
theorem dX6_fitsSeen_13 : decode cX6_fitsSeen 13 = .ok (.aload_n 0, 1) := bX6_fitsSeen_0.2.2.2.2.2.2.2.1
theorem dX6_fitsSeen_14 : decode cX6_fitsSeen 14 = .ok (.getfield 40, 3) := bX6_fitsSeen_0.2.2.2.2.2.2.2.2.1
theorem dX6_fitsSeen_17 : decode cX6_fitsSeen 17 = .ok (.iload_n 3, 1) := bX6_fitsSeen_0.2.2.2.2.2.2.2.2.2.1
theorem dX6_fitsSeen_18 : decode cX6_fitsSeen 18 = .ok (.iconst 0, 1) := bX6_fitsSeen_0.2.2.2.2.2.2.2.2.2.2.1
theorem dX6_fitsSeen_19 : decode cX6_fitsSeen 19 = .ok (.invokevirtual 138, 3) := bX6_fitsSeen_0.2.2.2.2.2.2.2.2.2.2.2.1
theorem dX6_fitsSeen_22 : decode cX6_fitsSeen 22 = .ok (.iload_n 1, 1) := bX6_fitsSeen_0.2.2.2.2.2.2.2.2.2.2.2.2.1
theorem dX6_fitsSeen_23 : decode cX6_fitsSeen 23 = .ok (.if_icmp .ne 61, 3) := bX6_fitsSeen_0.2.2.2.2.2.2.2.2.2.2.2.2.2.1
theorem dX6_fitsSeen_26 : decode cX6_fitsSeen 26 = .ok (.aload_n 0, 1) := bX6_fitsSeen_0.2.2.2.2.2.2.2.2.2.2.2.2.2.2.1
theorem dX6_fitsSeen_27 : decode cX6_fitsSeen 27 = .ok (.getfield 18, 3) := bX6_fitsSeen_0.2.2.2.2.2.2.2.2.2.2.2.2.2.2.2
theorem bX6_fitsSeen_30 : (decode cX6_fitsSeen 30 = .ok (.iload_n 1, 1)) ∧ (decode cX6_fitsSeen 31 = .ok (.iaload, 1)) ∧ (decode cX6_fitsSeen 32 = .ok (.iload_n 2, 1)) ∧ (decode cX6_fitsSeen 33 = .ok (.aload_n 0, 1)) ∧ (decode cX6_fitsSeen 34 = .ok (.getfield 40, 3)) ∧ (decode cX6_fitsSeen 37 = .ok (.iload_n 3, 1)) ∧ (decode cX6_fitsSeen 38 = .ok (.iconst 1, 1)) ∧ (decode cX6_fitsSeen 39 = .ok (.invokevirtual 138, 3)) ∧ (decode cX6_fitsSeen 42 = .ok (.invokestatic 103, 3)) ∧ (decode cX6_fitsSeen 45 = .ok (.istore 4, 2)) ∧ (decode cX6_fitsSeen 47 = .ok (.iload 4, 2)) ∧ (decode cX6_fitsSeen 49 = .ok (.aload_n 0, 1)) ∧ (decode cX6_fitsSeen 50 = .ok (.getfield 40, 3)) ∧ (decode cX6_fitsSeen 53 = .ok (.iload_n 3, 1)) ∧ (decode cX6_fitsSeen 54 = .ok (.iconst 2, 1)) ∧ (decode cX6_fitsSeen 55 = .ok (.invokevirtual 138, 3)) := by decide +kernel
theorem dX6_fitsSeen_30 : decode cX6_fitsSeen 30 = .ok (.iload_n 1, 1) := bX6_fitsSeen_30.1
theorem dX6_fitsSeen_31 : decode cX6_fitsSeen 31 = .ok (.iaload, 1) := bX6_fitsSeen_30.2.1
theorem dX6_fitsSeen_32 : decode cX6_fitsSeen 32 = .ok (.iload_n 2, 1) := bX6_fitsSeen_30.2.2.1
theorem dX6_fitsSeen_33 : decode cX6_fitsSeen 33 = .ok (.aload_n 0, 1) := bX6_fitsSeen_30.2.2.2.1
theorem dX6_fitsSeen_34 : decode cX6_fitsSeen 34 = .ok (.getfield 40, 3) := bX6_fitsSeen_30.2.2.2.2.1
theorem dX6_fitsSeen_37 : decode cX6_fitsSeen 37 = .ok (.iload_n 3, 1) := bX6_fitsSeen_30.2.2.2.2.2.1
theorem dX6_fitsSeen_38 : decode cX6_fitsSeen 38 = .ok (.iconst 1, 1) := bX6_fitsSeen_30.2.2.2.2.2.2.1
theorem dX6_fitsSeen_39 : decode cX6_fitsSeen 39 = .ok (.invokevirtual 138, 3) := bX6_fitsSeen_30.2.2.2.2.2.2.2.1
theorem dX6_fitsSeen_42 : decode cX6_fitsSeen 42 = .ok (.invokestatic 103, 3) := bX6_fitsSeen_30.2.2.2.2.2.2.2.2.1
theorem dX6_fitsSeen_45 : decode cX6_fitsSeen 45 = .ok (.istore 4, 2) := bX6_fitsSeen_30.2.2.2.2.2.2.2.2.2.1
theorem dX6_fitsSeen_47 : decode cX6_fitsSeen 47 = .ok (.iload 4, 2) := bX6_fitsSeen_30.2.2.2.2.2.2.2.2.2.2.1
theorem dX6_fitsSeen_49 : decode cX6_fitsSeen 49 = .ok (.aload_n 0, 1) := bX6_fitsSeen_30.2.2.2.2.2.2.2.2.2.2.2.1
theorem dX6_fitsSeen_50 : decode cX6_fitsSeen 50 = .ok (.getfield 40, 3) := bX6_fitsSeen_30.2.2.2.2.2.2.2.2.2.2.2.2.1
theorem dX6_fitsSeen_53 : decode cX6_fitsSeen 53 = .ok (.iload_n 3, 1) := bX6_fitsSeen_30.2.2.2.2.2.2.2.2.2.2.2.2.2.1
theorem dX6_fitsSeen_54 : decode cX6_fitsSeen 54 = .ok (.iconst 2, 1) := bX6_fitsSeen_30.2.2.2.2.2.2.2.2.2.2.2.2.2.2.1
theorem dX6_fitsSeen_55 : decode cX6_fitsSeen 55 = .ok (.invokevirtual 138, 3) := bX6_fitsSeen_30.2.2.2.2.2.2.2.2.2.2.2.2.2.2.2
theorem bX6_fitsSeen_58 : (decode cX6_fitsSeen 58 = .ok (.if_icmp .lt 7, 3)) ∧ (decode cX6_fitsSeen 61 = .ok (.iconst 1, 1)) ∧ (decode cX6_fitsSeen 62 = .ok (.goto 4, 3)) ∧ (decode cX6_fitsSeen 65 = .ok (.iconst 0, 1)) ∧ (decode cX6_fitsSeen 66 = .ok (.istore 5, 2)) ∧ (decode cX6_fitsSeen 68 = .ok (.iload 5, 2)) ∧ (decode cX6_fitsSeen 70 = .ok (.aload_n 0, 1)) ∧ (decode cX6_fitsSeen 71 = .ok (.getfield 40, 3)) ∧ (decode cX6_fitsSeen 74 = .ok (.iload_n 3, 1)) ∧ (decode cX6_fitsSeen 75 = .ok (.iconst 3, 1)) ∧ (decode cX6_fitsSeen 76 = .ok (.invokevirtual 138, 3)) ∧ (decode cX6_fitsSeen 79 = .ok (.if_icmp .eq 5, 3)) ∧ (decode cX6_fitsSeen 82 = .ok (.iconst 0, 1)) ∧ (decode cX6_fitsSeen 83 = .ok (.ireturn, 1)) ∧ (decode cX6_fitsSeen 84 = .ok (.iinc 3 1, 3)) ∧ (decode cX6_fitsSeen 87 = .ok (.goto (-85), 3)) := by decide +kernel
theorem dX6_fitsSeen_58 : decode cX6_fitsSeen 58 = .ok (.if_icmp .lt 7, 3) := bX6_fitsSeen_58.1
theorem dX6_fitsSeen_61 : decode cX6_fitsSeen 61 = .ok (.iconst 1, 1) := bX6_fitsSeen_58.2.1
theorem dX6_fitsSeen_62 : decode cX6_fitsSeen 62 = .ok (.goto 4, 3) := bX6_fitsSeen_58.2.2.1
theorem dX6_fitsSeen_65 : decode cX6_fitsSeen 65 = .ok (.iconst 0, 1) := bX6_fitsSeen_58.2.2.2.1
theorem dX6_fitsSeen_66 : decode cX6_fitsSeen 66 = .ok (.istore 5, 2) := bX6_fitsSeen_58.2.2.2.2.1
theorem dX6_fitsSeen_68 : decode cX6_fitsSeen 68 = .ok (.iload 5, 2) := bX6_fitsSeen_58.2.2.2.2.2.1
theorem dX6_fitsSeen_70 : decode cX6_fitsSeen 70 = .ok (.aload_n 0, 1) := bX6_fitsSeen_58.2.2.2.2.2.2.1
theorem dX6_fitsSeen_71 : decode cX6_fitsSeen 71 = .ok (.getfield 40, 3) := bX6_fitsSeen_58.2.2.2.2.2.2.2.1
theorem dX6_fitsSeen_74 : decode cX6_fitsSeen 74 = .ok (.iload_n 3, 1) := bX6_fitsSeen_58.2.2.2.2.2.2.2.2.1
theorem dX6_fitsSeen_75 : decode cX6_fitsSeen 75 = .ok (.iconst 3, 1) := bX6_fitsSeen_58.2.2.2.2.2.2.2.2.2.1
theorem dX6_fitsSeen_76 : decode cX6_fitsSeen 76 = .ok (.invokevirtual 138, 3) := bX6_fitsSeen_58.2.2.2.2.2.2.2.2.2.2.1
theorem dX6_fitsSeen_79 : decode cX6_fitsSeen 79 = .ok (.if_icmp .eq 5, 3) := bX6_fitsSeen_58.2.2.2.2.2.2.2.2.2.2.2.1
theorem dX6_fitsSeen_82 : decode cX6_fitsSeen 82 = .ok (.iconst 0, 1) := bX6_fitsSeen_58.2.2.2.2.2.2.2.2.2.2.2.2.1
theorem dX6_fitsSeen_83 : decode cX6_fitsSeen 83 = .ok (.ireturn, 1) := bX6_fitsSeen_58.2.2.2.2.2.2.2.2.2.2.2.2.2.1
theorem dX6_fitsSeen_84 : decode cX6_fitsSeen 84 = .ok (.iinc 3 1, 3) := bX6_fitsSeen_58.2.2.2.2.2.2.2.2.2.2.2.2.2.2.1
theorem dX6_fitsSeen_87 : decode cX6_fitsSeen 87 = .ok (.goto (-85), 3) := bX6_fitsSeen_58.2.2.2.2.2.2.2.2.2.2.2.2.2.2.2
theorem bX6_fitsSeen_90 : (decode cX6_fitsSeen 90 = .ok (.iconst 1, 1)) ∧ (decode cX6_fitsSeen 91 = .ok (.ireturn, 1)) := by decide +kernel
theorem dX6_fitsSeen_90 : decode cX6_fitsSeen 90 = .ok (.iconst 1, 1) := bX6_fitsSeen_90.1
theorem dX6_fitsSeen_91 : decode cX6_fitsSeen 91 = .ok (.ireturn, 1) := bX6_fitsSeen_90.2
theorem bX6_fittingThingKinds_0 : (decode cX6_fittingThingKinds 0 = .ok (.iconst 0, 1)) ∧ (decode cX6_fittingThingKinds 1 = .ok (.istore_n 2, 1)) ∧ (decode cX6_fittingThingKinds 2 = .ok (.iconst 0, 1)) ∧ (decode cX6_fittingThingKinds 3 = .ok (.istore_n 3, 1)) ∧ (decode cX6_fittingThingKinds 4 = .ok (.iload_n 3, 1)) ∧ (decode cX6_fittingThingKinds 5 = .ok (.bipush 6, 2)) ∧ (decode cX6_fittingThingKinds 7 = .ok (.if_icmp .ge 24, 3)) ∧ (decode cX6_fittingThingKinds 10 = .ok (.aload_n 0, 1)) ∧ (decode cX6_fittingThingKinds 11 = .ok (.iload_n 1, 1)) ∧ (decode cX6_fittingThingKinds 12 = .ok (.iload_n 3, 1)) ∧ (decode cX6_fittingThingKinds 13 = .ok (.invokevirtual 141, 3)) ∧ (decode cX6_fittingThingKinds 16 = .ok (.ifCond .eq 9, 3)) ∧ (decode cX6_fittingThingKinds 19 = .ok (.iload_n 2, 1)) ∧ (decode cX6_fittingThingKinds 20 = .ok (.iconst 1, 1)) ∧ (decode cX6_fittingThingKinds 21 = .ok (.iload_n 3, 1)) ∧ (decode cX6_fittingThingKinds 22 = .ok (.ishl, 1)) := by decide +kernel
theorem dX6_fittingThingKinds_0 : decode cX6_fittingThingKinds 0 = .ok (.iconst 0, 1) := bX6_fittingThingKinds_0.1
theorem dX6_fittingThingKinds_1 : decode cX6_fittingThingKinds 1 = .ok (.istore_n 2, 1) := bX6_fittingThingKinds_0.2.1
theorem dX6_fittingThingKinds_2 : decode cX6_fittingThingKinds 2 = .ok (.iconst 0, 1) := bX6_fittingThingKinds_0.2.2.1
theorem dX6_fittingThingKinds_3 : decode cX6_fittingThingKinds 3 = .ok (.istore_n 3, 1) := bX6_fittingThingKinds_0.2.2.2.1
theorem dX6_fittingThingKinds_4 : decode cX6_fittingThingKinds 4 = .ok (.iload_n 3, 1) := bX6_fittingThingKinds_0.2.2.2.2.1
theorem dX6_fittingThingKinds_5 : decode cX6_fittingThingKinds 5 = .ok (.bipush 6, 2) := bX6_fittingThingKinds_0.2.2.2.2.2.1
theorem dX6_fittingThingKinds_7 : decode cX6_fittingThingKinds 7 = .ok (.if_icmp .ge 24, 3) := bX6_fittingThingKinds_0.2.2.2.2.2.2.1
theorem dX6_fittingThingKinds_10 : decode cX6_fittingThingKinds 10 = .ok (.aload_n 0, 1) := bX6_fittingThingKinds_0.2.2.2.2.2.2.2.1
theorem dX6_fittingThingKinds_11 : decode cX6_fittingThingKinds 11 = .ok (.iload_n 1, 1) := bX6_fittingThingKinds_0.2.2.2.2.2.2.2.2.1
theorem dX6_fittingThingKinds_12 : decode cX6_fittingThingKinds 12 = .ok (.iload_n 3, 1) := bX6_fittingThingKinds_0.2.2.2.2.2.2.2.2.2.1
theorem dX6_fittingThingKinds_13 : decode cX6_fittingThingKinds 13 = .ok (.invokevirtual 141, 3) := bX6_fittingThingKinds_0.2.2.2.2.2.2.2.2.2.2.1
theorem dX6_fittingThingKinds_16 : decode cX6_fittingThingKinds 16 = .ok (.ifCond .eq 9, 3) := bX6_fittingThingKinds_0.2.2.2.2.2.2.2.2.2.2.2.1
theorem dX6_fittingThingKinds_19 : decode cX6_fittingThingKinds 19 = .ok (.iload_n 2, 1) := bX6_fittingThingKinds_0.2.2.2.2.2.2.2.2.2.2.2.2.1
theorem dX6_fittingThingKinds_20 : decode cX6_fittingThingKinds 20 = .ok (.iconst 1, 1) := bX6_fittingThingKinds_0.2.2.2.2.2.2.2.2.2.2.2.2.2.1
theorem dX6_fittingThingKinds_21 : decode cX6_fittingThingKinds 21 = .ok (.iload_n 3, 1) := bX6_fittingThingKinds_0.2.2.2.2.2.2.2.2.2.2.2.2.2.2.1
theorem dX6_fittingThingKinds_22 : decode cX6_fittingThingKinds 22 = .ok (.ishl, 1) := bX6_fittingThingKinds_0.2.2.2.2.2.2.2.2.2.2.2.2.2.2.2
theorem bX6_fittingThingKinds_23 : (decode cX6_fittingThingKinds 23 = .ok (.ior, 1)) ∧ (decode cX6_fittingThingKinds 24 = .ok (.istore_n 2, 1)) ∧ (decode cX6_fittingThingKinds 25 = .ok (.iinc 3 1, 3)) ∧ (decode cX6_fittingThingKinds 28 = .ok (.goto (-24), 3)) ∧ (decode cX6_fittingThingKinds 31 = .ok (.iload_n 2, 1)) ∧ (decode cX6_fittingThingKinds 32 = .ok (.ireturn, 1)) := by decide +kernel
theorem dX6_fittingThingKinds_23 : decode cX6_fittingThingKinds 23 = .ok (.ior, 1) := bX6_fittingThingKinds_23.1
theorem dX6_fittingThingKinds_24 : decode cX6_fittingThingKinds 24 = .ok (.istore_n 2, 1) := bX6_fittingThingKinds_23.2.1
theorem dX6_fittingThingKinds_25 : decode cX6_fittingThingKinds 25 = .ok (.iinc 3 1, 3) := bX6_fittingThingKinds_23.2.2.1
theorem dX6_fittingThingKinds_28 : decode cX6_fittingThingKinds 28 = .ok (.goto (-24), 3) := bX6_fittingThingKinds_23.2.2.2.1
theorem dX6_fittingThingKinds_31 : decode cX6_fittingThingKinds 31 = .ok (.iload_n 2, 1) := bX6_fittingThingKinds_23.2.2.2.2.1
theorem dX6_fittingThingKinds_32 : decode cX6_fittingThingKinds 32 = .ok (.ireturn, 1) := bX6_fittingThingKinds_23.2.2.2.2.2
theorem bX6_fitsNotes_0 : (decode cX6_fitsNotes 0 = .ok (.iconst 0, 1)) ∧ (decode cX6_fitsNotes 1 = .ok (.istore_n 3, 1)) ∧ (decode cX6_fitsNotes 2 = .ok (.iload_n 3, 1)) ∧ (decode cX6_fitsNotes 3 = .ok (.aload_n 0, 1)) ∧ (decode cX6_fitsNotes 4 = .ok (.getfield 44, 3)) ∧ (decode cX6_fitsNotes 7 = .ok (.getfield 135, 3)) ∧ (decode cX6_fitsNotes 10 = .ok (.if_icmp .ge 58, 3)) ∧ (decode cX6_fitsNotes 13 = .ok (.aload_n 0, 1)) ∧ (decode cX6_fitsNotes 14 = .ok (.getfield 44, 3)) ∧ (decode cX6_fitsNotes 17 = .ok (.iload_n 3, 1)) ∧ (decode cX6_fitsNotes 18 = .ok (.iconst 0, 1)) ∧ (decode cX6_fitsNotes 19 = .ok (.invokevirtual 138, 3)) ∧ (decode cX6_fitsNotes 22 = .ok (.iload_n 1, 1)) ∧ (decode cX6_fitsNotes 23 = .ok (.if_icmp .ne 39, 3)) ∧ (decode cX6_fitsNotes 26 = .ok (.aload_n 0, 1)) ∧ (decode cX6_fitsNotes 27 = .ok (.getfield 44, 3)) := by decide +kernel
theorem dX6_fitsNotes_0 : decode cX6_fitsNotes 0 = .ok (.iconst 0, 1) := bX6_fitsNotes_0.1
theorem dX6_fitsNotes_1 : decode cX6_fitsNotes 1 = .ok (.istore_n 3, 1) := bX6_fitsNotes_0.2.1
theorem dX6_fitsNotes_2 : decode cX6_fitsNotes 2 = .ok (.iload_n 3, 1) := bX6_fitsNotes_0.2.2.1
theorem dX6_fitsNotes_3 : decode cX6_fitsNotes 3 = .ok (.aload_n 0, 1) := bX6_fitsNotes_0.2.2.2.1
theorem dX6_fitsNotes_4 : decode cX6_fitsNotes 4 = .ok (.getfield 44, 3) := bX6_fitsNotes_0.2.2.2.2.1
theorem dX6_fitsNotes_7 : decode cX6_fitsNotes 7 = .ok (.getfield 135, 3) := bX6_fitsNotes_0.2.2.2.2.2.1
theorem dX6_fitsNotes_10 : decode cX6_fitsNotes 10 = .ok (.if_icmp .ge 58, 3) := bX6_fitsNotes_0.2.2.2.2.2.2.1
theorem dX6_fitsNotes_13 : decode cX6_fitsNotes 13 = .ok (.aload_n 0, 1) := bX6_fitsNotes_0.2.2.2.2.2.2.2.1
theorem dX6_fitsNotes_14 : decode cX6_fitsNotes 14 = .ok (.getfield 44, 3) := bX6_fitsNotes_0.2.2.2.2.2.2.2.2.1
theorem dX6_fitsNotes_17 : decode cX6_fitsNotes 17 = .ok (.iload_n 3, 1) := bX6_fitsNotes_0.2.2.2.2.2.2.2.2.2.1
theorem dX6_fitsNotes_18 : decode cX6_fitsNotes 18 = .ok (.iconst 0, 1) := bX6_fitsNotes_0.2.2.2.2.2.2.2.2.2.2.1
theorem dX6_fitsNotes_19 : decode cX6_fitsNotes 19 = .ok (.invokevirtual 138, 3) := bX6_fitsNotes_0.2.2.2.2.2.2.2.2.2.2.2.1
theorem dX6_fitsNotes_22 : decode cX6_fitsNotes 22 = .ok (.iload_n 1, 1) := bX6_fitsNotes_0.2.2.2.2.2.2.2.2.2.2.2.2.1
theorem dX6_fitsNotes_23 : decode cX6_fitsNotes 23 = .ok (.if_icmp .ne 39, 3) := bX6_fitsNotes_0.2.2.2.2.2.2.2.2.2.2.2.2.2.1
theorem dX6_fitsNotes_26 : decode cX6_fitsNotes 26 = .ok (.aload_n 0, 1) := bX6_fitsNotes_0.2.2.2.2.2.2.2.2.2.2.2.2.2.2.1
theorem dX6_fitsNotes_27 : decode cX6_fitsNotes 27 = .ok (.getfield 44, 3) := bX6_fitsNotes_0.2.2.2.2.2.2.2.2.2.2.2.2.2.2.2
theorem bX6_fitsNotes_30 : (decode cX6_fitsNotes 30 = .ok (.iload_n 3, 1)) ∧ (decode cX6_fitsNotes 31 = .ok (.iconst 3, 1)) ∧ (decode cX6_fitsNotes 32 = .ok (.invokevirtual 138, 3)) ∧ (decode cX6_fitsNotes 35 = .ok (.iload_n 2, 1)) ∧ (decode cX6_fitsNotes 36 = .ok (.aload_n 0, 1)) ∧ (decode cX6_fitsNotes 37 = .ok (.getfield 44, 3)) ∧ (decode cX6_fitsNotes 40 = .ok (.iload_n 3, 1)) ∧ (decode cX6_fitsNotes 41 = .ok (.iconst 1, 1)) ∧ (decode cX6_fitsNotes 42 = .ok (.invokevirtual 138, 3)) ∧ (decode cX6_fitsNotes 45 = .ok (.aload_n 0, 1)) ∧ (decode cX6_fitsNotes 46 = .ok (.getfield 44, 3)) ∧ (decode cX6_fitsNotes 49 = .ok (.iload_n 3, 1)) ∧ (decode cX6_fitsNotes 50 = .ok (.iconst 2, 1)) ∧ (decode cX6_fitsNotes 51 = .ok (.invokevirtual 138, 3)) ∧ (decode cX6_fitsNotes 54 = .ok (.invokestatic 91, 3)) ∧ (decode cX6_fitsNotes 57 = .ok (.if_icmp .eq 5, 3)) := by decide +kernel
theorem dX6_fitsNotes_30 : decode cX6_fitsNotes 30 = .ok (.iload_n 3, 1) := bX6_fitsNotes_30.1
theorem dX6_fitsNotes_31 : decode cX6_fitsNotes 31 = .ok (.iconst 3, 1) := bX6_fitsNotes_30.2.1
theorem dX6_fitsNotes_32 : decode cX6_fitsNotes 32 = .ok (.invokevirtual 138, 3) := bX6_fitsNotes_30.2.2.1
theorem dX6_fitsNotes_35 : decode cX6_fitsNotes 35 = .ok (.iload_n 2, 1) := bX6_fitsNotes_30.2.2.2.1
theorem dX6_fitsNotes_36 : decode cX6_fitsNotes 36 = .ok (.aload_n 0, 1) := bX6_fitsNotes_30.2.2.2.2.1
theorem dX6_fitsNotes_37 : decode cX6_fitsNotes 37 = .ok (.getfield 44, 3) := bX6_fitsNotes_30.2.2.2.2.2.1
theorem dX6_fitsNotes_40 : decode cX6_fitsNotes 40 = .ok (.iload_n 3, 1) := bX6_fitsNotes_30.2.2.2.2.2.2.1
theorem dX6_fitsNotes_41 : decode cX6_fitsNotes 41 = .ok (.iconst 1, 1) := bX6_fitsNotes_30.2.2.2.2.2.2.2.1
theorem dX6_fitsNotes_42 : decode cX6_fitsNotes 42 = .ok (.invokevirtual 138, 3) := bX6_fitsNotes_30.2.2.2.2.2.2.2.2.1
theorem dX6_fitsNotes_45 : decode cX6_fitsNotes 45 = .ok (.aload_n 0, 1) := bX6_fitsNotes_30.2.2.2.2.2.2.2.2.2.1
theorem dX6_fitsNotes_46 : decode cX6_fitsNotes 46 = .ok (.getfield 44, 3) := bX6_fitsNotes_30.2.2.2.2.2.2.2.2.2.2.1
theorem dX6_fitsNotes_49 : decode cX6_fitsNotes 49 = .ok (.iload_n 3, 1) := bX6_fitsNotes_30.2.2.2.2.2.2.2.2.2.2.2.1
theorem dX6_fitsNotes_50 : decode cX6_fitsNotes 50 = .ok (.iconst 2, 1) := bX6_fitsNotes_30.2.2.2.2.2.2.2.2.2.2.2.2.1
theorem dX6_fitsNotes_51 : decode cX6_fitsNotes 51 = .ok (.invokevirtual 138, 3) := bX6_fitsNotes_30.2.2.2.2.2.2.2.2.2.2.2.2.2.1
theorem dX6_fitsNotes_54 : decode cX6_fitsNotes 54 = .ok (.invokestatic 91, 3) := bX6_fitsNotes_30.2.2.2.2.2.2.2.2.2.2.2.2.2.2.1
theorem dX6_fitsNotes_57 : decode cX6_fitsNotes 57 = .ok (.if_icmp .eq 5, 3) := bX6_fitsNotes_30.2.2.2.2.2.2.2.2.2.2.2.2.2.2.2
theorem bX6_fitsNotes_60 : (decode cX6_fitsNotes 60 = .ok (.iconst 0, 1)) ∧ (decode cX6_fitsNotes 61 = .ok (.ireturn, 1)) ∧ (decode cX6_fitsNotes 62 = .ok (.iinc 3 1, 3)) ∧ (decode cX6_fitsNotes 65 = .ok (.goto (-63), 3)) ∧ (decode cX6_fitsNotes 68 = .ok (.iconst 1, 1)) ∧ (decode cX6_fitsNotes 69 = .ok (.ireturn, 1)) := by decide +kernel
theorem dX6_fitsNotes_60 : decode cX6_fitsNotes 60 = .ok (.iconst 0, 1) := bX6_fitsNotes_60.1
theorem dX6_fitsNotes_61 : decode cX6_fitsNotes 61 = .ok (.ireturn, 1) := bX6_fitsNotes_60.2.1
theorem dX6_fitsNotes_62 : decode cX6_fitsNotes 62 = .ok (.iinc 3 1, 3) := bX6_fitsNotes_60.2.2.1
theorem dX6_fitsNotes_65 : decode cX6_fitsNotes 65 = .ok (.goto (-63), 3) := bX6_fitsNotes_60.2.2.2.1
theorem dX6_fitsNotes_68 : decode cX6_fitsNotes 68 = .ok (.iconst 1, 1) := bX6_fitsNotes_60.2.2.2.2.1
theorem dX6_fitsNotes_69 : decode cX6_fitsNotes 69 = .ok (.ireturn, 1) := bX6_fitsNotes_60.2.2.2.2.2
theorem bX6_fittingOneKinds_0 : (decode cX6_fittingOneKinds 0 = .ok (.iconst 0, 1)) ∧ (decode cX6_fittingOneKinds 1 = .ok (.istore_n 2, 1)) ∧ (decode cX6_fittingOneKinds 2 = .ok (.iconst 0, 1)) ∧ (decode cX6_fittingOneKinds 3 = .ok (.istore_n 3, 1)) ∧ (decode cX6_fittingOneKinds 4 = .ok (.iload_n 3, 1)) ∧ (decode cX6_fittingOneKinds 5 = .ok (.bipush 6, 2)) ∧ (decode cX6_fittingOneKinds 7 = .ok (.if_icmp .ge 24, 3)) ∧ (decode cX6_fittingOneKinds 10 = .ok (.aload_n 0, 1)) ∧ (decode cX6_fittingOneKinds 11 = .ok (.iload_n 1, 1)) ∧ (decode cX6_fittingOneKinds 12 = .ok (.iload_n 3, 1)) ∧ (decode cX6_fittingOneKinds 13 = .ok (.invokevirtual 144, 3)) ∧ (decode cX6_fittingOneKinds 16 = .ok (.ifCond .eq 9, 3)) ∧ (decode cX6_fittingOneKinds 19 = .ok (.iload_n 2, 1)) ∧ (decode cX6_fittingOneKinds 20 = .ok (.iconst 1, 1)) ∧ (decode cX6_fittingOneKinds 21 = .ok (.iload_n 3, 1)) ∧ (decode cX6_fittingOneKinds 22 = .ok (.ishl, 1)) := by decide +kernel
theorem dX6_fittingOneKinds_0 : decode cX6_fittingOneKinds 0 = .ok (.iconst 0, 1) := bX6_fittingOneKinds_0.1
theorem dX6_fittingOneKinds_1 : decode cX6_fittingOneKinds 1 = .ok (.istore_n 2, 1) := bX6_fittingOneKinds_0.2.1
theorem dX6_fittingOneKinds_2 : decode cX6_fittingOneKinds 2 = .ok (.iconst 0, 1) := bX6_fittingOneKinds_0.2.2.1
theorem dX6_fittingOneKinds_3 : decode cX6_fittingOneKinds 3 = .ok (.istore_n 3, 1) := bX6_fittingOneKinds_0.2.2.2.1
theorem dX6_fittingOneKinds_4 : decode cX6_fittingOneKinds 4 = .ok (.iload_n 3, 1) := bX6_fittingOneKinds_0.2.2.2.2.1
theorem dX6_fittingOneKinds_5 : decode cX6_fittingOneKinds 5 = .ok (.bipush 6, 2) := bX6_fittingOneKinds_0.2.2.2.2.2.1
theorem dX6_fittingOneKinds_7 : decode cX6_fittingOneKinds 7 = .ok (.if_icmp .ge 24, 3) := bX6_fittingOneKinds_0.2.2.2.2.2.2.1
theorem dX6_fittingOneKinds_10 : decode cX6_fittingOneKinds 10 = .ok (.aload_n 0, 1) := bX6_fittingOneKinds_0.2.2.2.2.2.2.2.1
theorem dX6_fittingOneKinds_11 : decode cX6_fittingOneKinds 11 = .ok (.iload_n 1, 1) := bX6_fittingOneKinds_0.2.2.2.2.2.2.2.2.1
theorem dX6_fittingOneKinds_12 : decode cX6_fittingOneKinds 12 = .ok (.iload_n 3, 1) := bX6_fittingOneKinds_0.2.2.2.2.2.2.2.2.2.1
theorem dX6_fittingOneKinds_13 : decode cX6_fittingOneKinds 13 = .ok (.invokevirtual 144, 3) := bX6_fittingOneKinds_0.2.2.2.2.2.2.2.2.2.2.1
theorem dX6_fittingOneKinds_16 : decode cX6_fittingOneKinds 16 = .ok (.ifCond .eq 9, 3) := bX6_fittingOneKinds_0.2.2.2.2.2.2.2.2.2.2.2.1
theorem dX6_fittingOneKinds_19 : decode cX6_fittingOneKinds 19 = .ok (.iload_n 2, 1) := bX6_fittingOneKinds_0.2.2.2.2.2.2.2.2.2.2.2.2.1
theorem dX6_fittingOneKinds_20 : decode cX6_fittingOneKinds 20 = .ok (.iconst 1, 1) := bX6_fittingOneKinds_0.2.2.2.2.2.2.2.2.2.2.2.2.2.1
theorem dX6_fittingOneKinds_21 : decode cX6_fittingOneKinds 21 = .ok (.iload_n 3, 1) := bX6_fittingOneKinds_0.2.2.2.2.2.2.2.2.2.2.2.2.2.2.1
theorem dX6_fittingOneKinds_22 : decode cX6_fittingOneKinds 22 = .ok (.ishl, 1) := bX6_fittingOneKinds_0.2.2.2.2.2.2.2.2.2.2.2.2.2.2.2
theorem bX6_fittingOneKinds_23 : (decode cX6_fittingOneKinds 23 = .ok (.ior, 1)) ∧ (decode cX6_fittingOneKinds 24 = .ok (.istore_n 2, 1)) ∧ (decode cX6_fittingOneKinds 25 = .ok (.iinc 3 1, 3)) ∧ (decode cX6_fittingOneKinds 28 = .ok (.goto (-24), 3)) ∧ (decode cX6_fittingOneKinds 31 = .ok (.iload_n 2, 1)) ∧ (decode cX6_fittingOneKinds 32 = .ok (.ireturn, 1)) := by decide +kernel
theorem dX6_fittingOneKinds_23 : decode cX6_fittingOneKinds 23 = .ok (.ior, 1) := bX6_fittingOneKinds_23.1
theorem dX6_fittingOneKinds_24 : decode cX6_fittingOneKinds 24 = .ok (.istore_n 2, 1) := bX6_fittingOneKinds_23.2.1
theorem dX6_fittingOneKinds_25 : decode cX6_fittingOneKinds 25 = .ok (.iinc 3 1, 3) := bX6_fittingOneKinds_23.2.2.1
theorem dX6_fittingOneKinds_28 : decode cX6_fittingOneKinds 28 = .ok (.goto (-24), 3) := bX6_fittingOneKinds_23.2.2.2.1
theorem dX6_fittingOneKinds_31 : decode cX6_fittingOneKinds 31 = .ok (.iload_n 2, 1) := bX6_fittingOneKinds_23.2.2.2.2.1
theorem dX6_fittingOneKinds_32 : decode cX6_fittingOneKinds 32 = .ok (.ireturn, 1) := bX6_fittingOneKinds_23.2.2.2.2.2
theorem bX6_fitsMarks_0 : (decode cX6_fitsMarks 0 = .ok (.iconst 0, 1)) ∧ (decode cX6_fitsMarks 1 = .ok (.istore_n 3, 1)) ∧ (decode cX6_fitsMarks 2 = .ok (.iload_n 3, 1)) ∧ (decode cX6_fitsMarks 3 = .ok (.aload_n 0, 1)) ∧ (decode cX6_fitsMarks 4 = .ok (.getfield 47, 3)) ∧ (decode cX6_fitsMarks 7 = .ok (.getfield 135, 3)) ∧ (decode cX6_fitsMarks 10 = .ok (.if_icmp .ge 58, 3)) ∧ (decode cX6_fitsMarks 13 = .ok (.aload_n 0, 1)) ∧ (decode cX6_fitsMarks 14 = .ok (.getfield 47, 3)) ∧ (decode cX6_fitsMarks 17 = .ok (.iload_n 3, 1)) ∧ (decode cX6_fitsMarks 18 = .ok (.iconst 0, 1)) ∧ (decode cX6_fitsMarks 19 = .ok (.invokevirtual 138, 3)) ∧ (decode cX6_fitsMarks 22 = .ok (.iload_n 1, 1)) ∧ (decode cX6_fitsMarks 23 = .ok (.if_icmp .ne 39, 3)) ∧ (decode cX6_fitsMarks 26 = .ok (.aload_n 0, 1)) ∧ (decode cX6_fitsMarks 27 = .ok (.getfield 47, 3)) := by decide +kernel
theorem dX6_fitsMarks_0 : decode cX6_fitsMarks 0 = .ok (.iconst 0, 1) := bX6_fitsMarks_0.1
theorem dX6_fitsMarks_1 : decode cX6_fitsMarks 1 = .ok (.istore_n 3, 1) := bX6_fitsMarks_0.2.1
theorem dX6_fitsMarks_2 : decode cX6_fitsMarks 2 = .ok (.iload_n 3, 1) := bX6_fitsMarks_0.2.2.1
theorem dX6_fitsMarks_3 : decode cX6_fitsMarks 3 = .ok (.aload_n 0, 1) := bX6_fitsMarks_0.2.2.2.1
theorem dX6_fitsMarks_4 : decode cX6_fitsMarks 4 = .ok (.getfield 47, 3) := bX6_fitsMarks_0.2.2.2.2.1
theorem dX6_fitsMarks_7 : decode cX6_fitsMarks 7 = .ok (.getfield 135, 3) := bX6_fitsMarks_0.2.2.2.2.2.1
theorem dX6_fitsMarks_10 : decode cX6_fitsMarks 10 = .ok (.if_icmp .ge 58, 3) := bX6_fitsMarks_0.2.2.2.2.2.2.1
theorem dX6_fitsMarks_13 : decode cX6_fitsMarks 13 = .ok (.aload_n 0, 1) := bX6_fitsMarks_0.2.2.2.2.2.2.2.1
theorem dX6_fitsMarks_14 : decode cX6_fitsMarks 14 = .ok (.getfield 47, 3) := bX6_fitsMarks_0.2.2.2.2.2.2.2.2.1
theorem dX6_fitsMarks_17 : decode cX6_fitsMarks 17 = .ok (.iload_n 3, 1) := bX6_fitsMarks_0.2.2.2.2.2.2.2.2.2.1
theorem dX6_fitsMarks_18 : decode cX6_fitsMarks 18 = .ok (.iconst 0, 1) := bX6_fitsMarks_0.2.2.2.2.2.2.2.2.2.2.1
theorem dX6_fitsMarks_19 : decode cX6_fitsMarks 19 = .ok (.invokevirtual 138, 3) := bX6_fitsMarks_0.2.2.2.2.2.2.2.2.2.2.2.1
theorem dX6_fitsMarks_22 : decode cX6_fitsMarks 22 = .ok (.iload_n 1, 1) := bX6_fitsMarks_0.2.2.2.2.2.2.2.2.2.2.2.2.1
theorem dX6_fitsMarks_23 : decode cX6_fitsMarks 23 = .ok (.if_icmp .ne 39, 3) := bX6_fitsMarks_0.2.2.2.2.2.2.2.2.2.2.2.2.2.1
theorem dX6_fitsMarks_26 : decode cX6_fitsMarks 26 = .ok (.aload_n 0, 1) := bX6_fitsMarks_0.2.2.2.2.2.2.2.2.2.2.2.2.2.2.1
theorem dX6_fitsMarks_27 : decode cX6_fitsMarks 27 = .ok (.getfield 47, 3) := bX6_fitsMarks_0.2.2.2.2.2.2.2.2.2.2.2.2.2.2.2
theorem bX6_fitsMarks_30 : (decode cX6_fitsMarks 30 = .ok (.iload_n 3, 1)) ∧ (decode cX6_fitsMarks 31 = .ok (.iconst 3, 1)) ∧ (decode cX6_fitsMarks 32 = .ok (.invokevirtual 138, 3)) ∧ (decode cX6_fitsMarks 35 = .ok (.iload_n 2, 1)) ∧ (decode cX6_fitsMarks 36 = .ok (.aload_n 0, 1)) ∧ (decode cX6_fitsMarks 37 = .ok (.getfield 47, 3)) ∧ (decode cX6_fitsMarks 40 = .ok (.iload_n 3, 1)) ∧ (decode cX6_fitsMarks 41 = .ok (.iconst 1, 1)) ∧ (decode cX6_fitsMarks 42 = .ok (.invokevirtual 138, 3)) ∧ (decode cX6_fitsMarks 45 = .ok (.aload_n 0, 1)) ∧ (decode cX6_fitsMarks 46 = .ok (.getfield 47, 3)) ∧ (decode cX6_fitsMarks 49 = .ok (.iload_n 3, 1)) ∧ (decode cX6_fitsMarks 50 = .ok (.iconst 2, 1)) ∧ (decode cX6_fitsMarks 51 = .ok (.invokevirtual 138, 3)) ∧ (decode cX6_fitsMarks 54 = .ok (.invokestatic 103, 3)) ∧ (decode cX6_fitsMarks 57 = .ok (.if_icmp .eq 5, 3)) := by decide +kernel
theorem dX6_fitsMarks_30 : decode cX6_fitsMarks 30 = .ok (.iload_n 3, 1) := bX6_fitsMarks_30.1
theorem dX6_fitsMarks_31 : decode cX6_fitsMarks 31 = .ok (.iconst 3, 1) := bX6_fitsMarks_30.2.1
theorem dX6_fitsMarks_32 : decode cX6_fitsMarks 32 = .ok (.invokevirtual 138, 3) := bX6_fitsMarks_30.2.2.1
theorem dX6_fitsMarks_35 : decode cX6_fitsMarks 35 = .ok (.iload_n 2, 1) := bX6_fitsMarks_30.2.2.2.1
theorem dX6_fitsMarks_36 : decode cX6_fitsMarks 36 = .ok (.aload_n 0, 1) := bX6_fitsMarks_30.2.2.2.2.1
theorem dX6_fitsMarks_37 : decode cX6_fitsMarks 37 = .ok (.getfield 47, 3) := bX6_fitsMarks_30.2.2.2.2.2.1
theorem dX6_fitsMarks_40 : decode cX6_fitsMarks 40 = .ok (.iload_n 3, 1) := bX6_fitsMarks_30.2.2.2.2.2.2.1
theorem dX6_fitsMarks_41 : decode cX6_fitsMarks 41 = .ok (.iconst 1, 1) := bX6_fitsMarks_30.2.2.2.2.2.2.2.1
theorem dX6_fitsMarks_42 : decode cX6_fitsMarks 42 = .ok (.invokevirtual 138, 3) := bX6_fitsMarks_30.2.2.2.2.2.2.2.2.1
theorem dX6_fitsMarks_45 : decode cX6_fitsMarks 45 = .ok (.aload_n 0, 1) := bX6_fitsMarks_30.2.2.2.2.2.2.2.2.2.1
theorem dX6_fitsMarks_46 : decode cX6_fitsMarks 46 = .ok (.getfield 47, 3) := bX6_fitsMarks_30.2.2.2.2.2.2.2.2.2.2.1
theorem dX6_fitsMarks_49 : decode cX6_fitsMarks 49 = .ok (.iload_n 3, 1) := bX6_fitsMarks_30.2.2.2.2.2.2.2.2.2.2.2.1
theorem dX6_fitsMarks_50 : decode cX6_fitsMarks 50 = .ok (.iconst 2, 1) := bX6_fitsMarks_30.2.2.2.2.2.2.2.2.2.2.2.2.1
theorem dX6_fitsMarks_51 : decode cX6_fitsMarks 51 = .ok (.invokevirtual 138, 3) := bX6_fitsMarks_30.2.2.2.2.2.2.2.2.2.2.2.2.2.1
theorem dX6_fitsMarks_54 : decode cX6_fitsMarks 54 = .ok (.invokestatic 103, 3) := bX6_fitsMarks_30.2.2.2.2.2.2.2.2.2.2.2.2.2.2.1
theorem dX6_fitsMarks_57 : decode cX6_fitsMarks 57 = .ok (.if_icmp .eq 5, 3) := bX6_fitsMarks_30.2.2.2.2.2.2.2.2.2.2.2.2.2.2.2
theorem bX6_fitsMarks_60 : (decode cX6_fitsMarks 60 = .ok (.iconst 0, 1)) ∧ (decode cX6_fitsMarks 61 = .ok (.ireturn, 1)) ∧ (decode cX6_fitsMarks 62 = .ok (.iinc 3 1, 3)) ∧ (decode cX6_fitsMarks 65 = .ok (.goto (-63), 3)) ∧ (decode cX6_fitsMarks 68 = .ok (.iconst 1, 1)) ∧ (decode cX6_fitsMarks 69 = .ok (.ireturn, 1)) := by decide +kernel
theorem dX6_fitsMarks_60 : decode cX6_fitsMarks 60 = .ok (.iconst 0, 1) := bX6_fitsMarks_60.1
theorem dX6_fitsMarks_61 : decode cX6_fitsMarks 61 = .ok (.ireturn, 1) := bX6_fitsMarks_60.2.1
theorem dX6_fitsMarks_62 : decode cX6_fitsMarks 62 = .ok (.iinc 3 1, 3) := bX6_fitsMarks_60.2.2.1
theorem dX6_fitsMarks_65 : decode cX6_fitsMarks 65 = .ok (.goto (-63), 3) := bX6_fitsMarks_60.2.2.2.1
theorem dX6_fitsMarks_68 : decode cX6_fitsMarks 68 = .ok (.iconst 1, 1) := bX6_fitsMarks_60.2.2.2.2.1
theorem dX6_fitsMarks_69 : decode cX6_fitsMarks 69 = .ok (.ireturn, 1) := bX6_fitsMarks_60.2.2.2.2.2
theorem bX6_mixInto_0 : (decode cX6_mixInto 0 = .ok (.lload_n 1, 1)) ∧ (decode cX6_mixInto 1 = .ok (.lstore_n 3, 1)) ∧ (decode cX6_mixInto 2 = .ok (.iconst 0, 1)) ∧ (decode cX6_mixInto 3 = .ok (.istore 5, 2)) ∧ (decode cX6_mixInto 5 = .ok (.iload 5, 2)) ∧ (decode cX6_mixInto 7 = .ok (.aload_n 0, 1)) ∧ (decode cX6_mixInto 8 = .ok (.getfield 50, 3)) ∧ (decode cX6_mixInto 11 = .ok (.if_icmp .ge 39, 3)) ∧ (decode cX6_mixInto 14 = .ok (.ldc2_w 147, 3)) ∧ (decode cX6_mixInto 17 = .ok (.lload_n 3, 1)) ∧ (decode cX6_mixInto 18 = .ok (.lmul, 1)) ∧ (decode cX6_mixInto 19 = .ok (.aload_n 0, 1)) ∧ (decode cX6_mixInto 20 = .ok (.getfield 9, 3)) ∧ (decode cX6_mixInto 23 = .ok (.iload 5, 2)) ∧ (decode cX6_mixInto 25 = .ok (.iaload, 1)) ∧ (decode cX6_mixInto 26 = .ok (.i2l, 1)) := by decide +kernel
theorem dX6_mixInto_0 : decode cX6_mixInto 0 = .ok (.lload_n 1, 1) := bX6_mixInto_0.1
theorem dX6_mixInto_1 : decode cX6_mixInto 1 = .ok (.lstore_n 3, 1) := bX6_mixInto_0.2.1
theorem dX6_mixInto_2 : decode cX6_mixInto 2 = .ok (.iconst 0, 1) := bX6_mixInto_0.2.2.1
theorem dX6_mixInto_3 : decode cX6_mixInto 3 = .ok (.istore 5, 2) := bX6_mixInto_0.2.2.2.1
theorem dX6_mixInto_5 : decode cX6_mixInto 5 = .ok (.iload 5, 2) := bX6_mixInto_0.2.2.2.2.1
theorem dX6_mixInto_7 : decode cX6_mixInto 7 = .ok (.aload_n 0, 1) := bX6_mixInto_0.2.2.2.2.2.1
theorem dX6_mixInto_8 : decode cX6_mixInto 8 = .ok (.getfield 50, 3) := bX6_mixInto_0.2.2.2.2.2.2.1
theorem dX6_mixInto_11 : decode cX6_mixInto 11 = .ok (.if_icmp .ge 39, 3) := bX6_mixInto_0.2.2.2.2.2.2.2.1
theorem dX6_mixInto_14 : decode cX6_mixInto 14 = .ok (.ldc2_w 147, 3) := bX6_mixInto_0.2.2.2.2.2.2.2.2.1
theorem dX6_mixInto_17 : decode cX6_mixInto 17 = .ok (.lload_n 3, 1) := bX6_mixInto_0.2.2.2.2.2.2.2.2.2.1
theorem dX6_mixInto_18 : decode cX6_mixInto 18 = .ok (.lmul, 1) := bX6_mixInto_0.2.2.2.2.2.2.2.2.2.2.1
theorem dX6_mixInto_19 : decode cX6_mixInto 19 = .ok (.aload_n 0, 1) := bX6_mixInto_0.2.2.2.2.2.2.2.2.2.2.2.1
theorem dX6_mixInto_20 : decode cX6_mixInto 20 = .ok (.getfield 9, 3) := bX6_mixInto_0.2.2.2.2.2.2.2.2.2.2.2.2.1
theorem dX6_mixInto_23 : decode cX6_mixInto 23 = .ok (.iload 5, 2) := bX6_mixInto_0.2.2.2.2.2.2.2.2.2.2.2.2.2.1
theorem dX6_mixInto_25 : decode cX6_mixInto 25 = .ok (.iaload, 1) := bX6_mixInto_0.2.2.2.2.2.2.2.2.2.2.2.2.2.2.1
theorem dX6_mixInto_26 : decode cX6_mixInto 26 = .ok (.i2l, 1) := bX6_mixInto_0.2.2.2.2.2.2.2.2.2.2.2.2.2.2.2
theorem bX6_mixInto_27 : (decode cX6_mixInto 27 = .ok (.ladd, 1)) ∧ (decode cX6_mixInto 28 = .ok (.lstore_n 3, 1)) ∧ (decode cX6_mixInto 29 = .ok (.ldc2_w 147, 3)) ∧ (decode cX6_mixInto 32 = .ok (.lload_n 3, 1)) ∧ (decode cX6_mixInto 33 = .ok (.lmul, 1)) ∧ (decode cX6_mixInto 34 = .ok (.aload_n 0, 1)) ∧ (decode cX6_mixInto 35 = .ok (.getfield 15, 3)) ∧ (decode cX6_mixInto 38 = .ok (.iload 5, 2)) ∧ (decode cX6_mixInto 40 = .ok (.iaload, 1)) ∧ (decode cX6_mixInto 41 = .ok (.i2l, 1)) ∧ (decode cX6_mixInto 42 = .ok (.ladd, 1)) ∧ (decode cX6_mixInto 43 = .ok (.lstore_n 3, 1)) ∧ (decode cX6_mixInto 44 = .ok (.iinc 5 1, 3)) ∧ (decode cX6_mixInto 47 = .ok (.goto (-42), 3)) ∧ (decode cX6_mixInto 50 = .ok (.iconst 0, 1)) ∧ (decode cX6_mixInto 51 = .ok (.istore 5, 2)) := by decide +kernel
theorem dX6_mixInto_27 : decode cX6_mixInto 27 = .ok (.ladd, 1) := bX6_mixInto_27.1
theorem dX6_mixInto_28 : decode cX6_mixInto 28 = .ok (.lstore_n 3, 1) := bX6_mixInto_27.2.1
theorem dX6_mixInto_29 : decode cX6_mixInto 29 = .ok (.ldc2_w 147, 3) := bX6_mixInto_27.2.2.1
theorem dX6_mixInto_32 : decode cX6_mixInto 32 = .ok (.lload_n 3, 1) := bX6_mixInto_27.2.2.2.1
theorem dX6_mixInto_33 : decode cX6_mixInto 33 = .ok (.lmul, 1) := bX6_mixInto_27.2.2.2.2.1
theorem dX6_mixInto_34 : decode cX6_mixInto 34 = .ok (.aload_n 0, 1) := bX6_mixInto_27.2.2.2.2.2.1
theorem dX6_mixInto_35 : decode cX6_mixInto 35 = .ok (.getfield 15, 3) := bX6_mixInto_27.2.2.2.2.2.2.1
theorem dX6_mixInto_38 : decode cX6_mixInto 38 = .ok (.iload 5, 2) := bX6_mixInto_27.2.2.2.2.2.2.2.1
theorem dX6_mixInto_40 : decode cX6_mixInto 40 = .ok (.iaload, 1) := bX6_mixInto_27.2.2.2.2.2.2.2.2.1
theorem dX6_mixInto_41 : decode cX6_mixInto 41 = .ok (.i2l, 1) := bX6_mixInto_27.2.2.2.2.2.2.2.2.2.1
theorem dX6_mixInto_42 : decode cX6_mixInto 42 = .ok (.ladd, 1) := bX6_mixInto_27.2.2.2.2.2.2.2.2.2.2.1
theorem dX6_mixInto_43 : decode cX6_mixInto 43 = .ok (.lstore_n 3, 1) := bX6_mixInto_27.2.2.2.2.2.2.2.2.2.2.2.1
theorem dX6_mixInto_44 : decode cX6_mixInto 44 = .ok (.iinc 5 1, 3) := bX6_mixInto_27.2.2.2.2.2.2.2.2.2.2.2.2.1
theorem dX6_mixInto_47 : decode cX6_mixInto 47 = .ok (.goto (-42), 3) := bX6_mixInto_27.2.2.2.2.2.2.2.2.2.2.2.2.2.1
theorem dX6_mixInto_50 : decode cX6_mixInto 50 = .ok (.iconst 0, 1) := bX6_mixInto_27.2.2.2.2.2.2.2.2.2.2.2.2.2.2.1
theorem dX6_mixInto_51 : decode cX6_mixInto 51 = .ok (.istore 5, 2) := bX6_mixInto_27.2.2.2.2.2.2.2.2.2.2.2.2.2.2.2
theorem bX6_mixInto_53 : (decode cX6_mixInto 53 = .ok (.iload 5, 2)) ∧ (decode cX6_mixInto 55 = .ok (.aload_n 0, 1)) ∧ (decode cX6_mixInto 56 = .ok (.getfield 54, 3)) ∧ (decode cX6_mixInto 59 = .ok (.if_icmp .ge 40, 3)) ∧ (decode cX6_mixInto 62 = .ok (.iconst 0, 1)) ∧ (decode cX6_mixInto 63 = .ok (.istore 6, 2)) ∧ (decode cX6_mixInto 65 = .ok (.iload 6, 2)) ∧ (decode cX6_mixInto 67 = .ok (.iconst 4, 1)) ∧ (decode cX6_mixInto 68 = .ok (.if_icmp .gt 25, 3)) ∧ (decode cX6_mixInto 71 = .ok (.ldc2_w 147, 3)) ∧ (decode cX6_mixInto 74 = .ok (.lload_n 3, 1)) ∧ (decode cX6_mixInto 75 = .ok (.lmul, 1)) ∧ (decode cX6_mixInto 76 = .ok (.aload_n 0, 1)) ∧ (decode cX6_mixInto 77 = .ok (.iload 5, 2)) ∧ (decode cX6_mixInto 79 = .ok (.iload 6, 2)) ∧ (decode cX6_mixInto 81 = .ok (.invokevirtual 149, 3)) := by decide +kernel
theorem dX6_mixInto_53 : decode cX6_mixInto 53 = .ok (.iload 5, 2) := bX6_mixInto_53.1
theorem dX6_mixInto_55 : decode cX6_mixInto 55 = .ok (.aload_n 0, 1) := bX6_mixInto_53.2.1
theorem dX6_mixInto_56 : decode cX6_mixInto 56 = .ok (.getfield 54, 3) := bX6_mixInto_53.2.2.1
theorem dX6_mixInto_59 : decode cX6_mixInto 59 = .ok (.if_icmp .ge 40, 3) := bX6_mixInto_53.2.2.2.1
theorem dX6_mixInto_62 : decode cX6_mixInto 62 = .ok (.iconst 0, 1) := bX6_mixInto_53.2.2.2.2.1
theorem dX6_mixInto_63 : decode cX6_mixInto 63 = .ok (.istore 6, 2) := bX6_mixInto_53.2.2.2.2.2.1
theorem dX6_mixInto_65 : decode cX6_mixInto 65 = .ok (.iload 6, 2) := bX6_mixInto_53.2.2.2.2.2.2.1
theorem dX6_mixInto_67 : decode cX6_mixInto 67 = .ok (.iconst 4, 1) := bX6_mixInto_53.2.2.2.2.2.2.2.1
theorem dX6_mixInto_68 : decode cX6_mixInto 68 = .ok (.if_icmp .gt 25, 3) := bX6_mixInto_53.2.2.2.2.2.2.2.2.1
theorem dX6_mixInto_71 : decode cX6_mixInto 71 = .ok (.ldc2_w 147, 3) := bX6_mixInto_53.2.2.2.2.2.2.2.2.2.1
theorem dX6_mixInto_74 : decode cX6_mixInto 74 = .ok (.lload_n 3, 1) := bX6_mixInto_53.2.2.2.2.2.2.2.2.2.2.1
theorem dX6_mixInto_75 : decode cX6_mixInto 75 = .ok (.lmul, 1) := bX6_mixInto_53.2.2.2.2.2.2.2.2.2.2.2.1
theorem dX6_mixInto_76 : decode cX6_mixInto 76 = .ok (.aload_n 0, 1) := bX6_mixInto_53.2.2.2.2.2.2.2.2.2.2.2.2.1
theorem dX6_mixInto_77 : decode cX6_mixInto 77 = .ok (.iload 5, 2) := bX6_mixInto_53.2.2.2.2.2.2.2.2.2.2.2.2.2.1
theorem dX6_mixInto_79 : decode cX6_mixInto 79 = .ok (.iload 6, 2) := bX6_mixInto_53.2.2.2.2.2.2.2.2.2.2.2.2.2.2.1
theorem dX6_mixInto_81 : decode cX6_mixInto 81 = .ok (.invokevirtual 149, 3) := bX6_mixInto_53.2.2.2.2.2.2.2.2.2.2.2.2.2.2.2
theorem bX6_mixInto_84 : (decode cX6_mixInto 84 = .ok (.i2l, 1)) ∧ (decode cX6_mixInto 85 = .ok (.ladd, 1)) ∧ (decode cX6_mixInto 86 = .ok (.lstore_n 3, 1)) ∧ (decode cX6_mixInto 87 = .ok (.iinc 6 1, 3)) ∧ (decode cX6_mixInto 90 = .ok (.goto (-25), 3)) ∧ (decode cX6_mixInto 93 = .ok (.iinc 5 1, 3)) ∧ (decode cX6_mixInto 96 = .ok (.goto (-43), 3)) ∧ (decode cX6_mixInto 99 = .ok (.aload_n 0, 1)) ∧ (decode cX6_mixInto 100 = .ok (.getfield 40, 3)) ∧ (decode cX6_mixInto 103 = .ok (.lload_n 3, 1)) ∧ (decode cX6_mixInto 104 = .ok (.invokevirtual 152, 3)) ∧ (decode cX6_mixInto 107 = .ok (.lstore_n 3, 1)) ∧ (decode cX6_mixInto 108 = .ok (.aload_n 0, 1)) ∧ (decode cX6_mixInto 109 = .ok (.getfield 44, 3)) ∧ (decode cX6_mixInto 112 = .ok (.lload_n 3, 1)) ∧ (decode cX6_mixInto 113 = .ok (.invokevirtual 152, 3)) := by decide +kernel
theorem dX6_mixInto_84 : decode cX6_mixInto 84 = .ok (.i2l, 1) := bX6_mixInto_84.1
theorem dX6_mixInto_85 : decode cX6_mixInto 85 = .ok (.ladd, 1) := bX6_mixInto_84.2.1
theorem dX6_mixInto_86 : decode cX6_mixInto 86 = .ok (.lstore_n 3, 1) := bX6_mixInto_84.2.2.1
theorem dX6_mixInto_87 : decode cX6_mixInto 87 = .ok (.iinc 6 1, 3) := bX6_mixInto_84.2.2.2.1
theorem dX6_mixInto_90 : decode cX6_mixInto 90 = .ok (.goto (-25), 3) := bX6_mixInto_84.2.2.2.2.1
theorem dX6_mixInto_93 : decode cX6_mixInto 93 = .ok (.iinc 5 1, 3) := bX6_mixInto_84.2.2.2.2.2.1
theorem dX6_mixInto_96 : decode cX6_mixInto 96 = .ok (.goto (-43), 3) := bX6_mixInto_84.2.2.2.2.2.2.1
theorem dX6_mixInto_99 : decode cX6_mixInto 99 = .ok (.aload_n 0, 1) := bX6_mixInto_84.2.2.2.2.2.2.2.1
theorem dX6_mixInto_100 : decode cX6_mixInto 100 = .ok (.getfield 40, 3) := bX6_mixInto_84.2.2.2.2.2.2.2.2.1
theorem dX6_mixInto_103 : decode cX6_mixInto 103 = .ok (.lload_n 3, 1) := bX6_mixInto_84.2.2.2.2.2.2.2.2.2.1
theorem dX6_mixInto_104 : decode cX6_mixInto 104 = .ok (.invokevirtual 152, 3) := bX6_mixInto_84.2.2.2.2.2.2.2.2.2.2.1
theorem dX6_mixInto_107 : decode cX6_mixInto 107 = .ok (.lstore_n 3, 1) := bX6_mixInto_84.2.2.2.2.2.2.2.2.2.2.2.1
theorem dX6_mixInto_108 : decode cX6_mixInto 108 = .ok (.aload_n 0, 1) := bX6_mixInto_84.2.2.2.2.2.2.2.2.2.2.2.2.1
theorem dX6_mixInto_109 : decode cX6_mixInto 109 = .ok (.getfield 44, 3) := bX6_mixInto_84.2.2.2.2.2.2.2.2.2.2.2.2.2.1
theorem dX6_mixInto_112 : decode cX6_mixInto 112 = .ok (.lload_n 3, 1) := bX6_mixInto_84.2.2.2.2.2.2.2.2.2.2.2.2.2.2.1
theorem dX6_mixInto_113 : decode cX6_mixInto 113 = .ok (.invokevirtual 152, 3) := bX6_mixInto_84.2.2.2.2.2.2.2.2.2.2.2.2.2.2.2
theorem bX6_mixInto_116 : (decode cX6_mixInto 116 = .ok (.lstore_n 3, 1)) ∧ (decode cX6_mixInto 117 = .ok (.aload_n 0, 1)) ∧ (decode cX6_mixInto 118 = .ok (.getfield 47, 3)) ∧ (decode cX6_mixInto 121 = .ok (.lload_n 3, 1)) ∧ (decode cX6_mixInto 122 = .ok (.invokevirtual 152, 3)) ∧ (decode cX6_mixInto 125 = .ok (.lreturn, 1)) := by decide +kernel
theorem dX6_mixInto_116 : decode cX6_mixInto 116 = .ok (.lstore_n 3, 1) := bX6_mixInto_116.1
theorem dX6_mixInto_117 : decode cX6_mixInto 117 = .ok (.aload_n 0, 1) := bX6_mixInto_116.2.1
theorem dX6_mixInto_118 : decode cX6_mixInto 118 = .ok (.getfield 47, 3) := bX6_mixInto_116.2.2.1
theorem dX6_mixInto_121 : decode cX6_mixInto 121 = .ok (.lload_n 3, 1) := bX6_mixInto_116.2.2.2.1
theorem dX6_mixInto_122 : decode cX6_mixInto 122 = .ok (.invokevirtual 152, 3) := bX6_mixInto_116.2.2.2.2.1
theorem dX6_mixInto_125 : decode cX6_mixInto 125 = .ok (.lreturn, 1) := bX6_mixInto_116.2.2.2.2.2
theorem bX7_init_0 : (decode cX7_init 0 = .ok (.aload_n 0, 1)) ∧ (decode cX7_init 1 = .ok (.invokespecial 3, 3)) ∧ (decode cX7_init 4 = .ok (.aload_n 0, 1)) ∧ (decode cX7_init 5 = .ok (.new 9, 3)) ∧ (decode cX7_init 8 = .ok (.dup, 1)) ∧ (decode cX7_init 9 = .ok (.invokespecial 11, 3)) ∧ (decode cX7_init 12 = .ok (.putfield 12, 3)) ∧ (decode cX7_init 15 = .ok (.aload_n 0, 1)) ∧ (decode cX7_init 16 = .ok (.new 16, 3)) ∧ (decode cX7_init 19 = .ok (.dup, 1)) ∧ (decode cX7_init 20 = .ok (.invokespecial 18, 3)) ∧ (decode cX7_init 23 = .ok (.putfield 19, 3)) ∧ (decode cX7_init 26 = .ok (.aload_n 0, 1)) ∧ (decode cX7_init 27 = .ok (.iconst 2, 1)) ∧ (decode cX7_init 28 = .ok (.anewarray 9, 3)) ∧ (decode cX7_init 31 = .ok (.putfield 23, 3)) := by decide +kernel
theorem dX7_init_0 : decode cX7_init 0 = .ok (.aload_n 0, 1) := bX7_init_0.1
theorem dX7_init_1 : decode cX7_init 1 = .ok (.invokespecial 3, 3) := bX7_init_0.2.1
theorem dX7_init_4 : decode cX7_init 4 = .ok (.aload_n 0, 1) := bX7_init_0.2.2.1
theorem dX7_init_5 : decode cX7_init 5 = .ok (.new 9, 3) := bX7_init_0.2.2.2.1
theorem dX7_init_8 : decode cX7_init 8 = .ok (.dup, 1) := bX7_init_0.2.2.2.2.1
theorem dX7_init_9 : decode cX7_init 9 = .ok (.invokespecial 11, 3) := bX7_init_0.2.2.2.2.2.1
theorem dX7_init_12 : decode cX7_init 12 = .ok (.putfield 12, 3) := bX7_init_0.2.2.2.2.2.2.1
theorem dX7_init_15 : decode cX7_init 15 = .ok (.aload_n 0, 1) := bX7_init_0.2.2.2.2.2.2.2.1
theorem dX7_init_16 : decode cX7_init 16 = .ok (.new 16, 3) := bX7_init_0.2.2.2.2.2.2.2.2.1
theorem dX7_init_19 : decode cX7_init 19 = .ok (.dup, 1) := bX7_init_0.2.2.2.2.2.2.2.2.2.1
theorem dX7_init_20 : decode cX7_init 20 = .ok (.invokespecial 18, 3) := bX7_init_0.2.2.2.2.2.2.2.2.2.2.1
theorem dX7_init_23 : decode cX7_init 23 = .ok (.putfield 19, 3) := bX7_init_0.2.2.2.2.2.2.2.2.2.2.2.1
theorem dX7_init_26 : decode cX7_init 26 = .ok (.aload_n 0, 1) := bX7_init_0.2.2.2.2.2.2.2.2.2.2.2.2.1
theorem dX7_init_27 : decode cX7_init 27 = .ok (.iconst 2, 1) := bX7_init_0.2.2.2.2.2.2.2.2.2.2.2.2.2.1
theorem dX7_init_28 : decode cX7_init 28 = .ok (.anewarray 9, 3) := bX7_init_0.2.2.2.2.2.2.2.2.2.2.2.2.2.2.1
theorem dX7_init_31 : decode cX7_init 31 = .ok (.putfield 23, 3) := bX7_init_0.2.2.2.2.2.2.2.2.2.2.2.2.2.2.2
theorem bX7_init_34 : (decode cX7_init 34 = .ok (.aload_n 0, 1)) ∧ (decode cX7_init 35 = .ok (.new 27, 3)) ∧ (decode cX7_init 38 = .ok (.dup, 1)) ∧ (decode cX7_init 39 = .ok (.invokespecial 29, 3)) ∧ (decode cX7_init 42 = .ok (.putfield 30, 3)) ∧ (decode cX7_init 45 = .ok (.aload_n 0, 1)) ∧ (decode cX7_init 46 = .ok (.new 34, 3)) ∧ (decode cX7_init 49 = .ok (.dup, 1)) ∧ (decode cX7_init 50 = .ok (.invokespecial 36, 3)) ∧ (decode cX7_init 53 = .ok (.putfield 37, 3)) ∧ (decode cX7_init 56 = .ok (.aload_n 0, 1)) ∧ (decode cX7_init 57 = .ok (.new 41, 3)) ∧ (decode cX7_init 60 = .ok (.dup, 1)) ∧ (decode cX7_init 61 = .ok (.invokespecial 43, 3)) ∧ (decode cX7_init 64 = .ok (.putfield 44, 3)) ∧ (decode cX7_init 67 = .ok (.aload_n 0, 1)) := by decide +kernel
theorem dX7_init_34 : decode cX7_init 34 = .ok (.aload_n 0, 1) := bX7_init_34.1
theorem dX7_init_35 : decode cX7_init 35 = .ok (.new 27, 3) := bX7_init_34.2.1
theorem dX7_init_38 : decode cX7_init 38 = .ok (.dup, 1) := bX7_init_34.2.2.1
theorem dX7_init_39 : decode cX7_init 39 = .ok (.invokespecial 29, 3) := bX7_init_34.2.2.2.1
theorem dX7_init_42 : decode cX7_init 42 = .ok (.putfield 30, 3) := bX7_init_34.2.2.2.2.1
theorem dX7_init_45 : decode cX7_init 45 = .ok (.aload_n 0, 1) := bX7_init_34.2.2.2.2.2.1
theorem dX7_init_46 : decode cX7_init 46 = .ok (.new 34, 3) := bX7_init_34.2.2.2.2.2.2.1
theorem dX7_init_49 : decode cX7_init 49 = .ok (.dup, 1) := bX7_init_34.2.2.2.2.2.2.2.1
theorem dX7_init_50 : decode cX7_init 50 = .ok (.invokespecial 36, 3) := bX7_init_34.2.2.2.2.2.2.2.2.1
theorem dX7_init_53 : decode cX7_init 53 = .ok (.putfield 37, 3) := bX7_init_34.2.2.2.2.2.2.2.2.2.1
theorem dX7_init_56 : decode cX7_init 56 = .ok (.aload_n 0, 1) := bX7_init_34.2.2.2.2.2.2.2.2.2.2.1
theorem dX7_init_57 : decode cX7_init 57 = .ok (.new 41, 3) := bX7_init_34.2.2.2.2.2.2.2.2.2.2.2.1
theorem dX7_init_60 : decode cX7_init 60 = .ok (.dup, 1) := bX7_init_34.2.2.2.2.2.2.2.2.2.2.2.2.1
theorem dX7_init_61 : decode cX7_init 61 = .ok (.invokespecial 43, 3) := bX7_init_34.2.2.2.2.2.2.2.2.2.2.2.2.2.1
theorem dX7_init_64 : decode cX7_init 64 = .ok (.putfield 44, 3) := bX7_init_34.2.2.2.2.2.2.2.2.2.2.2.2.2.2.1
theorem dX7_init_67 : decode cX7_init 67 = .ok (.aload_n 0, 1) := bX7_init_34.2.2.2.2.2.2.2.2.2.2.2.2.2.2.2
theorem bX7_init_68 : (decode cX7_init 68 = .ok (.lconst 1, 1)) ∧ (decode cX7_init 69 = .ok (.putfield 48, 3)) ∧ (decode cX7_init 72 = .ok (.iconst 0, 1)) ∧ (decode cX7_init 73 = .ok (.istore_n 1, 1)) ∧ (decode cX7_init 74 = .ok (.iload_n 1, 1)) ∧ (decode cX7_init 75 = .ok (.iconst 2, 1)) ∧ (decode cX7_init 76 = .ok (.if_icmp .ge 22, 3)) ∧ (decode cX7_init 79 = .ok (.aload_n 0, 1)) ∧ (decode cX7_init 80 = .ok (.getfield 23, 3)) ∧ (decode cX7_init 83 = .ok (.iload_n 1, 1)) ∧ (decode cX7_init 84 = .ok (.new 9, 3)) ∧ (decode cX7_init 87 = .ok (.dup, 1)) ∧ (decode cX7_init 88 = .ok (.invokespecial 11, 3)) ∧ (decode cX7_init 91 = .ok (.aastore, 1)) ∧ (decode cX7_init 92 = .ok (.iinc 1 1, 3)) ∧ (decode cX7_init 95 = .ok (.goto (-21), 3)) := by decide +kernel
theorem dX7_init_68 : decode cX7_init 68 = .ok (.lconst 1, 1) := bX7_init_68.1
theorem dX7_init_69 : decode cX7_init 69 = .ok (.putfield 48, 3) := bX7_init_68.2.1
theorem dX7_init_72 : decode cX7_init 72 = .ok (.iconst 0, 1) := bX7_init_68.2.2.1
theorem dX7_init_73 : decode cX7_init 73 = .ok (.istore_n 1, 1) := bX7_init_68.2.2.2.1
theorem dX7_init_74 : decode cX7_init 74 = .ok (.iload_n 1, 1) := bX7_init_68.2.2.2.2.1
theorem dX7_init_75 : decode cX7_init 75 = .ok (.iconst 2, 1) := bX7_init_68.2.2.2.2.2.1
theorem dX7_init_76 : decode cX7_init 76 = .ok (.if_icmp .ge 22, 3) := bX7_init_68.2.2.2.2.2.2.1
theorem dX7_init_79 : decode cX7_init 79 = .ok (.aload_n 0, 1) := bX7_init_68.2.2.2.2.2.2.2.1
theorem dX7_init_80 : decode cX7_init 80 = .ok (.getfield 23, 3) := bX7_init_68.2.2.2.2.2.2.2.2.1
theorem dX7_init_83 : decode cX7_init 83 = .ok (.iload_n 1, 1) := bX7_init_68.2.2.2.2.2.2.2.2.2.1
theorem dX7_init_84 : decode cX7_init 84 = .ok (.new 9, 3) := bX7_init_68.2.2.2.2.2.2.2.2.2.2.1
theorem dX7_init_87 : decode cX7_init 87 = .ok (.dup, 1) := bX7_init_68.2.2.2.2.2.2.2.2.2.2.2.1
theorem dX7_init_88 : decode cX7_init 88 = .ok (.invokespecial 11, 3) := bX7_init_68.2.2.2.2.2.2.2.2.2.2.2.2.1
theorem dX7_init_91 : decode cX7_init 91 = .ok (.aastore, 1) := bX7_init_68.2.2.2.2.2.2.2.2.2.2.2.2.2.1
theorem dX7_init_92 : decode cX7_init 92 = .ok (.iinc 1 1, 3) := bX7_init_68.2.2.2.2.2.2.2.2.2.2.2.2.2.2.1
theorem dX7_init_95 : decode cX7_init 95 = .ok (.goto (-21), 3) := bX7_init_68.2.2.2.2.2.2.2.2.2.2.2.2.2.2.2
theorem dX7_init_98 : decode cX7_init 98 = .ok (.return_, 1) := by decide +kernel
theorem bX7_people_0 : (decode cX7_people 0 = .ok (.aload_n 0, 1)) ∧ (decode cX7_people 1 = .ok (.getfield 12, 3)) ∧ (decode cX7_people 4 = .ok (.getfield 52, 3)) ∧ (decode cX7_people 7 = .ok (.istore_n 1, 1)) ∧ (decode cX7_people 8 = .ok (.aload_n 0, 1)) ∧ (decode cX7_people 9 = .ok (.getfield 12, 3)) ∧ (decode cX7_people 12 = .ok (.invokevirtual 56, 3)) ∧ (decode cX7_people 15 = .ok (.iload_n 1, 1)) ∧ (decode cX7_people 16 = .ok (.ireturn, 1)) := by decide +kernel
theorem dX7_people_0 : decode cX7_people 0 = .ok (.aload_n 0, 1) := bX7_people_0.1
theorem dX7_people_1 : decode cX7_people 1 = .ok (.getfield 12, 3) := bX7_people_0.2.1
theorem dX7_people_4 : decode cX7_people 4 = .ok (.getfield 52, 3) := bX7_people_0.2.2.1
theorem dX7_people_7 : decode cX7_people 7 = .ok (.istore_n 1, 1) := bX7_people_0.2.2.2.1
theorem dX7_people_8 : decode cX7_people 8 = .ok (.aload_n 0, 1) := bX7_people_0.2.2.2.2.1
theorem dX7_people_9 : decode cX7_people 9 = .ok (.getfield 12, 3) := bX7_people_0.2.2.2.2.2.1
theorem dX7_people_12 : decode cX7_people 12 = .ok (.invokevirtual 56, 3) := bX7_people_0.2.2.2.2.2.2.1
theorem dX7_people_15 : decode cX7_people 15 = .ok (.iload_n 1, 1) := bX7_people_0.2.2.2.2.2.2.2.1
theorem dX7_people_16 : decode cX7_people 16 = .ok (.ireturn, 1) := bX7_people_0.2.2.2.2.2.2.2.2
theorem bX7_thing_0 : (decode cX7_thing 0 = .ok (.iload_n 1, 1)) ∧ (decode cX7_thing 1 = .ok (.iconst 0, 1)) ∧ (decode cX7_thing 2 = .ok (.iconst 5, 1)) ∧ (decode cX7_thing 3 = .ok (.invokestatic 59, 3)) ∧ (decode cX7_thing 6 = .ok (.ifCond .eq 13, 3)) ∧ (decode cX7_thing 9 = .ok (.iload_n 2, 1)) ∧ (decode cX7_thing 10 = .ok (.iconst 1, 1)) ∧ (decode cX7_thing 11 = .ok (.bipush 30, 2)) ∧ (decode cX7_thing 13 = .ok (.invokestatic 59, 3)) ∧ (decode cX7_thing 16 = .ok (.ifCond .ne 8, 3)) ∧ (decode cX7_thing 19 = .ok (.aload_n 0, 1)) ∧ (decode cX7_thing 20 = .ok (.invokevirtual 63, 3)) ∧ (decode cX7_thing 23 = .ok (.ireturn, 1)) ∧ (decode cX7_thing 24 = .ok (.aload_n 0, 1)) ∧ (decode cX7_thing 25 = .ok (.getfield 12, 3)) ∧ (decode cX7_thing 28 = .ok (.getfield 67, 3)) := by decide +kernel
theorem dX7_thing_0 : decode cX7_thing 0 = .ok (.iload_n 1, 1) := bX7_thing_0.1
theorem dX7_thing_1 : decode cX7_thing 1 = .ok (.iconst 0, 1) := bX7_thing_0.2.1
theorem dX7_thing_2 : decode cX7_thing 2 = .ok (.iconst 5, 1) := bX7_thing_0.2.2.1
theorem dX7_thing_3 : decode cX7_thing 3 = .ok (.invokestatic 59, 3) := bX7_thing_0.2.2.2.1
theorem dX7_thing_6 : decode cX7_thing 6 = .ok (.ifCond .eq 13, 3) := bX7_thing_0.2.2.2.2.1
theorem dX7_thing_9 : decode cX7_thing 9 = .ok (.iload_n 2, 1) := bX7_thing_0.2.2.2.2.2.1
theorem dX7_thing_10 : decode cX7_thing 10 = .ok (.iconst 1, 1) := bX7_thing_0.2.2.2.2.2.2.1
theorem dX7_thing_11 : decode cX7_thing 11 = .ok (.bipush 30, 2) := bX7_thing_0.2.2.2.2.2.2.2.1
theorem dX7_thing_13 : decode cX7_thing 13 = .ok (.invokestatic 59, 3) := bX7_thing_0.2.2.2.2.2.2.2.2.1
theorem dX7_thing_16 : decode cX7_thing 16 = .ok (.ifCond .ne 8, 3) := bX7_thing_0.2.2.2.2.2.2.2.2.2.1
theorem dX7_thing_19 : decode cX7_thing 19 = .ok (.aload_n 0, 1) := bX7_thing_0.2.2.2.2.2.2.2.2.2.2.1
theorem dX7_thing_20 : decode cX7_thing 20 = .ok (.invokevirtual 63, 3) := bX7_thing_0.2.2.2.2.2.2.2.2.2.2.2.1
theorem dX7_thing_23 : decode cX7_thing 23 = .ok (.ireturn, 1) := bX7_thing_0.2.2.2.2.2.2.2.2.2.2.2.2.1
theorem dX7_thing_24 : decode cX7_thing 24 = .ok (.aload_n 0, 1) := bX7_thing_0.2.2.2.2.2.2.2.2.2.2.2.2.2.1
theorem dX7_thing_25 : decode cX7_thing 25 = .ok (.getfield 12, 3) := bX7_thing_0.2.2.2.2.2.2.2.2.2.2.2.2.2.2.1
theorem dX7_thing_28 : decode cX7_thing 28 = .ok (.getfield 67, 3) := bX7_thing_0.2.2.2.2.2.2.2.2.2.2.2.2.2.2.2
theorem bX7_thing_31 : (decode cX7_thing 31 = .ok (.bipush 7, 2)) ∧ (decode cX7_thing 33 = .ok (.if_icmp .lt 8, 3)) ∧ (decode cX7_thing 36 = .ok (.aload_n 0, 1)) ∧ (decode cX7_thing 37 = .ok (.invokevirtual 70, 3)) ∧ (decode cX7_thing 40 = .ok (.ireturn, 1)) ∧ (decode cX7_thing 41 = .ok (.aload_n 0, 1)) ∧ (decode cX7_thing 42 = .ok (.getfield 12, 3)) ∧ (decode cX7_thing 45 = .ok (.iload_n 1, 1)) ∧ (decode cX7_thing 46 = .ok (.iload_n 2, 1)) ∧ (decode cX7_thing 47 = .ok (.invokevirtual 73, 3)) ∧ (decode cX7_thing 50 = .ok (.ireturn, 1)) := by decide +kernel
theorem dX7_thing_31 : decode cX7_thing 31 = .ok (.bipush 7, 2) := bX7_thing_31.1
theorem dX7_thing_33 : decode cX7_thing 33 = .ok (.if_icmp .lt 8, 3) := bX7_thing_31.2.1
theorem dX7_thing_36 : decode cX7_thing 36 = .ok (.aload_n 0, 1) := bX7_thing_31.2.2.1
theorem dX7_thing_37 : decode cX7_thing 37 = .ok (.invokevirtual 70, 3) := bX7_thing_31.2.2.2.1
theorem dX7_thing_40 : decode cX7_thing 40 = .ok (.ireturn, 1) := bX7_thing_31.2.2.2.2.1
theorem dX7_thing_41 : decode cX7_thing 41 = .ok (.aload_n 0, 1) := bX7_thing_31.2.2.2.2.2.1
theorem dX7_thing_42 : decode cX7_thing 42 = .ok (.getfield 12, 3) := bX7_thing_31.2.2.2.2.2.2.1
theorem dX7_thing_45 : decode cX7_thing 45 = .ok (.iload_n 1, 1) := bX7_thing_31.2.2.2.2.2.2.2.1
theorem dX7_thing_46 : decode cX7_thing 46 = .ok (.iload_n 2, 1) := bX7_thing_31.2.2.2.2.2.2.2.2.1
theorem dX7_thing_47 : decode cX7_thing 47 = .ok (.invokevirtual 73, 3) := bX7_thing_31.2.2.2.2.2.2.2.2.2.1
theorem dX7_thing_50 : decode cX7_thing 50 = .ok (.ireturn, 1) := bX7_thing_31.2.2.2.2.2.2.2.2.2.2
theorem bX7_one_0 : (decode cX7_one 0 = .ok (.iload_n 1, 1)) ∧ (decode cX7_one 1 = .ok (.iconst 0, 1)) ∧ (decode cX7_one 2 = .ok (.iconst 5, 1)) ∧ (decode cX7_one 3 = .ok (.invokestatic 59, 3)) ∧ (decode cX7_one 6 = .ok (.ifCond .eq 23, 3)) ∧ (decode cX7_one 9 = .ok (.iload_n 2, 1)) ∧ (decode cX7_one 10 = .ok (.iconst 1, 1)) ∧ (decode cX7_one 11 = .ok (.bipush 9, 2)) ∧ (decode cX7_one 13 = .ok (.invokestatic 59, 3)) ∧ (decode cX7_one 16 = .ok (.ifCond .eq 13, 3)) ∧ (decode cX7_one 19 = .ok (.iload_n 3, 1)) ∧ (decode cX7_one 20 = .ok (.iconst 0, 1)) ∧ (decode cX7_one 21 = .ok (.bipush 99, 2)) ∧ (decode cX7_one 23 = .ok (.invokestatic 59, 3)) ∧ (decode cX7_one 26 = .ok (.ifCond .ne 8, 3)) ∧ (decode cX7_one 29 = .ok (.aload_n 0, 1)) := by decide +kernel
theorem dX7_one_0 : decode cX7_one 0 = .ok (.iload_n 1, 1) := bX7_one_0.1
theorem dX7_one_1 : decode cX7_one 1 = .ok (.iconst 0, 1) := bX7_one_0.2.1
theorem dX7_one_2 : decode cX7_one 2 = .ok (.iconst 5, 1) := bX7_one_0.2.2.1
theorem dX7_one_3 : decode cX7_one 3 = .ok (.invokestatic 59, 3) := bX7_one_0.2.2.2.1
theorem dX7_one_6 : decode cX7_one 6 = .ok (.ifCond .eq 23, 3) := bX7_one_0.2.2.2.2.1
theorem dX7_one_9 : decode cX7_one 9 = .ok (.iload_n 2, 1) := bX7_one_0.2.2.2.2.2.1
theorem dX7_one_10 : decode cX7_one 10 = .ok (.iconst 1, 1) := bX7_one_0.2.2.2.2.2.2.1
theorem dX7_one_11 : decode cX7_one 11 = .ok (.bipush 9, 2) := bX7_one_0.2.2.2.2.2.2.2.1
theorem dX7_one_13 : decode cX7_one 13 = .ok (.invokestatic 59, 3) := bX7_one_0.2.2.2.2.2.2.2.2.1
theorem dX7_one_16 : decode cX7_one 16 = .ok (.ifCond .eq 13, 3) := bX7_one_0.2.2.2.2.2.2.2.2.2.1
theorem dX7_one_19 : decode cX7_one 19 = .ok (.iload_n 3, 1) := bX7_one_0.2.2.2.2.2.2.2.2.2.2.1
theorem dX7_one_20 : decode cX7_one 20 = .ok (.iconst 0, 1) := bX7_one_0.2.2.2.2.2.2.2.2.2.2.2.1
theorem dX7_one_21 : decode cX7_one 21 = .ok (.bipush 99, 2) := bX7_one_0.2.2.2.2.2.2.2.2.2.2.2.2.1
theorem dX7_one_23 : decode cX7_one 23 = .ok (.invokestatic 59, 3) := bX7_one_0.2.2.2.2.2.2.2.2.2.2.2.2.2.1
theorem dX7_one_26 : decode cX7_one 26 = .ok (.ifCond .ne 8, 3) := bX7_one_0.2.2.2.2.2.2.2.2.2.2.2.2.2.2.1
theorem dX7_one_29 : decode cX7_one 29 = .ok (.aload_n 0, 1) := bX7_one_0.2.2.2.2.2.2.2.2.2.2.2.2.2.2.2
theorem bX7_one_30 : (decode cX7_one 30 = .ok (.invokevirtual 63, 3)) ∧ (decode cX7_one 33 = .ok (.ireturn, 1)) ∧ (decode cX7_one 34 = .ok (.aload_n 0, 1)) ∧ (decode cX7_one 35 = .ok (.getfield 12, 3)) ∧ (decode cX7_one 38 = .ok (.getfield 52, 3)) ∧ (decode cX7_one 41 = .ok (.bipush 7, 2)) ∧ (decode cX7_one 43 = .ok (.if_icmp .lt 8, 3)) ∧ (decode cX7_one 46 = .ok (.aload_n 0, 1)) ∧ (decode cX7_one 47 = .ok (.invokevirtual 70, 3)) ∧ (decode cX7_one 50 = .ok (.ireturn, 1)) ∧ (decode cX7_one 51 = .ok (.aload_n 0, 1)) ∧ (decode cX7_one 52 = .ok (.getfield 12, 3)) ∧ (decode cX7_one 55 = .ok (.iload_n 1, 1)) ∧ (decode cX7_one 56 = .ok (.iload_n 2, 1)) ∧ (decode cX7_one 57 = .ok (.iload_n 3, 1)) ∧ (decode cX7_one 58 = .ok (.invokevirtual 77, 3)) := by decide +kernel
theorem dX7_one_30 : decode cX7_one 30 = .ok (.invokevirtual 63, 3) := bX7_one_30.1
theorem dX7_one_33 : decode cX7_one 33 = .ok (.ireturn, 1) := bX7_one_30.2.1
theorem dX7_one_34 : decode cX7_one 34 = .ok (.aload_n 0, 1) := bX7_one_30.2.2.1
theorem dX7_one_35 : decode cX7_one 35 = .ok (.getfield 12, 3) := bX7_one_30.2.2.2.1
theorem dX7_one_38 : decode cX7_one 38 = .ok (.getfield 52, 3) := bX7_one_30.2.2.2.2.1
theorem dX7_one_41 : decode cX7_one 41 = .ok (.bipush 7, 2) := bX7_one_30.2.2.2.2.2.1
theorem dX7_one_43 : decode cX7_one 43 = .ok (.if_icmp .lt 8, 3) := bX7_one_30.2.2.2.2.2.2.1
theorem dX7_one_46 : decode cX7_one 46 = .ok (.aload_n 0, 1) := bX7_one_30.2.2.2.2.2.2.2.1
theorem dX7_one_47 : decode cX7_one 47 = .ok (.invokevirtual 70, 3) := bX7_one_30.2.2.2.2.2.2.2.2.1
theorem dX7_one_50 : decode cX7_one 50 = .ok (.ireturn, 1) := bX7_one_30.2.2.2.2.2.2.2.2.2.1
theorem dX7_one_51 : decode cX7_one 51 = .ok (.aload_n 0, 1) := bX7_one_30.2.2.2.2.2.2.2.2.2.2.1
theorem dX7_one_52 : decode cX7_one 52 = .ok (.getfield 12, 3) := bX7_one_30.2.2.2.2.2.2.2.2.2.2.2.1
theorem dX7_one_55 : decode cX7_one 55 = .ok (.iload_n 1, 1) := bX7_one_30.2.2.2.2.2.2.2.2.2.2.2.2.1
theorem dX7_one_56 : decode cX7_one 56 = .ok (.iload_n 2, 1) := bX7_one_30.2.2.2.2.2.2.2.2.2.2.2.2.2.1
theorem dX7_one_57 : decode cX7_one 57 = .ok (.iload_n 3, 1) := bX7_one_30.2.2.2.2.2.2.2.2.2.2.2.2.2.2.1
theorem dX7_one_58 : decode cX7_one 58 = .ok (.invokevirtual 77, 3) := bX7_one_30.2.2.2.2.2.2.2.2.2.2.2.2.2.2.2
theorem dX7_one_61 : decode cX7_one 61 = .ok (.ireturn, 1) := by decide +kernel
theorem bX7_type_0 : (decode cX7_type 0 = .ok (.iload_n 1, 1)) ∧ (decode cX7_type 1 = .ok (.iconst 0, 1)) ∧ (decode cX7_type 2 = .ok (.bipush 127, 2)) ∧ (decode cX7_type 4 = .ok (.invokestatic 59, 3)) ∧ (decode cX7_type 7 = .ok (.ifCond .ne 8, 3)) ∧ (decode cX7_type 10 = .ok (.aload_n 0, 1)) ∧ (decode cX7_type 11 = .ok (.invokevirtual 63, 3)) ∧ (decode cX7_type 14 = .ok (.ireturn, 1)) ∧ (decode cX7_type 15 = .ok (.aload_n 0, 1)) ∧ (decode cX7_type 16 = .ok (.getfield 19, 3)) ∧ (decode cX7_type 19 = .ok (.getfield 81, 3)) ∧ (decode cX7_type 22 = .ok (.sipush 150, 3)) ∧ (decode cX7_type 25 = .ok (.if_icmp .lt 8, 3)) ∧ (decode cX7_type 28 = .ok (.aload_n 0, 1)) ∧ (decode cX7_type 29 = .ok (.invokevirtual 70, 3)) ∧ (decode cX7_type 32 = .ok (.ireturn, 1)) := by decide +kernel
theorem dX7_type_0 : decode cX7_type 0 = .ok (.iload_n 1, 1) := bX7_type_0.1
theorem dX7_type_1 : decode cX7_type 1 = .ok (.iconst 0, 1) := bX7_type_0.2.1
theorem dX7_type_2 : decode cX7_type 2 = .ok (.bipush 127, 2) := bX7_type_0.2.2.1
theorem dX7_type_4 : decode cX7_type 4 = .ok (.invokestatic 59, 3) := bX7_type_0.2.2.2.1
theorem dX7_type_7 : decode cX7_type 7 = .ok (.ifCond .ne 8, 3) := bX7_type_0.2.2.2.2.1
theorem dX7_type_10 : decode cX7_type 10 = .ok (.aload_n 0, 1) := bX7_type_0.2.2.2.2.2.1
theorem dX7_type_11 : decode cX7_type 11 = .ok (.invokevirtual 63, 3) := bX7_type_0.2.2.2.2.2.2.1
theorem dX7_type_14 : decode cX7_type 14 = .ok (.ireturn, 1) := bX7_type_0.2.2.2.2.2.2.2.1
theorem dX7_type_15 : decode cX7_type 15 = .ok (.aload_n 0, 1) := bX7_type_0.2.2.2.2.2.2.2.2.1
theorem dX7_type_16 : decode cX7_type 16 = .ok (.getfield 19, 3) := bX7_type_0.2.2.2.2.2.2.2.2.2.1
theorem dX7_type_19 : decode cX7_type 19 = .ok (.getfield 81, 3) := bX7_type_0.2.2.2.2.2.2.2.2.2.2.1
theorem dX7_type_22 : decode cX7_type 22 = .ok (.sipush 150, 3) := bX7_type_0.2.2.2.2.2.2.2.2.2.2.2.1
theorem dX7_type_25 : decode cX7_type 25 = .ok (.if_icmp .lt 8, 3) := bX7_type_0.2.2.2.2.2.2.2.2.2.2.2.2.1
theorem dX7_type_28 : decode cX7_type 28 = .ok (.aload_n 0, 1) := bX7_type_0.2.2.2.2.2.2.2.2.2.2.2.2.2.1
theorem dX7_type_29 : decode cX7_type 29 = .ok (.invokevirtual 70, 3) := bX7_type_0.2.2.2.2.2.2.2.2.2.2.2.2.2.2.1
theorem dX7_type_32 : decode cX7_type 32 = .ok (.ireturn, 1) := bX7_type_0.2.2.2.2.2.2.2.2.2.2.2.2.2.2.2
theorem bX7_type_33 : (decode cX7_type 33 = .ok (.aload_n 0, 1)) ∧ (decode cX7_type 34 = .ok (.getfield 19, 3)) ∧ (decode cX7_type 37 = .ok (.iload_n 1, 1)) ∧ (decode cX7_type 38 = .ok (.invokevirtual 84, 3)) ∧ (decode cX7_type 41 = .ok (.ireturn, 1)) := by decide +kernel
theorem dX7_type_33 : decode cX7_type 33 = .ok (.aload_n 0, 1) := bX7_type_33.1
theorem dX7_type_34 : decode cX7_type 34 = .ok (.getfield 19, 3) := bX7_type_33.2.1
theorem dX7_type_37 : decode cX7_type 37 = .ok (.iload_n 1, 1) := bX7_type_33.2.2.1
theorem dX7_type_38 : decode cX7_type 38 = .ok (.invokevirtual 84, 3) := bX7_type_33.2.2.2.1
theorem dX7_type_41 : decode cX7_type 41 = .ok (.ireturn, 1) := bX7_type_33.2.2.2.2
theorem bX7_clear_0 : (decode cX7_clear 0 = .ok (.aload_n 0, 1)) ∧ (decode cX7_clear 1 = .ok (.getfield 19, 3)) ∧ (decode cX7_clear 4 = .ok (.getfield 81, 3)) ∧ (decode cX7_clear 7 = .ok (.istore_n 1, 1)) ∧ (decode cX7_clear 8 = .ok (.aload_n 0, 1)) ∧ (decode cX7_clear 9 = .ok (.getfield 19, 3)) ∧ (decode cX7_clear 12 = .ok (.iconst 0, 1)) ∧ (decode cX7_clear 13 = .ok (.putfield 81, 3)) ∧ (decode cX7_clear 16 = .ok (.iload_n 1, 1)) ∧ (decode cX7_clear 17 = .ok (.ireturn, 1)) := by decide +kernel
theorem dX7_clear_0 : decode cX7_clear 0 = .ok (.aload_n 0, 1) := bX7_clear_0.1
theorem dX7_clear_1 : decode cX7_clear 1 = .ok (.getfield 19, 3) := bX7_clear_0.2.1
theorem dX7_clear_4 : decode cX7_clear 4 = .ok (.getfield 81, 3) := bX7_clear_0.2.2.1
theorem dX7_clear_7 : decode cX7_clear 7 = .ok (.istore_n 1, 1) := bX7_clear_0.2.2.2.1
theorem dX7_clear_8 : decode cX7_clear 8 = .ok (.aload_n 0, 1) := bX7_clear_0.2.2.2.2.1
theorem dX7_clear_9 : decode cX7_clear 9 = .ok (.getfield 19, 3) := bX7_clear_0.2.2.2.2.2.1
theorem dX7_clear_12 : decode cX7_clear 12 = .ok (.iconst 0, 1) := bX7_clear_0.2.2.2.2.2.2.1
theorem dX7_clear_13 : decode cX7_clear 13 = .ok (.putfield 81, 3) := bX7_clear_0.2.2.2.2.2.2.2.1
theorem dX7_clear_16 : decode cX7_clear 16 = .ok (.iload_n 1, 1) := bX7_clear_0.2.2.2.2.2.2.2.2.1
theorem dX7_clear_17 : decode cX7_clear 17 = .ok (.ireturn, 1) := bX7_clear_0.2.2.2.2.2.2.2.2.2
theorem bX7_read_0 : (decode cX7_read 0 = .ok (.aload_n 0, 1)) ∧ (decode cX7_read 1 = .ok (.getfield 19, 3)) ∧ (decode cX7_read 4 = .ok (.invokevirtual 88, 3)) ∧ (decode cX7_read 7 = .ok (.istore_n 1, 1)) ∧ (decode cX7_read 8 = .ok (.iload_n 1, 1)) ∧ (decode cX7_read 9 = .ok (.ifCond .lt 17, 3)) ∧ (decode cX7_read 12 = .ok (.aload_n 0, 1)) ∧ (decode cX7_read 13 = .ok (.getfield 12, 3)) ∧ (decode cX7_read 16 = .ok (.aload_n 0, 1)) ∧ (decode cX7_read 17 = .ok (.getfield 19, 3)) ∧ (decode cX7_read 20 = .ok (.getfield 91, 3)) ∧ (decode cX7_read 23 = .ok (.invokevirtual 94, 3)) ∧ (decode cX7_read 26 = .ok (.iload_n 1, 1)) ∧ (decode cX7_read 27 = .ok (.ireturn, 1)) := by decide +kernel
theorem dX7_read_0 : decode cX7_read 0 = .ok (.aload_n 0, 1) := bX7_read_0.1
theorem dX7_read_1 : decode cX7_read 1 = .ok (.getfield 19, 3) := bX7_read_0.2.1
theorem dX7_read_4 : decode cX7_read 4 = .ok (.invokevirtual 88, 3) := bX7_read_0.2.2.1
theorem dX7_read_7 : decode cX7_read 7 = .ok (.istore_n 1, 1) := bX7_read_0.2.2.2.1
theorem dX7_read_8 : decode cX7_read 8 = .ok (.iload_n 1, 1) := bX7_read_0.2.2.2.2.1
theorem dX7_read_9 : decode cX7_read 9 = .ok (.ifCond .lt 17, 3) := bX7_read_0.2.2.2.2.2.1
theorem dX7_read_12 : decode cX7_read 12 = .ok (.aload_n 0, 1) := bX7_read_0.2.2.2.2.2.2.1
theorem dX7_read_13 : decode cX7_read 13 = .ok (.getfield 12, 3) := bX7_read_0.2.2.2.2.2.2.2.1
theorem dX7_read_16 : decode cX7_read 16 = .ok (.aload_n 0, 1) := bX7_read_0.2.2.2.2.2.2.2.2.1
theorem dX7_read_17 : decode cX7_read 17 = .ok (.getfield 19, 3) := bX7_read_0.2.2.2.2.2.2.2.2.2.1
theorem dX7_read_20 : decode cX7_read 20 = .ok (.getfield 91, 3) := bX7_read_0.2.2.2.2.2.2.2.2.2.2.1
theorem dX7_read_23 : decode cX7_read 23 = .ok (.invokevirtual 94, 3) := bX7_read_0.2.2.2.2.2.2.2.2.2.2.2.1
theorem dX7_read_26 : decode cX7_read 26 = .ok (.iload_n 1, 1) := bX7_read_0.2.2.2.2.2.2.2.2.2.2.2.2.1
theorem dX7_read_27 : decode cX7_read 27 = .ok (.ireturn, 1) := bX7_read_0.2.2.2.2.2.2.2.2.2.2.2.2.2
theorem bX7_owns_0 : (decode cX7_owns 0 = .ok (.aload_n 0, 1)) ∧ (decode cX7_owns 1 = .ok (.getfield 12, 3)) ∧ (decode cX7_owns 4 = .ok (.iload_n 1, 1)) ∧ (decode cX7_owns 5 = .ok (.invokevirtual 98, 3)) ∧ (decode cX7_owns 8 = .ok (.ifCond .eq 14, 3)) ∧ (decode cX7_owns 11 = .ok (.aload_n 0, 1)) ∧ (decode cX7_owns 12 = .ok (.getfield 12, 3)) ∧ (decode cX7_owns 15 = .ok (.iload_n 2, 1)) ∧ (decode cX7_owns 16 = .ok (.invokevirtual 102, 3)) ∧ (decode cX7_owns 19 = .ok (.ifCond .ne 8, 3)) ∧ (decode cX7_owns 22 = .ok (.aload_n 0, 1)) ∧ (decode cX7_owns 23 = .ok (.invokevirtual 63, 3)) ∧ (decode cX7_owns 26 = .ok (.ireturn, 1)) ∧ (decode cX7_owns 27 = .ok (.aload_n 0, 1)) ∧ (decode cX7_owns 28 = .ok (.getfield 12, 3)) ∧ (decode cX7_owns 31 = .ok (.iload_n 1, 1)) := by decide +kernel
theorem dX7_owns_0 : decode cX7_owns 0 = .ok (.aload_n 0, 1) := bX7_owns_0.1
theorem dX7_owns_1 : decode cX7_owns 1 = .ok (.getfield 12, 3) := bX7_owns_0.2.1
theorem dX7_owns_4 : decode cX7_owns 4 = .ok (.iload_n 1, 1) := bX7_owns_0.2.2.1
theorem dX7_owns_5 : decode cX7_owns 5 = .ok (.invokevirtual 98, 3) := bX7_owns_0.2.2.2.1
theorem dX7_owns_8 : decode cX7_owns 8 = .ok (.ifCond .eq 14, 3) := bX7_owns_0.2.2.2.2.1
theorem dX7_owns_11 : decode cX7_owns 11 = .ok (.aload_n 0, 1) := bX7_owns_0.2.2.2.2.2.1
theorem dX7_owns_12 : decode cX7_owns 12 = .ok (.getfield 12, 3) := bX7_owns_0.2.2.2.2.2.2.1
theorem dX7_owns_15 : decode cX7_owns 15 = .ok (.iload_n 2, 1) := bX7_owns_0.2.2.2.2.2.2.2.1
theorem dX7_owns_16 : decode cX7_owns 16 = .ok (.invokevirtual 102, 3) := bX7_owns_0.2.2.2.2.2.2.2.2.1
theorem dX7_owns_19 : decode cX7_owns 19 = .ok (.ifCond .ne 8, 3) := bX7_owns_0.2.2.2.2.2.2.2.2.2.1
theorem dX7_owns_22 : decode cX7_owns 22 = .ok (.aload_n 0, 1) := bX7_owns_0.2.2.2.2.2.2.2.2.2.2.1
theorem dX7_owns_23 : decode cX7_owns 23 = .ok (.invokevirtual 63, 3) := bX7_owns_0.2.2.2.2.2.2.2.2.2.2.2.1
theorem dX7_owns_26 : decode cX7_owns 26 = .ok (.ireturn, 1) := bX7_owns_0.2.2.2.2.2.2.2.2.2.2.2.2.1
theorem dX7_owns_27 : decode cX7_owns 27 = .ok (.aload_n 0, 1) := bX7_owns_0.2.2.2.2.2.2.2.2.2.2.2.2.2.1
theorem dX7_owns_28 : decode cX7_owns 28 = .ok (.getfield 12, 3) := bX7_owns_0.2.2.2.2.2.2.2.2.2.2.2.2.2.2.1
theorem dX7_owns_31 : decode cX7_owns 31 = .ok (.iload_n 1, 1) := bX7_owns_0.2.2.2.2.2.2.2.2.2.2.2.2.2.2.2
theorem bX7_owns_32 : (decode cX7_owns 32 = .ok (.invokevirtual 105, 3)) ∧ (decode cX7_owns 35 = .ok (.ifCond .eq 15, 3)) ∧ (decode cX7_owns 38 = .ok (.aload_n 0, 1)) ∧ (decode cX7_owns 39 = .ok (.getfield 12, 3)) ∧ (decode cX7_owns 42 = .ok (.iload_n 2, 1)) ∧ (decode cX7_owns 43 = .ok (.invokevirtual 108, 3)) ∧ (decode cX7_owns 46 = .ok (.iconst (-1), 1)) ∧ (decode cX7_owns 47 = .ok (.if_icmp .eq 8, 3)) ∧ (decode cX7_owns 50 = .ok (.aload_n 0, 1)) ∧ (decode cX7_owns 51 = .ok (.invokevirtual 111, 3)) ∧ (decode cX7_owns 54 = .ok (.ireturn, 1)) ∧ (decode cX7_owns 55 = .ok (.aload_n 0, 1)) ∧ (decode cX7_owns 56 = .ok (.getfield 12, 3)) ∧ (decode cX7_owns 59 = .ok (.invokevirtual 114, 3)) ∧ (decode cX7_owns 62 = .ok (.aload_n 0, 1)) ∧ (decode cX7_owns 63 = .ok (.getfield 12, 3)) := by decide +kernel
theorem dX7_owns_32 : decode cX7_owns 32 = .ok (.invokevirtual 105, 3) := bX7_owns_32.1
theorem dX7_owns_35 : decode cX7_owns 35 = .ok (.ifCond .eq 15, 3) := bX7_owns_32.2.1
theorem dX7_owns_38 : decode cX7_owns 38 = .ok (.aload_n 0, 1) := bX7_owns_32.2.2.1
theorem dX7_owns_39 : decode cX7_owns 39 = .ok (.getfield 12, 3) := bX7_owns_32.2.2.2.1
theorem dX7_owns_42 : decode cX7_owns 42 = .ok (.iload_n 2, 1) := bX7_owns_32.2.2.2.2.1
theorem dX7_owns_43 : decode cX7_owns 43 = .ok (.invokevirtual 108, 3) := bX7_owns_32.2.2.2.2.2.1
theorem dX7_owns_46 : decode cX7_owns 46 = .ok (.iconst (-1), 1) := bX7_owns_32.2.2.2.2.2.2.1
theorem dX7_owns_47 : decode cX7_owns 47 = .ok (.if_icmp .eq 8, 3) := bX7_owns_32.2.2.2.2.2.2.2.1
theorem dX7_owns_50 : decode cX7_owns 50 = .ok (.aload_n 0, 1) := bX7_owns_32.2.2.2.2.2.2.2.2.1
theorem dX7_owns_51 : decode cX7_owns 51 = .ok (.invokevirtual 111, 3) := bX7_owns_32.2.2.2.2.2.2.2.2.2.1
theorem dX7_owns_54 : decode cX7_owns 54 = .ok (.ireturn, 1) := bX7_owns_32.2.2.2.2.2.2.2.2.2.2.1
theorem dX7_owns_55 : decode cX7_owns 55 = .ok (.aload_n 0, 1) := bX7_owns_32.2.2.2.2.2.2.2.2.2.2.2.1
theorem dX7_owns_56 : decode cX7_owns 56 = .ok (.getfield 12, 3) := bX7_owns_32.2.2.2.2.2.2.2.2.2.2.2.2.1
theorem dX7_owns_59 : decode cX7_owns 59 = .ok (.invokevirtual 114, 3) := bX7_owns_32.2.2.2.2.2.2.2.2.2.2.2.2.2.1
theorem dX7_owns_62 : decode cX7_owns 62 = .ok (.aload_n 0, 1) := bX7_owns_32.2.2.2.2.2.2.2.2.2.2.2.2.2.2.1
theorem dX7_owns_63 : decode cX7_owns 63 = .ok (.getfield 12, 3) := bX7_owns_32.2.2.2.2.2.2.2.2.2.2.2.2.2.2.2
theorem bX7_owns_66 : (decode cX7_owns 66 = .ok (.getfield 117, 3)) ∧ (decode cX7_owns 69 = .ok (.getfield 120, 3)) ∧ (decode cX7_owns 72 = .ok (.iload_n 1, 1)) ∧ (decode cX7_owns 73 = .ok (.iload_n 2, 1)) ∧ (decode cX7_owns 74 = .ok (.iastore, 1)) ∧ (decode cX7_owns 75 = .ok (.aload_n 0, 1)) ∧ (decode cX7_owns 76 = .ok (.getfield 12, 3)) ∧ (decode cX7_owns 79 = .ok (.iload_n 2, 1)) ∧ (decode cX7_owns 80 = .ok (.iload_n 1, 1)) ∧ (decode cX7_owns 81 = .ok (.iconst 1, 1)) ∧ (decode cX7_owns 82 = .ok (.invokevirtual 124, 3)) ∧ (decode cX7_owns 85 = .ok (.ireturn, 1)) := by decide +kernel
theorem dX7_owns_66 : decode cX7_owns 66 = .ok (.getfield 117, 3) := bX7_owns_66.1
theorem dX7_owns_69 : decode cX7_owns 69 = .ok (.getfield 120, 3) := bX7_owns_66.2.1
theorem dX7_owns_72 : decode cX7_owns 72 = .ok (.iload_n 1, 1) := bX7_owns_66.2.2.1
theorem dX7_owns_73 : decode cX7_owns 73 = .ok (.iload_n 2, 1) := bX7_owns_66.2.2.2.1
theorem dX7_owns_74 : decode cX7_owns 74 = .ok (.iastore, 1) := bX7_owns_66.2.2.2.2.1
theorem dX7_owns_75 : decode cX7_owns 75 = .ok (.aload_n 0, 1) := bX7_owns_66.2.2.2.2.2.1
theorem dX7_owns_76 : decode cX7_owns 76 = .ok (.getfield 12, 3) := bX7_owns_66.2.2.2.2.2.2.1
theorem dX7_owns_79 : decode cX7_owns 79 = .ok (.iload_n 2, 1) := bX7_owns_66.2.2.2.2.2.2.2.1
theorem dX7_owns_80 : decode cX7_owns 80 = .ok (.iload_n 1, 1) := bX7_owns_66.2.2.2.2.2.2.2.2.1
theorem dX7_owns_81 : decode cX7_owns 81 = .ok (.iconst 1, 1) := bX7_owns_66.2.2.2.2.2.2.2.2.2.1
theorem dX7_owns_82 : decode cX7_owns 82 = .ok (.invokevirtual 124, 3) := bX7_owns_66.2.2.2.2.2.2.2.2.2.2.1
theorem dX7_owns_85 : decode cX7_owns 85 = .ok (.ireturn, 1) := bX7_owns_66.2.2.2.2.2.2.2.2.2.2.2
theorem bX7_leaves_0 : (decode cX7_leaves 0 = .ok (.aload_n 0, 1)) ∧ (decode cX7_leaves 1 = .ok (.getfield 12, 3)) ∧ (decode cX7_leaves 4 = .ok (.iload_n 1, 1)) ∧ (decode cX7_leaves 5 = .ok (.invokevirtual 98, 3)) ∧ (decode cX7_leaves 8 = .ok (.ifCond .ne 8, 3)) ∧ (decode cX7_leaves 11 = .ok (.aload_n 0, 1)) ∧ (decode cX7_leaves 12 = .ok (.invokevirtual 63, 3)) ∧ (decode cX7_leaves 15 = .ok (.ireturn, 1)) ∧ (decode cX7_leaves 16 = .ok (.aload_n 0, 1)) ∧ (decode cX7_leaves 17 = .ok (.getfield 12, 3)) ∧ (decode cX7_leaves 20 = .ok (.getfield 117, 3)) ∧ (decode cX7_leaves 23 = .ok (.getfield 120, 3)) ∧ (decode cX7_leaves 26 = .ok (.iload_n 1, 1)) ∧ (decode cX7_leaves 27 = .ok (.iaload, 1)) ∧ (decode cX7_leaves 28 = .ok (.istore_n 2, 1)) ∧ (decode cX7_leaves 29 = .ok (.iload_n 2, 1)) := by decide +kernel
theorem dX7_leaves_0 : decode cX7_leaves 0 = .ok (.aload_n 0, 1) := bX7_leaves_0.1
theorem dX7_leaves_1 : decode cX7_leaves 1 = .ok (.getfield 12, 3) := bX7_leaves_0.2.1
theorem dX7_leaves_4 : decode cX7_leaves 4 = .ok (.iload_n 1, 1) := bX7_leaves_0.2.2.1
theorem dX7_leaves_5 : decode cX7_leaves 5 = .ok (.invokevirtual 98, 3) := bX7_leaves_0.2.2.2.1
theorem dX7_leaves_8 : decode cX7_leaves 8 = .ok (.ifCond .ne 8, 3) := bX7_leaves_0.2.2.2.2.1
theorem dX7_leaves_11 : decode cX7_leaves 11 = .ok (.aload_n 0, 1) := bX7_leaves_0.2.2.2.2.2.1
theorem dX7_leaves_12 : decode cX7_leaves 12 = .ok (.invokevirtual 63, 3) := bX7_leaves_0.2.2.2.2.2.2.1
theorem dX7_leaves_15 : decode cX7_leaves 15 = .ok (.ireturn, 1) := bX7_leaves_0.2.2.2.2.2.2.2.1
theorem dX7_leaves_16 : decode cX7_leaves 16 = .ok (.aload_n 0, 1) := bX7_leaves_0.2.2.2.2.2.2.2.2.1
theorem dX7_leaves_17 : decode cX7_leaves 17 = .ok (.getfield 12, 3) := bX7_leaves_0.2.2.2.2.2.2.2.2.2.1
theorem dX7_leaves_20 : decode cX7_leaves 20 = .ok (.getfield 117, 3) := bX7_leaves_0.2.2.2.2.2.2.2.2.2.2.1
theorem dX7_leaves_23 : decode cX7_leaves 23 = .ok (.getfield 120, 3) := bX7_leaves_0.2.2.2.2.2.2.2.2.2.2.2.1
theorem dX7_leaves_26 : decode cX7_leaves 26 = .ok (.iload_n 1, 1) := bX7_leaves_0.2.2.2.2.2.2.2.2.2.2.2.2.1
theorem dX7_leaves_27 : decode cX7_leaves 27 = .ok (.iaload, 1) := bX7_leaves_0.2.2.2.2.2.2.2.2.2.2.2.2.2.1
theorem dX7_leaves_28 : decode cX7_leaves 28 = .ok (.istore_n 2, 1) := bX7_leaves_0.2.2.2.2.2.2.2.2.2.2.2.2.2.2.1
theorem dX7_leaves_29 : decode cX7_leaves 29 = .ok (.iload_n 2, 1) := bX7_leaves_0.2.2.2.2.2.2.2.2.2.2.2.2.2.2.2
theorem bX7_leaves_30 : (decode cX7_leaves 30 = .ok (.iconst (-1), 1)) ∧ (decode cX7_leaves 31 = .ok (.if_icmp .ne 8, 3)) ∧ (decode cX7_leaves 34 = .ok (.aload_n 0, 1)) ∧ (decode cX7_leaves 35 = .ok (.invokevirtual 111, 3)) ∧ (decode cX7_leaves 38 = .ok (.ireturn, 1)) ∧ (decode cX7_leaves 39 = .ok (.aload_n 0, 1)) ∧ (decode cX7_leaves 40 = .ok (.getfield 12, 3)) ∧ (decode cX7_leaves 43 = .ok (.invokevirtual 114, 3)) ∧ (decode cX7_leaves 46 = .ok (.aload_n 0, 1)) ∧ (decode cX7_leaves 47 = .ok (.getfield 12, 3)) ∧ (decode cX7_leaves 50 = .ok (.getfield 117, 3)) ∧ (decode cX7_leaves 53 = .ok (.getfield 120, 3)) ∧ (decode cX7_leaves 56 = .ok (.iload_n 1, 1)) ∧ (decode cX7_leaves 57 = .ok (.iconst (-1), 1)) ∧ (decode cX7_leaves 58 = .ok (.iastore, 1)) ∧ (decode cX7_leaves 59 = .ok (.iload_n 2, 1)) := by decide +kernel
theorem dX7_leaves_30 : decode cX7_leaves 30 = .ok (.iconst (-1), 1) := bX7_leaves_30.1
theorem dX7_leaves_31 : decode cX7_leaves 31 = .ok (.if_icmp .ne 8, 3) := bX7_leaves_30.2.1
theorem dX7_leaves_34 : decode cX7_leaves 34 = .ok (.aload_n 0, 1) := bX7_leaves_30.2.2.1
theorem dX7_leaves_35 : decode cX7_leaves 35 = .ok (.invokevirtual 111, 3) := bX7_leaves_30.2.2.2.1
theorem dX7_leaves_38 : decode cX7_leaves 38 = .ok (.ireturn, 1) := bX7_leaves_30.2.2.2.2.1
theorem dX7_leaves_39 : decode cX7_leaves 39 = .ok (.aload_n 0, 1) := bX7_leaves_30.2.2.2.2.2.1
theorem dX7_leaves_40 : decode cX7_leaves 40 = .ok (.getfield 12, 3) := bX7_leaves_30.2.2.2.2.2.2.1
theorem dX7_leaves_43 : decode cX7_leaves 43 = .ok (.invokevirtual 114, 3) := bX7_leaves_30.2.2.2.2.2.2.2.1
theorem dX7_leaves_46 : decode cX7_leaves 46 = .ok (.aload_n 0, 1) := bX7_leaves_30.2.2.2.2.2.2.2.2.1
theorem dX7_leaves_47 : decode cX7_leaves 47 = .ok (.getfield 12, 3) := bX7_leaves_30.2.2.2.2.2.2.2.2.2.1
theorem dX7_leaves_50 : decode cX7_leaves 50 = .ok (.getfield 117, 3) := bX7_leaves_30.2.2.2.2.2.2.2.2.2.2.1
theorem dX7_leaves_53 : decode cX7_leaves 53 = .ok (.getfield 120, 3) := bX7_leaves_30.2.2.2.2.2.2.2.2.2.2.2.1
theorem dX7_leaves_56 : decode cX7_leaves 56 = .ok (.iload_n 1, 1) := bX7_leaves_30.2.2.2.2.2.2.2.2.2.2.2.2.1
theorem dX7_leaves_57 : decode cX7_leaves 57 = .ok (.iconst (-1), 1) := bX7_leaves_30.2.2.2.2.2.2.2.2.2.2.2.2.2.1
theorem dX7_leaves_58 : decode cX7_leaves 58 = .ok (.iastore, 1) := bX7_leaves_30.2.2.2.2.2.2.2.2.2.2.2.2.2.2.1
theorem dX7_leaves_59 : decode cX7_leaves 59 = .ok (.iload_n 2, 1) := bX7_leaves_30.2.2.2.2.2.2.2.2.2.2.2.2.2.2.2
theorem dX7_leaves_60 : decode cX7_leaves 60 = .ok (.ireturn, 1) := by decide +kernel
theorem bX7_years_0 : (decode cX7_years 0 = .ok (.iload_n 1, 1)) ∧ (decode cX7_years 1 = .ok (.iconst 1, 1)) ∧ (decode cX7_years 2 = .ok (.bipush 60, 2)) ∧ (decode cX7_years 4 = .ok (.invokestatic 59, 3)) ∧ (decode cX7_years 7 = .ok (.ifCond .ne 8, 3)) ∧ (decode cX7_years 10 = .ok (.aload_n 0, 1)) ∧ (decode cX7_years 11 = .ok (.invokevirtual 63, 3)) ∧ (decode cX7_years 14 = .ok (.ireturn, 1)) ∧ (decode cX7_years 15 = .ok (.aload_n 0, 1)) ∧ (decode cX7_years 16 = .ok (.getfield 12, 3)) ∧ (decode cX7_years 19 = .ok (.getfield 117, 3)) ∧ (decode cX7_years 22 = .ok (.getfield 127, 3)) ∧ (decode cX7_years 25 = .ok (.sipush 999, 3)) ∧ (decode cX7_years 28 = .ok (.if_icmp .ge 10, 3)) ∧ (decode cX7_years 31 = .ok (.aload_n 0, 1)) ∧ (decode cX7_years 32 = .ok (.getfield 12, 3)) := by decide +kernel
theorem dX7_years_0 : decode cX7_years 0 = .ok (.iload_n 1, 1) := bX7_years_0.1
theorem dX7_years_1 : decode cX7_years 1 = .ok (.iconst 1, 1) := bX7_years_0.2.1
theorem dX7_years_2 : decode cX7_years 2 = .ok (.bipush 60, 2) := bX7_years_0.2.2.1
theorem dX7_years_4 : decode cX7_years 4 = .ok (.invokestatic 59, 3) := bX7_years_0.2.2.2.1
theorem dX7_years_7 : decode cX7_years 7 = .ok (.ifCond .ne 8, 3) := bX7_years_0.2.2.2.2.1
theorem dX7_years_10 : decode cX7_years 10 = .ok (.aload_n 0, 1) := bX7_years_0.2.2.2.2.2.1
theorem dX7_years_11 : decode cX7_years 11 = .ok (.invokevirtual 63, 3) := bX7_years_0.2.2.2.2.2.2.1
theorem dX7_years_14 : decode cX7_years 14 = .ok (.ireturn, 1) := bX7_years_0.2.2.2.2.2.2.2.1
theorem dX7_years_15 : decode cX7_years 15 = .ok (.aload_n 0, 1) := bX7_years_0.2.2.2.2.2.2.2.2.1
theorem dX7_years_16 : decode cX7_years 16 = .ok (.getfield 12, 3) := bX7_years_0.2.2.2.2.2.2.2.2.2.1
theorem dX7_years_19 : decode cX7_years 19 = .ok (.getfield 117, 3) := bX7_years_0.2.2.2.2.2.2.2.2.2.2.1
theorem dX7_years_22 : decode cX7_years 22 = .ok (.getfield 127, 3) := bX7_years_0.2.2.2.2.2.2.2.2.2.2.2.1
theorem dX7_years_25 : decode cX7_years 25 = .ok (.sipush 999, 3) := bX7_years_0.2.2.2.2.2.2.2.2.2.2.2.2.1
theorem dX7_years_28 : decode cX7_years 28 = .ok (.if_icmp .ge 10, 3) := bX7_years_0.2.2.2.2.2.2.2.2.2.2.2.2.2.1
theorem dX7_years_31 : decode cX7_years 31 = .ok (.aload_n 0, 1) := bX7_years_0.2.2.2.2.2.2.2.2.2.2.2.2.2.2.1
theorem dX7_years_32 : decode cX7_years 32 = .ok (.getfield 12, 3) := bX7_years_0.2.2.2.2.2.2.2.2.2.2.2.2.2.2.2
theorem bX7_years_35 : (decode cX7_years 35 = .ok (.invokevirtual 114, 3)) ∧ (decode cX7_years 38 = .ok (.aload_n 0, 1)) ∧ (decode cX7_years 39 = .ok (.getfield 12, 3)) ∧ (decode cX7_years 42 = .ok (.aload_n 0, 1)) ∧ (decode cX7_years 43 = .ok (.getfield 12, 3)) ∧ (decode cX7_years 46 = .ok (.getfield 117, 3)) ∧ (decode cX7_years 49 = .ok (.iload_n 1, 1)) ∧ (decode cX7_years 50 = .ok (.sipush 999, 3)) ∧ (decode cX7_years 53 = .ok (.invokevirtual 130, 3)) ∧ (decode cX7_years 56 = .ok (.aload_n 0, 1)) ∧ (decode cX7_years 57 = .ok (.getfield 12, 3)) ∧ (decode cX7_years 60 = .ok (.getfield 117, 3)) ∧ (decode cX7_years 63 = .ok (.invokevirtual 134, 3)) ∧ (decode cX7_years 66 = .ok (.ireturn, 1)) := by decide +kernel
theorem dX7_years_35 : decode cX7_years 35 = .ok (.invokevirtual 114, 3) := bX7_years_35.1
theorem dX7_years_38 : decode cX7_years 38 = .ok (.aload_n 0, 1) := bX7_years_35.2.1
theorem dX7_years_39 : decode cX7_years 39 = .ok (.getfield 12, 3) := bX7_years_35.2.2.1
theorem dX7_years_42 : decode cX7_years 42 = .ok (.aload_n 0, 1) := bX7_years_35.2.2.2.1
theorem dX7_years_43 : decode cX7_years 43 = .ok (.getfield 12, 3) := bX7_years_35.2.2.2.2.1
theorem dX7_years_46 : decode cX7_years 46 = .ok (.getfield 117, 3) := bX7_years_35.2.2.2.2.2.1
theorem dX7_years_49 : decode cX7_years 49 = .ok (.iload_n 1, 1) := bX7_years_35.2.2.2.2.2.2.1
theorem dX7_years_50 : decode cX7_years 50 = .ok (.sipush 999, 3) := bX7_years_35.2.2.2.2.2.2.2.1
theorem dX7_years_53 : decode cX7_years 53 = .ok (.invokevirtual 130, 3) := bX7_years_35.2.2.2.2.2.2.2.2.1
theorem dX7_years_56 : decode cX7_years 56 = .ok (.aload_n 0, 1) := bX7_years_35.2.2.2.2.2.2.2.2.2.1
theorem dX7_years_57 : decode cX7_years 57 = .ok (.getfield 12, 3) := bX7_years_35.2.2.2.2.2.2.2.2.2.2.1
theorem dX7_years_60 : decode cX7_years 60 = .ok (.getfield 117, 3) := bX7_years_35.2.2.2.2.2.2.2.2.2.2.2.1
theorem dX7_years_63 : decode cX7_years 63 = .ok (.invokevirtual 134, 3) := bX7_years_35.2.2.2.2.2.2.2.2.2.2.2.2.1
theorem dX7_years_66 : decode cX7_years 66 = .ok (.ireturn, 1) := bX7_years_35.2.2.2.2.2.2.2.2.2.2.2.2.2
theorem bX7_undo_0 : (decode cX7_undo 0 = .ok (.aload_n 0, 1)) ∧ (decode cX7_undo 1 = .ok (.getfield 12, 3)) ∧ (decode cX7_undo 4 = .ok (.getfield 137, 3)) ∧ (decode cX7_undo 7 = .ok (.ifCond .gt 8, 3)) ∧ (decode cX7_undo 10 = .ok (.aload_n 0, 1)) ∧ (decode cX7_undo 11 = .ok (.invokevirtual 111, 3)) ∧ (decode cX7_undo 14 = .ok (.ireturn, 1)) ∧ (decode cX7_undo 15 = .ok (.aload_n 0, 1)) ∧ (decode cX7_undo 16 = .ok (.getfield 12, 3)) ∧ (decode cX7_undo 19 = .ok (.invokevirtual 140, 3)) ∧ (decode cX7_undo 22 = .ok (.aload_n 0, 1)) ∧ (decode cX7_undo 23 = .ok (.getfield 12, 3)) ∧ (decode cX7_undo 26 = .ok (.getfield 117, 3)) ∧ (decode cX7_undo 29 = .ok (.getfield 127, 3)) ∧ (decode cX7_undo 32 = .ok (.ireturn, 1)) := by decide +kernel
theorem dX7_undo_0 : decode cX7_undo 0 = .ok (.aload_n 0, 1) := bX7_undo_0.1
theorem dX7_undo_1 : decode cX7_undo 1 = .ok (.getfield 12, 3) := bX7_undo_0.2.1
theorem dX7_undo_4 : decode cX7_undo 4 = .ok (.getfield 137, 3) := bX7_undo_0.2.2.1
theorem dX7_undo_7 : decode cX7_undo 7 = .ok (.ifCond .gt 8, 3) := bX7_undo_0.2.2.2.1
theorem dX7_undo_10 : decode cX7_undo 10 = .ok (.aload_n 0, 1) := bX7_undo_0.2.2.2.2.1
theorem dX7_undo_11 : decode cX7_undo 11 = .ok (.invokevirtual 111, 3) := bX7_undo_0.2.2.2.2.2.1
theorem dX7_undo_14 : decode cX7_undo 14 = .ok (.ireturn, 1) := bX7_undo_0.2.2.2.2.2.2.1
theorem dX7_undo_15 : decode cX7_undo 15 = .ok (.aload_n 0, 1) := bX7_undo_0.2.2.2.2.2.2.2.1
theorem dX7_undo_16 : decode cX7_undo 16 = .ok (.getfield 12, 3) := bX7_undo_0.2.2.2.2.2.2.2.2.1
theorem dX7_undo_19 : decode cX7_undo 19 = .ok (.invokevirtual 140, 3) := bX7_undo_0.2.2.2.2.2.2.2.2.2.1
theorem dX7_undo_22 : decode cX7_undo 22 = .ok (.aload_n 0, 1) := bX7_undo_0.2.2.2.2.2.2.2.2.2.2.1
theorem dX7_undo_23 : decode cX7_undo 23 = .ok (.getfield 12, 3) := bX7_undo_0.2.2.2.2.2.2.2.2.2.2.2.1
theorem dX7_undo_26 : decode cX7_undo 26 = .ok (.getfield 117, 3) := bX7_undo_0.2.2.2.2.2.2.2.2.2.2.2.2.1
theorem dX7_undo_29 : decode cX7_undo 29 = .ok (.getfield 127, 3) := bX7_undo_0.2.2.2.2.2.2.2.2.2.2.2.2.2.1
theorem dX7_undo_32 : decode cX7_undo 32 = .ok (.ireturn, 1) := bX7_undo_0.2.2.2.2.2.2.2.2.2.2.2.2.2.2
theorem bX7_of_0 : (decode cX7_of 0 = .ok (.aload_n 0, 1)) ∧ (decode cX7_of 1 = .ok (.getfield 12, 3)) ∧ (decode cX7_of 4 = .ok (.iload_n 1, 1)) ∧ (decode cX7_of 5 = .ok (.invokevirtual 98, 3)) ∧ (decode cX7_of 8 = .ok (.ifCond .eq 12, 3)) ∧ (decode cX7_of 11 = .ok (.iload_n 2, 1)) ∧ (decode cX7_of 12 = .ok (.iconst 0, 1)) ∧ (decode cX7_of 13 = .ok (.iconst 4, 1)) ∧ (decode cX7_of 14 = .ok (.invokestatic 59, 3)) ∧ (decode cX7_of 17 = .ok (.ifCond .ne 8, 3)) ∧ (decode cX7_of 20 = .ok (.aload_n 0, 1)) ∧ (decode cX7_of 21 = .ok (.invokevirtual 63, 3)) ∧ (decode cX7_of 24 = .ok (.ireturn, 1)) ∧ (decode cX7_of 25 = .ok (.aload_n 0, 1)) ∧ (decode cX7_of 26 = .ok (.getfield 12, 3)) ∧ (decode cX7_of 29 = .ok (.iload_n 1, 1)) := by decide +kernel
theorem dX7_of_0 : decode cX7_of 0 = .ok (.aload_n 0, 1) := bX7_of_0.1
theorem dX7_of_1 : decode cX7_of 1 = .ok (.getfield 12, 3) := bX7_of_0.2.1
theorem dX7_of_4 : decode cX7_of 4 = .ok (.iload_n 1, 1) := bX7_of_0.2.2.1
theorem dX7_of_5 : decode cX7_of 5 = .ok (.invokevirtual 98, 3) := bX7_of_0.2.2.2.1
theorem dX7_of_8 : decode cX7_of 8 = .ok (.ifCond .eq 12, 3) := bX7_of_0.2.2.2.2.1
theorem dX7_of_11 : decode cX7_of 11 = .ok (.iload_n 2, 1) := bX7_of_0.2.2.2.2.2.1
theorem dX7_of_12 : decode cX7_of 12 = .ok (.iconst 0, 1) := bX7_of_0.2.2.2.2.2.2.1
theorem dX7_of_13 : decode cX7_of 13 = .ok (.iconst 4, 1) := bX7_of_0.2.2.2.2.2.2.2.1
theorem dX7_of_14 : decode cX7_of 14 = .ok (.invokestatic 59, 3) := bX7_of_0.2.2.2.2.2.2.2.2.1
theorem dX7_of_17 : decode cX7_of 17 = .ok (.ifCond .ne 8, 3) := bX7_of_0.2.2.2.2.2.2.2.2.2.1
theorem dX7_of_20 : decode cX7_of 20 = .ok (.aload_n 0, 1) := bX7_of_0.2.2.2.2.2.2.2.2.2.2.1
theorem dX7_of_21 : decode cX7_of 21 = .ok (.invokevirtual 63, 3) := bX7_of_0.2.2.2.2.2.2.2.2.2.2.2.1
theorem dX7_of_24 : decode cX7_of 24 = .ok (.ireturn, 1) := bX7_of_0.2.2.2.2.2.2.2.2.2.2.2.2.1
theorem dX7_of_25 : decode cX7_of 25 = .ok (.aload_n 0, 1) := bX7_of_0.2.2.2.2.2.2.2.2.2.2.2.2.2.1
theorem dX7_of_26 : decode cX7_of 26 = .ok (.getfield 12, 3) := bX7_of_0.2.2.2.2.2.2.2.2.2.2.2.2.2.2.1
theorem dX7_of_29 : decode cX7_of 29 = .ok (.iload_n 1, 1) := bX7_of_0.2.2.2.2.2.2.2.2.2.2.2.2.2.2.2
theorem bX7_of_30 : (decode cX7_of 30 = .ok (.iload_n 2, 1)) ∧ (decode cX7_of 31 = .ok (.invokevirtual 143, 3)) ∧ (decode cX7_of 34 = .ok (.ireturn, 1)) := by decide +kernel
theorem dX7_of_30 : decode cX7_of 30 = .ok (.iload_n 2, 1) := bX7_of_30.1
theorem dX7_of_31 : decode cX7_of 31 = .ok (.invokevirtual 143, 3) := bX7_of_30.2.1
theorem dX7_of_34 : decode cX7_of 34 = .ok (.ireturn, 1) := bX7_of_30.2.2
theorem bX7_about_0 : (decode cX7_about 0 = .ok (.aload_n 0, 1)) ∧ (decode cX7_about 1 = .ok (.getfield 12, 3)) ∧ (decode cX7_about 4 = .ok (.iload_n 1, 1)) ∧ (decode cX7_about 5 = .ok (.invokevirtual 102, 3)) ∧ (decode cX7_about 8 = .ok (.ifCond .eq 12, 3)) ∧ (decode cX7_about 11 = .ok (.iload_n 2, 1)) ∧ (decode cX7_about 12 = .ok (.iconst 0, 1)) ∧ (decode cX7_about 13 = .ok (.iconst 2, 1)) ∧ (decode cX7_about 14 = .ok (.invokestatic 59, 3)) ∧ (decode cX7_about 17 = .ok (.ifCond .ne 8, 3)) ∧ (decode cX7_about 20 = .ok (.aload_n 0, 1)) ∧ (decode cX7_about 21 = .ok (.invokevirtual 63, 3)) ∧ (decode cX7_about 24 = .ok (.ireturn, 1)) ∧ (decode cX7_about 25 = .ok (.iload_n 2, 1)) ∧ (decode cX7_about 26 = .ok (.ifCond .ne 13, 3)) ∧ (decode cX7_about 29 = .ok (.aload_n 0, 1)) := by decide +kernel
theorem dX7_about_0 : decode cX7_about 0 = .ok (.aload_n 0, 1) := bX7_about_0.1
theorem dX7_about_1 : decode cX7_about 1 = .ok (.getfield 12, 3) := bX7_about_0.2.1
theorem dX7_about_4 : decode cX7_about 4 = .ok (.iload_n 1, 1) := bX7_about_0.2.2.1
theorem dX7_about_5 : decode cX7_about 5 = .ok (.invokevirtual 102, 3) := bX7_about_0.2.2.2.1
theorem dX7_about_8 : decode cX7_about 8 = .ok (.ifCond .eq 12, 3) := bX7_about_0.2.2.2.2.1
theorem dX7_about_11 : decode cX7_about 11 = .ok (.iload_n 2, 1) := bX7_about_0.2.2.2.2.2.1
theorem dX7_about_12 : decode cX7_about 12 = .ok (.iconst 0, 1) := bX7_about_0.2.2.2.2.2.2.1
theorem dX7_about_13 : decode cX7_about 13 = .ok (.iconst 2, 1) := bX7_about_0.2.2.2.2.2.2.2.1
theorem dX7_about_14 : decode cX7_about 14 = .ok (.invokestatic 59, 3) := bX7_about_0.2.2.2.2.2.2.2.2.1
theorem dX7_about_17 : decode cX7_about 17 = .ok (.ifCond .ne 8, 3) := bX7_about_0.2.2.2.2.2.2.2.2.2.1
theorem dX7_about_20 : decode cX7_about 20 = .ok (.aload_n 0, 1) := bX7_about_0.2.2.2.2.2.2.2.2.2.2.1
theorem dX7_about_21 : decode cX7_about 21 = .ok (.invokevirtual 63, 3) := bX7_about_0.2.2.2.2.2.2.2.2.2.2.2.1
theorem dX7_about_24 : decode cX7_about 24 = .ok (.ireturn, 1) := bX7_about_0.2.2.2.2.2.2.2.2.2.2.2.2.1
theorem dX7_about_25 : decode cX7_about 25 = .ok (.iload_n 2, 1) := bX7_about_0.2.2.2.2.2.2.2.2.2.2.2.2.2.1
theorem dX7_about_26 : decode cX7_about 26 = .ok (.ifCond .ne 13, 3) := bX7_about_0.2.2.2.2.2.2.2.2.2.2.2.2.2.2.1
theorem dX7_about_29 : decode cX7_about 29 = .ok (.aload_n 0, 1) := bX7_about_0.2.2.2.2.2.2.2.2.2.2.2.2.2.2.2
theorem bX7_about_30 : (decode cX7_about 30 = .ok (.getfield 12, 3)) ∧ (decode cX7_about 33 = .ok (.getfield 146, 3)) ∧ (decode cX7_about 36 = .ok (.iload_n 1, 1)) ∧ (decode cX7_about 37 = .ok (.iaload, 1)) ∧ (decode cX7_about 38 = .ok (.ireturn, 1)) ∧ (decode cX7_about 39 = .ok (.iload_n 2, 1)) ∧ (decode cX7_about 40 = .ok (.iconst 1, 1)) ∧ (decode cX7_about 41 = .ok (.if_icmp .ne 15, 3)) ∧ (decode cX7_about 44 = .ok (.aload_n 0, 1)) ∧ (decode cX7_about 45 = .ok (.getfield 12, 3)) ∧ (decode cX7_about 48 = .ok (.getfield 149, 3)) ∧ (decode cX7_about 51 = .ok (.iload_n 1, 1)) ∧ (decode cX7_about 52 = .ok (.iaload, 1)) ∧ (decode cX7_about 53 = .ok (.goto 11, 3)) ∧ (decode cX7_about 56 = .ok (.aload_n 0, 1)) ∧ (decode cX7_about 57 = .ok (.getfield 12, 3)) := by decide +kernel
theorem dX7_about_30 : decode cX7_about 30 = .ok (.getfield 12, 3) := bX7_about_30.1
theorem dX7_about_33 : decode cX7_about 33 = .ok (.getfield 146, 3) := bX7_about_30.2.1
theorem dX7_about_36 : decode cX7_about 36 = .ok (.iload_n 1, 1) := bX7_about_30.2.2.1
theorem dX7_about_37 : decode cX7_about 37 = .ok (.iaload, 1) := bX7_about_30.2.2.2.1
theorem dX7_about_38 : decode cX7_about 38 = .ok (.ireturn, 1) := bX7_about_30.2.2.2.2.1
theorem dX7_about_39 : decode cX7_about 39 = .ok (.iload_n 2, 1) := bX7_about_30.2.2.2.2.2.1
theorem dX7_about_40 : decode cX7_about 40 = .ok (.iconst 1, 1) := bX7_about_30.2.2.2.2.2.2.1
theorem dX7_about_41 : decode cX7_about 41 = .ok (.if_icmp .ne 15, 3) := bX7_about_30.2.2.2.2.2.2.2.1
theorem dX7_about_44 : decode cX7_about 44 = .ok (.aload_n 0, 1) := bX7_about_30.2.2.2.2.2.2.2.2.1
theorem dX7_about_45 : decode cX7_about 45 = .ok (.getfield 12, 3) := bX7_about_30.2.2.2.2.2.2.2.2.2.1
theorem dX7_about_48 : decode cX7_about 48 = .ok (.getfield 149, 3) := bX7_about_30.2.2.2.2.2.2.2.2.2.2.1
theorem dX7_about_51 : decode cX7_about 51 = .ok (.iload_n 1, 1) := bX7_about_30.2.2.2.2.2.2.2.2.2.2.2.1
theorem dX7_about_52 : decode cX7_about 52 = .ok (.iaload, 1) := bX7_about_30.2.2.2.2.2.2.2.2.2.2.2.2.1
theorem dX7_about_53 : decode cX7_about 53 = .ok (.goto 11, 3) := bX7_about_30.2.2.2.2.2.2.2.2.2.2.2.2.2.1
theorem dX7_about_56 : decode cX7_about 56 = .ok (.aload_n 0, 1) := bX7_about_30.2.2.2.2.2.2.2.2.2.2.2.2.2.2.1
theorem dX7_about_57 : decode cX7_about 57 = .ok (.getfield 12, 3) := bX7_about_30.2.2.2.2.2.2.2.2.2.2.2.2.2.2.2
theorem bX7_about_60 : (decode cX7_about 60 = .ok (.iload_n 1, 1)) ∧ (decode cX7_about 61 = .ok (.invokevirtual 108, 3)) ∧ (decode cX7_about 64 = .ok (.ireturn, 1)) := by decide +kernel
theorem dX7_about_60 : decode cX7_about 60 = .ok (.iload_n 1, 1) := bX7_about_60.1
theorem dX7_about_61 : decode cX7_about 61 = .ok (.invokevirtual 108, 3) := bX7_about_60.2.1
theorem dX7_about_64 : decode cX7_about 64 = .ok (.ireturn, 1) := bX7_about_60.2.2
theorem bX7_lifts_0 : (decode cX7_lifts 0 = .ok (.aload_n 0, 1)) ∧ (decode cX7_lifts 1 = .ok (.getfield 12, 3)) ∧ (decode cX7_lifts 4 = .ok (.iload_n 1, 1)) ∧ (decode cX7_lifts 5 = .ok (.invokevirtual 98, 3)) ∧ (decode cX7_lifts 8 = .ok (.ifCond .eq 13, 3)) ∧ (decode cX7_lifts 11 = .ok (.iload_n 2, 1)) ∧ (decode cX7_lifts 12 = .ok (.iconst 0, 1)) ∧ (decode cX7_lifts 13 = .ok (.bipush 60, 2)) ∧ (decode cX7_lifts 15 = .ok (.invokestatic 59, 3)) ∧ (decode cX7_lifts 18 = .ok (.ifCond .ne 8, 3)) ∧ (decode cX7_lifts 21 = .ok (.aload_n 0, 1)) ∧ (decode cX7_lifts 22 = .ok (.invokevirtual 63, 3)) ∧ (decode cX7_lifts 25 = .ok (.ireturn, 1)) ∧ (decode cX7_lifts 26 = .ok (.aload_n 0, 1)) ∧ (decode cX7_lifts 27 = .ok (.getfield 12, 3)) ∧ (decode cX7_lifts 30 = .ok (.iload_n 1, 1)) := by decide +kernel
theorem dX7_lifts_0 : decode cX7_lifts 0 = .ok (.aload_n 0, 1) := bX7_lifts_0.1
theorem dX7_lifts_1 : decode cX7_lifts 1 = .ok (.getfield 12, 3) := bX7_lifts_0.2.1
theorem dX7_lifts_4 : decode cX7_lifts 4 = .ok (.iload_n 1, 1) := bX7_lifts_0.2.2.1
theorem dX7_lifts_5 : decode cX7_lifts 5 = .ok (.invokevirtual 98, 3) := bX7_lifts_0.2.2.2.1
theorem dX7_lifts_8 : decode cX7_lifts 8 = .ok (.ifCond .eq 13, 3) := bX7_lifts_0.2.2.2.2.1
theorem dX7_lifts_11 : decode cX7_lifts 11 = .ok (.iload_n 2, 1) := bX7_lifts_0.2.2.2.2.2.1
theorem dX7_lifts_12 : decode cX7_lifts 12 = .ok (.iconst 0, 1) := bX7_lifts_0.2.2.2.2.2.2.1
theorem dX7_lifts_13 : decode cX7_lifts 13 = .ok (.bipush 60, 2) := bX7_lifts_0.2.2.2.2.2.2.2.1
theorem dX7_lifts_15 : decode cX7_lifts 15 = .ok (.invokestatic 59, 3) := bX7_lifts_0.2.2.2.2.2.2.2.2.1
theorem dX7_lifts_18 : decode cX7_lifts 18 = .ok (.ifCond .ne 8, 3) := bX7_lifts_0.2.2.2.2.2.2.2.2.2.1
theorem dX7_lifts_21 : decode cX7_lifts 21 = .ok (.aload_n 0, 1) := bX7_lifts_0.2.2.2.2.2.2.2.2.2.2.1
theorem dX7_lifts_22 : decode cX7_lifts 22 = .ok (.invokevirtual 63, 3) := bX7_lifts_0.2.2.2.2.2.2.2.2.2.2.2.1
theorem dX7_lifts_25 : decode cX7_lifts 25 = .ok (.ireturn, 1) := bX7_lifts_0.2.2.2.2.2.2.2.2.2.2.2.2.1
theorem dX7_lifts_26 : decode cX7_lifts 26 = .ok (.aload_n 0, 1) := bX7_lifts_0.2.2.2.2.2.2.2.2.2.2.2.2.2.1
theorem dX7_lifts_27 : decode cX7_lifts 27 = .ok (.getfield 12, 3) := bX7_lifts_0.2.2.2.2.2.2.2.2.2.2.2.2.2.2.1
theorem dX7_lifts_30 : decode cX7_lifts 30 = .ok (.iload_n 1, 1) := bX7_lifts_0.2.2.2.2.2.2.2.2.2.2.2.2.2.2.2
theorem bX7_lifts_31 : (decode cX7_lifts 31 = .ok (.iload_n 2, 1)) ∧ (decode cX7_lifts 32 = .ok (.invokevirtual 152, 3)) ∧ (decode cX7_lifts 35 = .ok (.ireturn, 1)) := by decide +kernel
theorem dX7_lifts_31 : decode cX7_lifts 31 = .ok (.iload_n 2, 1) := bX7_lifts_31.1
theorem dX7_lifts_32 : decode cX7_lifts 32 = .ok (.invokevirtual 152, 3) := bX7_lifts_31.2.1
theorem dX7_lifts_35 : decode cX7_lifts 35 = .ok (.ireturn, 1) := bX7_lifts_31.2.2
theorem bX7_weighs_0 : (decode cX7_weighs 0 = .ok (.aload_n 0, 1)) ∧ (decode cX7_weighs 1 = .ok (.getfield 12, 3)) ∧ (decode cX7_weighs 4 = .ok (.iload_n 1, 1)) ∧ (decode cX7_weighs 5 = .ok (.invokevirtual 102, 3)) ∧ (decode cX7_weighs 8 = .ok (.ifCond .eq 13, 3)) ∧ (decode cX7_weighs 11 = .ok (.iload_n 2, 1)) ∧ (decode cX7_weighs 12 = .ok (.iconst 0, 1)) ∧ (decode cX7_weighs 13 = .ok (.bipush 60, 2)) ∧ (decode cX7_weighs 15 = .ok (.invokestatic 59, 3)) ∧ (decode cX7_weighs 18 = .ok (.ifCond .ne 8, 3)) ∧ (decode cX7_weighs 21 = .ok (.aload_n 0, 1)) ∧ (decode cX7_weighs 22 = .ok (.invokevirtual 63, 3)) ∧ (decode cX7_weighs 25 = .ok (.ireturn, 1)) ∧ (decode cX7_weighs 26 = .ok (.aload_n 0, 1)) ∧ (decode cX7_weighs 27 = .ok (.getfield 12, 3)) ∧ (decode cX7_weighs 30 = .ok (.iload_n 1, 1)) := by decide +kernel
theorem dX7_weighs_0 : decode cX7_weighs 0 = .ok (.aload_n 0, 1) := bX7_weighs_0.1
theorem dX7_weighs_1 : decode cX7_weighs 1 = .ok (.getfield 12, 3) := bX7_weighs_0.2.1
theorem dX7_weighs_4 : decode cX7_weighs 4 = .ok (.iload_n 1, 1) := bX7_weighs_0.2.2.1
theorem dX7_weighs_5 : decode cX7_weighs 5 = .ok (.invokevirtual 102, 3) := bX7_weighs_0.2.2.2.1
theorem dX7_weighs_8 : decode cX7_weighs 8 = .ok (.ifCond .eq 13, 3) := bX7_weighs_0.2.2.2.2.1
theorem dX7_weighs_11 : decode cX7_weighs 11 = .ok (.iload_n 2, 1) := bX7_weighs_0.2.2.2.2.2.1
theorem dX7_weighs_12 : decode cX7_weighs 12 = .ok (.iconst 0, 1) := bX7_weighs_0.2.2.2.2.2.2.1
theorem dX7_weighs_13 : decode cX7_weighs 13 = .ok (.bipush 60, 2) := bX7_weighs_0.2.2.2.2.2.2.2.1
theorem dX7_weighs_15 : decode cX7_weighs 15 = .ok (.invokestatic 59, 3) := bX7_weighs_0.2.2.2.2.2.2.2.2.1
theorem dX7_weighs_18 : decode cX7_weighs 18 = .ok (.ifCond .ne 8, 3) := bX7_weighs_0.2.2.2.2.2.2.2.2.2.1
theorem dX7_weighs_21 : decode cX7_weighs 21 = .ok (.aload_n 0, 1) := bX7_weighs_0.2.2.2.2.2.2.2.2.2.2.1
theorem dX7_weighs_22 : decode cX7_weighs 22 = .ok (.invokevirtual 63, 3) := bX7_weighs_0.2.2.2.2.2.2.2.2.2.2.2.1
theorem dX7_weighs_25 : decode cX7_weighs 25 = .ok (.ireturn, 1) := bX7_weighs_0.2.2.2.2.2.2.2.2.2.2.2.2.1
theorem dX7_weighs_26 : decode cX7_weighs 26 = .ok (.aload_n 0, 1) := bX7_weighs_0.2.2.2.2.2.2.2.2.2.2.2.2.2.1
theorem dX7_weighs_27 : decode cX7_weighs 27 = .ok (.getfield 12, 3) := bX7_weighs_0.2.2.2.2.2.2.2.2.2.2.2.2.2.2.1
theorem dX7_weighs_30 : decode cX7_weighs 30 = .ok (.iload_n 1, 1) := bX7_weighs_0.2.2.2.2.2.2.2.2.2.2.2.2.2.2.2
theorem bX7_weighs_31 : (decode cX7_weighs 31 = .ok (.iload_n 2, 1)) ∧ (decode cX7_weighs 32 = .ok (.invokevirtual 155, 3)) ∧ (decode cX7_weighs 35 = .ok (.ireturn, 1)) := by decide +kernel
theorem dX7_weighs_31 : decode cX7_weighs 31 = .ok (.iload_n 2, 1) := bX7_weighs_31.1
theorem dX7_weighs_32 : decode cX7_weighs 32 = .ok (.invokevirtual 155, 3) := bX7_weighs_31.2.1
theorem dX7_weighs_35 : decode cX7_weighs 35 = .ok (.ireturn, 1) := bX7_weighs_31.2.2
theorem bX7_held_0 : (decode cX7_held 0 = .ok (.iconst 0, 1)) ∧ (decode cX7_held 1 = .ok (.istore_n 1, 1)) ∧ (decode cX7_held 2 = .ok (.iconst 0, 1)) ∧ (decode cX7_held 3 = .ok (.istore_n 2, 1)) ∧ (decode cX7_held 4 = .ok (.iload_n 2, 1)) ∧ (decode cX7_held 5 = .ok (.aload_n 0, 1)) ∧ (decode cX7_held 6 = .ok (.getfield 12, 3)) ∧ (decode cX7_held 9 = .ok (.getfield 52, 3)) ∧ (decode cX7_held 12 = .ok (.if_icmp .ge 47, 3)) ∧ (decode cX7_held 15 = .ok (.aload_n 0, 1)) ∧ (decode cX7_held 16 = .ok (.getfield 12, 3)) ∧ (decode cX7_held 19 = .ok (.getfield 117, 3)) ∧ (decode cX7_held 22 = .ok (.iload_n 2, 1)) ∧ (decode cX7_held 23 = .ok (.invokevirtual 158, 3)) ∧ (decode cX7_held 26 = .ok (.ifCond .eq 27, 3)) ∧ (decode cX7_held 29 = .ok (.aload_n 0, 1)) := by decide +kernel
theorem dX7_held_0 : decode cX7_held 0 = .ok (.iconst 0, 1) := bX7_held_0.1
theorem dX7_held_1 : decode cX7_held 1 = .ok (.istore_n 1, 1) := bX7_held_0.2.1
theorem dX7_held_2 : decode cX7_held 2 = .ok (.iconst 0, 1) := bX7_held_0.2.2.1
theorem dX7_held_3 : decode cX7_held 3 = .ok (.istore_n 2, 1) := bX7_held_0.2.2.2.1
theorem dX7_held_4 : decode cX7_held 4 = .ok (.iload_n 2, 1) := bX7_held_0.2.2.2.2.1
theorem dX7_held_5 : decode cX7_held 5 = .ok (.aload_n 0, 1) := bX7_held_0.2.2.2.2.2.1
theorem dX7_held_6 : decode cX7_held 6 = .ok (.getfield 12, 3) := bX7_held_0.2.2.2.2.2.2.1
theorem dX7_held_9 : decode cX7_held 9 = .ok (.getfield 52, 3) := bX7_held_0.2.2.2.2.2.2.2.1
theorem dX7_held_12 : decode cX7_held 12 = .ok (.if_icmp .ge 47, 3) := bX7_held_0.2.2.2.2.2.2.2.2.1
theorem dX7_held_15 : decode cX7_held 15 = .ok (.aload_n 0, 1) := bX7_held_0.2.2.2.2.2.2.2.2.2.1
theorem dX7_held_16 : decode cX7_held 16 = .ok (.getfield 12, 3) := bX7_held_0.2.2.2.2.2.2.2.2.2.2.1
theorem dX7_held_19 : decode cX7_held 19 = .ok (.getfield 117, 3) := bX7_held_0.2.2.2.2.2.2.2.2.2.2.2.1
theorem dX7_held_22 : decode cX7_held 22 = .ok (.iload_n 2, 1) := bX7_held_0.2.2.2.2.2.2.2.2.2.2.2.2.1
theorem dX7_held_23 : decode cX7_held 23 = .ok (.invokevirtual 158, 3) := bX7_held_0.2.2.2.2.2.2.2.2.2.2.2.2.2.1
theorem dX7_held_26 : decode cX7_held 26 = .ok (.ifCond .eq 27, 3) := bX7_held_0.2.2.2.2.2.2.2.2.2.2.2.2.2.2.1
theorem dX7_held_29 : decode cX7_held 29 = .ok (.aload_n 0, 1) := bX7_held_0.2.2.2.2.2.2.2.2.2.2.2.2.2.2.2
theorem bX7_held_30 : (decode cX7_held 30 = .ok (.getfield 12, 3)) ∧ (decode cX7_held 33 = .ok (.aload_n 0, 1)) ∧ (decode cX7_held 34 = .ok (.getfield 12, 3)) ∧ (decode cX7_held 37 = .ok (.getfield 117, 3)) ∧ (decode cX7_held 40 = .ok (.iload_n 2, 1)) ∧ (decode cX7_held 41 = .ok (.invokevirtual 161, 3)) ∧ (decode cX7_held 44 = .ok (.ifCond .eq 9, 3)) ∧ (decode cX7_held 47 = .ok (.iload_n 1, 1)) ∧ (decode cX7_held 48 = .ok (.iconst 1, 1)) ∧ (decode cX7_held 49 = .ok (.iload_n 2, 1)) ∧ (decode cX7_held 50 = .ok (.ishl, 1)) := by decide +kernel
theorem dX7_held_30 : decode cX7_held 30 = .ok (.getfield 12, 3) := bX7_held_30.1
theorem dX7_held_33 : decode cX7_held 33 = .ok (.aload_n 0, 1) := bX7_held_30.2.1
theorem dX7_held_34 : decode cX7_held 34 = .ok (.getfield 12, 3) := bX7_held_30.2.2.1
theorem dX7_held_37 : decode cX7_held 37 = .ok (.getfield 117, 3) := bX7_held_30.2.2.2.1
theorem dX7_held_40 : decode cX7_held 40 = .ok (.iload_n 2, 1) := bX7_held_30.2.2.2.2.1
theorem dX7_held_41 : decode cX7_held 41 = .ok (.invokevirtual 161, 3) := bX7_held_30.2.2.2.2.2.1
theorem dX7_held_44 : decode cX7_held 44 = .ok (.ifCond .eq 9, 3) := bX7_held_30.2.2.2.2.2.2.1
theorem dX7_held_47 : decode cX7_held 47 = .ok (.iload_n 1, 1) := bX7_held_30.2.2.2.2.2.2.2.1
theorem dX7_held_48 : decode cX7_held 48 = .ok (.iconst 1, 1) := bX7_held_30.2.2.2.2.2.2.2.2.1
theorem dX7_held_49 : decode cX7_held 49 = .ok (.iload_n 2, 1) := bX7_held_30.2.2.2.2.2.2.2.2.2.1
theorem dX7_held_50 : decode cX7_held 50 = .ok (.ishl, 1) := bX7_held_30.2.2.2.2.2.2.2.2.2.2
