theorem dX4_leastTagFlow_32 : decode cX4_leastTagFlow 32 = .ok (.getfield 26, 3) := by decide +kernel
theorem dX4_leastTagFlow_35 : decode cX4_leastTagFlow 35 = .ok (.iload 4, 2) := by decide +kernel
theorem dX4_leastTagFlow_37 : decode cX4_leastTagFlow 37 = .ok (.aaload, 1) := by decide +kernel
theorem dX4_leastTagFlow_38 : decode cX4_leastTagFlow 38 = .ok (.invokevirtual 251, 3) := by decide +kernel
theorem dX4_leastTagFlow_41 : decode cX4_leastTagFlow 41 = .ok (.lstore 5, 2) := by decide +kernel
theorem dX4_leastTagFlow_43 : decode cX4_leastTagFlow 43 = .ok (.iload_n 1, 1) := by decide +kernel
theorem dX4_leastTagFlow_44 : decode cX4_leastTagFlow 44 = .ok (.bipush (-6), 2) := by decide +kernel
theorem dX4_leastTagFlow_46 : decode cX4_leastTagFlow 46 = .ok (.if_icmp .eq 10, 3) := by decide +kernel
theorem dX4_leastTagFlow_49 : decode cX4_leastTagFlow 49 = .ok (.lload 5, 2) := by decide +kernel
theorem dX4_leastTagFlow_51 : decode cX4_leastTagFlow 51 = .ok (.lload_n 2, 1) := by decide +kernel
theorem dX4_leastTagFlow_52 : decode cX4_leastTagFlow 52 = .ok (.lcmp, 1) := by decide +kernel
theorem dX4_leastTagFlow_53 : decode cX4_leastTagFlow 53 = .ok (.ifCond .ge 9, 3) := by decide +kernel
theorem dX4_leastTagFlow_56 : decode cX4_leastTagFlow 56 = .ok (.iload 4, 2) := by decide +kernel
theorem dX4_leastTagFlow_58 : decode cX4_leastTagFlow 58 = .ok (.istore_n 1, 1) := by decide +kernel
theorem dX4_leastTagFlow_59 : decode cX4_leastTagFlow 59 = .ok (.lload 5, 2) := by decide +kernel
theorem dX4_leastTagFlow_61 : decode cX4_leastTagFlow 61 = .ok (.lstore_n 2, 1) := by decide +kernel
theorem dX4_leastTagFlow_62 : decode cX4_leastTagFlow 62 = .ok (.iinc 4 1, 3) := by decide +kernel
theorem dX4_leastTagFlow_65 : decode cX4_leastTagFlow 65 = .ok (.goto (-57), 3) := by decide +kernel
theorem dX4_leastTagFlow_68 : decode cX4_leastTagFlow 68 = .ok (.iload_n 1, 1) := by decide +kernel
theorem dX4_leastTagFlow_69 : decode cX4_leastTagFlow 69 = .ok (.ireturn, 1) := by decide +kernel
theorem dX4_isUrgent_0 : decode cX4_isUrgent 0 = .ok (.aload_n 0, 1) := by decide +kernel
theorem dX4_isUrgent_1 : decode cX4_isUrgent 1 = .ok (.getfield 13, 3) := by decide +kernel
theorem dX4_isUrgent_4 : decode cX4_isUrgent 4 = .ok (.iconst 3, 1) := by decide +kernel
theorem dX4_isUrgent_5 : decode cX4_isUrgent 5 = .ok (.iaload, 1) := by decide +kernel
theorem dX4_isUrgent_6 : decode cX4_isUrgent 6 = .ok (.ifCond .eq 12, 3) := by decide +kernel
theorem dX4_isUrgent_9 : decode cX4_isUrgent 9 = .ok (.aload_n 1, 1) := by decide +kernel
theorem dX4_isUrgent_10 : decode cX4_isUrgent 10 = .ok (.getfield 266, 3) := by decide +kernel
theorem dX4_isUrgent_13 : decode cX4_isUrgent 13 = .ok (.bipush (-6), 2) := by decide +kernel
theorem dX4_isUrgent_15 : decode cX4_isUrgent 15 = .ok (.if_icmp .ne 5, 3) := by decide +kernel
theorem dX4_isUrgent_18 : decode cX4_isUrgent 18 = .ok (.iconst 0, 1) := by decide +kernel
theorem dX4_isUrgent_19 : decode cX4_isUrgent 19 = .ok (.ireturn, 1) := by decide +kernel
theorem dX4_isUrgent_20 : decode cX4_isUrgent 20 = .ok (.aload_n 0, 1) := by decide +kernel
theorem dX4_isUrgent_21 : decode cX4_isUrgent 21 = .ok (.getfield 129, 3) := by decide +kernel
theorem dX4_isUrgent_24 : decode cX4_isUrgent 24 = .ok (.aload_n 0, 1) := by decide +kernel
theorem dX4_isUrgent_25 : decode cX4_isUrgent 25 = .ok (.aload_n 1, 1) := by decide +kernel
theorem dX4_isUrgent_26 : decode cX4_isUrgent 26 = .ok (.invokevirtual 269, 3) := by decide +kernel
theorem dX4_isUrgent_29 : decode cX4_isUrgent 29 = .ok (.iadd, 1) := by decide +kernel
theorem dX4_isUrgent_30 : decode cX4_isUrgent 30 = .ok (.aload_n 0, 1) := by decide +kernel
theorem dX4_isUrgent_31 : decode cX4_isUrgent 31 = .ok (.getfield 13, 3) := by decide +kernel
theorem dX4_isUrgent_34 : decode cX4_isUrgent 34 = .ok (.iconst 2, 1) := by decide +kernel
theorem dX4_isUrgent_35 : decode cX4_isUrgent 35 = .ok (.iaload, 1) := by decide +kernel
theorem dX4_isUrgent_36 : decode cX4_isUrgent 36 = .ok (.iadd, 1) := by decide +kernel
theorem dX4_isUrgent_37 : decode cX4_isUrgent 37 = .ok (.aload_n 1, 1) := by decide +kernel
theorem dX4_isUrgent_38 : decode cX4_isUrgent 38 = .ok (.getfield 266, 3) := by decide +kernel
theorem dX4_isUrgent_41 : decode cX4_isUrgent 41 = .ok (.if_icmp .lt 7, 3) := by decide +kernel
theorem dX4_isUrgent_44 : decode cX4_isUrgent 44 = .ok (.iconst 1, 1) := by decide +kernel
theorem dX4_isUrgent_45 : decode cX4_isUrgent 45 = .ok (.goto 4, 3) := by decide +kernel
theorem dX4_isUrgent_48 : decode cX4_isUrgent 48 = .ok (.iconst 0, 1) := by decide +kernel
theorem dX4_isUrgent_49 : decode cX4_isUrgent 49 = .ok (.ireturn, 1) := by decide +kernel
theorem dX4_ticksOfRest_0 : decode cX4_ticksOfRest 0 = .ok (.aload_n 1, 1) := by decide +kernel
theorem dX4_ticksOfRest_1 : decode cX4_ticksOfRest 1 = .ok (.invokevirtual 95, 3) := by decide +kernel
theorem dX4_ticksOfRest_4 : decode cX4_ticksOfRest 4 = .ok (.istore_n 2, 1) := by decide +kernel
theorem dX4_ticksOfRest_5 : decode cX4_ticksOfRest 5 = .ok (.aload_n 0, 1) := by decide +kernel
theorem dX4_ticksOfRest_6 : decode cX4_ticksOfRest 6 = .ok (.getfield 26, 3) := by decide +kernel
theorem dX4_ticksOfRest_9 : decode cX4_ticksOfRest 9 = .ok (.aload_n 1, 1) := by decide +kernel
theorem dX4_ticksOfRest_10 : decode cX4_ticksOfRest 10 = .ok (.getfield 180, 3) := by decide +kernel
theorem dX4_ticksOfRest_13 : decode cX4_ticksOfRest 13 = .ok (.aaload, 1) := by decide +kernel
theorem dX4_ticksOfRest_14 : decode cX4_ticksOfRest 14 = .ok (.getfield 119, 3) := by decide +kernel
theorem dX4_ticksOfRest_17 : decode cX4_ticksOfRest 17 = .ok (.iconst 2, 1) := by decide +kernel
theorem dX4_ticksOfRest_18 : decode cX4_ticksOfRest 18 = .ok (.iaload, 1) := by decide +kernel
theorem dX4_ticksOfRest_19 : decode cX4_ticksOfRest 19 = .ok (.istore_n 3, 1) := by decide +kernel
theorem dX4_ticksOfRest_20 : decode cX4_ticksOfRest 20 = .ok (.iload_n 3, 1) := by decide +kernel
theorem dX4_ticksOfRest_21 : decode cX4_ticksOfRest 21 = .ok (.iconst 1, 1) := by decide +kernel
theorem dX4_ticksOfRest_22 : decode cX4_ticksOfRest 22 = .ok (.if_icmp .lt 8, 3) := by decide +kernel
theorem dX4_ticksOfRest_25 : decode cX4_ticksOfRest 25 = .ok (.iload_n 2, 1) := by decide +kernel
theorem dX4_ticksOfRest_26 : decode cX4_ticksOfRest 26 = .ok (.iload_n 3, 1) := by decide +kernel
theorem dX4_ticksOfRest_27 : decode cX4_ticksOfRest 27 = .ok (.if_icmp .gt 12, 3) := by decide +kernel
theorem dX4_ticksOfRest_30 : decode cX4_ticksOfRest 30 = .ok (.aload_n 0, 1) := by decide +kernel
theorem dX4_ticksOfRest_31 : decode cX4_ticksOfRest 31 = .ok (.getfield 13, 3) := by decide +kernel
theorem dX4_ticksOfRest_34 : decode cX4_ticksOfRest 34 = .ok (.iconst 0, 1) := by decide +kernel
theorem dX4_ticksOfRest_35 : decode cX4_ticksOfRest 35 = .ok (.iaload, 1) := by decide +kernel
theorem dX4_ticksOfRest_36 : decode cX4_ticksOfRest 36 = .ok (.iload_n 2, 1) := by decide +kernel
theorem dX4_ticksOfRest_37 : decode cX4_ticksOfRest 37 = .ok (.iadd, 1) := by decide +kernel
theorem dX4_ticksOfRest_38 : decode cX4_ticksOfRest 38 = .ok (.ireturn, 1) := by decide +kernel
theorem dX4_ticksOfRest_39 : decode cX4_ticksOfRest 39 = .ok (.iload_n 2, 1) := by decide +kernel
theorem dX4_ticksOfRest_40 : decode cX4_ticksOfRest 40 = .ok (.aload_n 0, 1) := by decide +kernel
theorem dX4_ticksOfRest_41 : decode cX4_ticksOfRest 41 = .ok (.getfield 13, 3) := by decide +kernel
theorem dX4_ticksOfRest_44 : decode cX4_ticksOfRest 44 = .ok (.iconst 0, 1) := by decide +kernel
theorem dX4_ticksOfRest_45 : decode cX4_ticksOfRest 45 = .ok (.iaload, 1) := by decide +kernel
theorem dX4_ticksOfRest_46 : decode cX4_ticksOfRest 46 = .ok (.iload_n 2, 1) := by decide +kernel
theorem dX4_ticksOfRest_47 : decode cX4_ticksOfRest 47 = .ok (.iload_n 3, 1) := by decide +kernel
theorem dX4_ticksOfRest_48 : decode cX4_ticksOfRest 48 = .ok (.iadd, 1) := by decide +kernel
theorem dX4_ticksOfRest_49 : decode cX4_ticksOfRest 49 = .ok (.iconst 1, 1) := by decide +kernel
theorem dX4_ticksOfRest_50 : decode cX4_ticksOfRest 50 = .ok (.isub, 1) := by decide +kernel
theorem dX4_ticksOfRest_51 : decode cX4_ticksOfRest 51 = .ok (.iload_n 3, 1) := by decide +kernel
theorem dX4_ticksOfRest_52 : decode cX4_ticksOfRest 52 = .ok (.idiv, 1) := by decide +kernel
theorem dX4_ticksOfRest_53 : decode cX4_ticksOfRest 53 = .ok (.imul, 1) := by decide +kernel
theorem dX4_ticksOfRest_54 : decode cX4_ticksOfRest 54 = .ok (.iadd, 1) := by decide +kernel
theorem dX4_ticksOfRest_55 : decode cX4_ticksOfRest 55 = .ok (.ireturn, 1) := by decide +kernel
theorem dX4_copyFrom_0 : decode cX4_copyFrom 0 = .ok (.aload_n 1, 1) := by decide +kernel
theorem dX4_copyFrom_1 : decode cX4_copyFrom 1 = .ok (.getfield 13, 3) := by decide +kernel
theorem dX4_copyFrom_4 : decode cX4_copyFrom 4 = .ok (.iconst 0, 1) := by decide +kernel
theorem dX4_copyFrom_5 : decode cX4_copyFrom 5 = .ok (.aload_n 0, 1) := by decide +kernel
theorem dX4_copyFrom_6 : decode cX4_copyFrom 6 = .ok (.getfield 13, 3) := by decide +kernel
theorem dX4_copyFrom_9 : decode cX4_copyFrom 9 = .ok (.iconst 0, 1) := by decide +kernel
theorem dX4_copyFrom_10 : decode cX4_copyFrom 10 = .ok (.aload_n 0, 1) := by decide +kernel
theorem dX4_copyFrom_11 : decode cX4_copyFrom 11 = .ok (.getfield 13, 3) := by decide +kernel
theorem dX4_copyFrom_14 : decode cX4_copyFrom 14 = .ok (.arraylength, 1) := by decide +kernel
theorem dX4_copyFrom_15 : decode cX4_copyFrom 15 = .ok (.invokestatic 18, 3) := by decide +kernel
theorem dX4_copyFrom_18 : decode cX4_copyFrom 18 = .ok (.iconst 0, 1) := by decide +kernel
theorem dX4_copyFrom_19 : decode cX4_copyFrom 19 = .ok (.istore_n 2, 1) := by decide +kernel
theorem dX4_copyFrom_20 : decode cX4_copyFrom 20 = .ok (.iload_n 2, 1) := by decide +kernel
theorem dX4_copyFrom_21 : decode cX4_copyFrom 21 = .ok (.aload_n 1, 1) := by decide +kernel
theorem dX4_copyFrom_22 : decode cX4_copyFrom 22 = .ok (.getfield 60, 3) := by decide +kernel
theorem dX4_copyFrom_25 : decode cX4_copyFrom 25 = .ok (.if_icmp .ge 24, 3) := by decide +kernel
theorem dX4_copyFrom_28 : decode cX4_copyFrom 28 = .ok (.aload_n 0, 1) := by decide +kernel
theorem dX4_copyFrom_29 : decode cX4_copyFrom 29 = .ok (.getfield 26, 3) := by decide +kernel
theorem dX4_copyFrom_32 : decode cX4_copyFrom 32 = .ok (.iload_n 2, 1) := by decide +kernel
theorem dX4_copyFrom_33 : decode cX4_copyFrom 33 = .ok (.aaload, 1) := by decide +kernel
theorem dX4_copyFrom_34 : decode cX4_copyFrom 34 = .ok (.aload_n 1, 1) := by decide +kernel
theorem dX4_copyFrom_35 : decode cX4_copyFrom 35 = .ok (.getfield 26, 3) := by decide +kernel
theorem dX4_copyFrom_38 : decode cX4_copyFrom 38 = .ok (.iload_n 2, 1) := by decide +kernel
theorem dX4_copyFrom_39 : decode cX4_copyFrom 39 = .ok (.aaload, 1) := by decide +kernel
theorem dX4_copyFrom_40 : decode cX4_copyFrom 40 = .ok (.invokevirtual 273, 3) := by decide +kernel
theorem dX4_copyFrom_43 : decode cX4_copyFrom 43 = .ok (.iinc 2 1, 3) := by decide +kernel
theorem dX4_copyFrom_46 : decode cX4_copyFrom 46 = .ok (.goto (-26), 3) := by decide +kernel
theorem dX4_copyFrom_49 : decode cX4_copyFrom 49 = .ok (.aload_n 1, 1) := by decide +kernel
theorem dX4_copyFrom_50 : decode cX4_copyFrom 50 = .ok (.invokevirtual 72, 3) := by decide +kernel
theorem dX4_copyFrom_53 : decode cX4_copyFrom 53 = .ok (.istore_n 2, 1) := by decide +kernel
theorem dX4_copyFrom_54 : decode cX4_copyFrom 54 = .ok (.iload_n 2, 1) := by decide +kernel
theorem dX4_copyFrom_55 : decode cX4_copyFrom 55 = .ok (.aload_n 1, 1) := by decide +kernel
theorem dX4_copyFrom_56 : decode cX4_copyFrom 56 = .ok (.getfield 63, 3) := by decide +kernel
theorem dX4_copyFrom_59 : decode cX4_copyFrom 59 = .ok (.if_icmp .ge 22, 3) := by decide +kernel
theorem dX4_copyFrom_62 : decode cX4_copyFrom 62 = .ok (.aload_n 0, 1) := by decide +kernel
theorem dX4_copyFrom_63 : decode cX4_copyFrom 63 = .ok (.iload_n 2, 1) := by decide +kernel
theorem dX4_copyFrom_64 : decode cX4_copyFrom 64 = .ok (.invokevirtual 91, 3) := by decide +kernel
theorem dX4_copyFrom_67 : decode cX4_copyFrom 67 = .ok (.aload_n 1, 1) := by decide +kernel
theorem dX4_copyFrom_68 : decode cX4_copyFrom 68 = .ok (.iload_n 2, 1) := by decide +kernel
theorem dX4_copyFrom_69 : decode cX4_copyFrom 69 = .ok (.invokevirtual 91, 3) := by decide +kernel
theorem dX4_copyFrom_72 : decode cX4_copyFrom 72 = .ok (.invokevirtual 276, 3) := by decide +kernel
theorem dX4_copyFrom_75 : decode cX4_copyFrom 75 = .ok (.iinc 2 1, 3) := by decide +kernel
theorem dX4_copyFrom_78 : decode cX4_copyFrom 78 = .ok (.goto (-24), 3) := by decide +kernel
theorem dX4_copyFrom_81 : decode cX4_copyFrom 81 = .ok (.aload_n 1, 1) := by decide +kernel
theorem dX4_copyFrom_82 : decode cX4_copyFrom 82 = .ok (.invokevirtual 82, 3) := by decide +kernel
theorem dX4_copyFrom_85 : decode cX4_copyFrom 85 = .ok (.istore_n 2, 1) := by decide +kernel
theorem dX4_copyFrom_86 : decode cX4_copyFrom 86 = .ok (.iload_n 2, 1) := by decide +kernel
theorem dX4_copyFrom_87 : decode cX4_copyFrom 87 = .ok (.aload_n 1, 1) := by decide +kernel
theorem dX4_copyFrom_88 : decode cX4_copyFrom 88 = .ok (.getfield 79, 3) := by decide +kernel
theorem dX4_copyFrom_91 : decode cX4_copyFrom 91 = .ok (.if_icmp .ge 22, 3) := by decide +kernel
theorem dX4_copyFrom_94 : decode cX4_copyFrom 94 = .ok (.aload_n 0, 1) := by decide +kernel
theorem dX4_copyFrom_95 : decode cX4_copyFrom 95 = .ok (.iload_n 2, 1) := by decide +kernel
theorem dX4_copyFrom_96 : decode cX4_copyFrom 96 = .ok (.invokevirtual 217, 3) := by decide +kernel
theorem dX4_copyFrom_99 : decode cX4_copyFrom 99 = .ok (.aload_n 1, 1) := by decide +kernel
theorem dX4_copyFrom_100 : decode cX4_copyFrom 100 = .ok (.iload_n 2, 1) := by decide +kernel
theorem dX4_copyFrom_101 : decode cX4_copyFrom 101 = .ok (.invokevirtual 217, 3) := by decide +kernel
theorem dX4_copyFrom_104 : decode cX4_copyFrom 104 = .ok (.invokevirtual 221, 3) := by decide +kernel
theorem dX4_copyFrom_107 : decode cX4_copyFrom 107 = .ok (.iinc 2 1, 3) := by decide +kernel
theorem dX4_copyFrom_110 : decode cX4_copyFrom 110 = .ok (.goto (-24), 3) := by decide +kernel
theorem dX4_copyFrom_113 : decode cX4_copyFrom 113 = .ok (.aload_n 0, 1) := by decide +kernel
theorem dX4_copyFrom_114 : decode cX4_copyFrom 114 = .ok (.getfield 45, 3) := by decide +kernel
theorem dX4_copyFrom_117 : decode cX4_copyFrom 117 = .ok (.aload_n 1, 1) := by decide +kernel
theorem dX4_copyFrom_118 : decode cX4_copyFrom 118 = .ok (.getfield 45, 3) := by decide +kernel
theorem dX4_copyFrom_121 : decode cX4_copyFrom 121 = .ok (.invokevirtual 221, 3) := by decide +kernel
theorem dX4_copyFrom_124 : decode cX4_copyFrom 124 = .ok (.aload_n 0, 1) := by decide +kernel
theorem dX4_copyFrom_125 : decode cX4_copyFrom 125 = .ok (.getfield 52, 3) := by decide +kernel
theorem dX4_copyFrom_128 : decode cX4_copyFrom 128 = .ok (.aload_n 1, 1) := by decide +kernel
theorem dX4_copyFrom_129 : decode cX4_copyFrom 129 = .ok (.getfield 52, 3) := by decide +kernel
theorem dX4_copyFrom_132 : decode cX4_copyFrom 132 = .ok (.invokevirtual 279, 3) := by decide +kernel
theorem dX4_copyFrom_135 : decode cX4_copyFrom 135 = .ok (.aload_n 0, 1) := by decide +kernel
theorem dX4_copyFrom_136 : decode cX4_copyFrom 136 = .ok (.aload_n 1, 1) := by decide +kernel
theorem dX4_copyFrom_137 : decode cX4_copyFrom 137 = .ok (.getfield 129, 3) := by decide +kernel
theorem dX4_copyFrom_140 : decode cX4_copyFrom 140 = .ok (.putfield 129, 3) := by decide +kernel
theorem dX4_copyFrom_143 : decode cX4_copyFrom 143 = .ok (.aload_n 0, 1) := by decide +kernel
theorem dX4_copyFrom_144 : decode cX4_copyFrom 144 = .ok (.aload_n 1, 1) := by decide +kernel
theorem dX4_copyFrom_145 : decode cX4_copyFrom 145 = .ok (.getfield 60, 3) := by decide +kernel
theorem dX4_copyFrom_148 : decode cX4_copyFrom 148 = .ok (.putfield 60, 3) := by decide +kernel
theorem dX4_copyFrom_151 : decode cX4_copyFrom 151 = .ok (.aload_n 0, 1) := by decide +kernel
theorem dX4_copyFrom_152 : decode cX4_copyFrom 152 = .ok (.aload_n 1, 1) := by decide +kernel
theorem dX4_copyFrom_153 : decode cX4_copyFrom 153 = .ok (.getfield 63, 3) := by decide +kernel
theorem dX4_copyFrom_156 : decode cX4_copyFrom 156 = .ok (.putfield 63, 3) := by decide +kernel
theorem dX4_copyFrom_159 : decode cX4_copyFrom 159 = .ok (.aload_n 0, 1) := by decide +kernel
theorem dX4_copyFrom_160 : decode cX4_copyFrom 160 = .ok (.aload_n 1, 1) := by decide +kernel
theorem dX4_copyFrom_161 : decode cX4_copyFrom 161 = .ok (.getfield 79, 3) := by decide +kernel
theorem dX4_copyFrom_164 : decode cX4_copyFrom 164 = .ok (.putfield 79, 3) := by decide +kernel
theorem dX4_copyFrom_167 : decode cX4_copyFrom 167 = .ok (.aload_n 0, 1) := by decide +kernel
theorem dX4_copyFrom_168 : decode cX4_copyFrom 168 = .ok (.aload_n 1, 1) := by decide +kernel
theorem dX4_copyFrom_169 : decode cX4_copyFrom 169 = .ok (.getfield 165, 3) := by decide +kernel
theorem dX4_copyFrom_172 : decode cX4_copyFrom 172 = .ok (.putfield 165, 3) := by decide +kernel
theorem dX4_copyFrom_175 : decode cX4_copyFrom 175 = .ok (.aload_n 0, 1) := by decide +kernel
theorem dX4_copyFrom_176 : decode cX4_copyFrom 176 = .ok (.aload_n 1, 1) := by decide +kernel
theorem dX4_copyFrom_177 : decode cX4_copyFrom 177 = .ok (.getfield 208, 3) := by decide +kernel
theorem dX4_copyFrom_180 : decode cX4_copyFrom 180 = .ok (.putfield 208, 3) := by decide +kernel
theorem dX4_copyFrom_183 : decode cX4_copyFrom 183 = .ok (.aload_n 0, 1) := by decide +kernel
theorem dX4_copyFrom_184 : decode cX4_copyFrom 184 = .ok (.aload_n 1, 1) := by decide +kernel
theorem dX4_copyFrom_185 : decode cX4_copyFrom 185 = .ok (.getfield 174, 3) := by decide +kernel
theorem dX4_copyFrom_188 : decode cX4_copyFrom 188 = .ok (.putfield 174, 3) := by decide +kernel
theorem dX4_copyFrom_191 : decode cX4_copyFrom 191 = .ok (.aload_n 0, 1) := by decide +kernel
theorem dX4_copyFrom_192 : decode cX4_copyFrom 192 = .ok (.aload_n 1, 1) := by decide +kernel
theorem dX4_copyFrom_193 : decode cX4_copyFrom 193 = .ok (.getfield 56, 3) := by decide +kernel
theorem dX4_copyFrom_196 : decode cX4_copyFrom 196 = .ok (.putfield 56, 3) := by decide +kernel
theorem dX4_copyFrom_199 : decode cX4_copyFrom 199 = .ok (.aload_n 0, 1) := by decide +kernel
theorem dX4_copyFrom_200 : decode cX4_copyFrom 200 = .ok (.aload_n 1, 1) := by decide +kernel
theorem dX4_copyFrom_201 : decode cX4_copyFrom 201 = .ok (.getfield 123, 3) := by decide +kernel
theorem dX4_copyFrom_204 : decode cX4_copyFrom 204 = .ok (.putfield 123, 3) := by decide +kernel
theorem dX4_copyFrom_207 : decode cX4_copyFrom 207 = .ok (.return_, 1) := by decide +kernel
theorem dX5_init_0 : decode cX5_init 0 = .ok (.aload_n 0, 1) := by decide +kernel
theorem dX5_init_1 : decode cX5_init 1 = .ok (.invokespecial 1, 3) := by decide +kernel
theorem dX5_init_4 : decode cX5_init 4 = .ok (.aload_n 0, 1) := by decide +kernel
theorem dX5_init_5 : decode cX5_init 5 = .ok (.new 7, 3) := by decide +kernel
theorem dX5_init_8 : decode cX5_init 8 = .ok (.dup, 1) := by decide +kernel
theorem dX5_init_9 : decode cX5_init 9 = .ok (.invokespecial 9, 3) := by decide +kernel
theorem dX5_init_12 : decode cX5_init 12 = .ok (.putfield 10, 3) := by decide +kernel
theorem dX5_init_15 : decode cX5_init 15 = .ok (.aload_n 0, 1) := by decide +kernel
theorem dX5_init_16 : decode cX5_init 16 = .ok (.iconst 2, 1) := by decide +kernel
theorem dX5_init_17 : decode cX5_init 17 = .ok (.anewarray 7, 3) := by decide +kernel
theorem dX5_init_20 : decode cX5_init 20 = .ok (.putfield 16, 3) := by decide +kernel
theorem dX5_init_23 : decode cX5_init 23 = .ok (.aload_n 0, 1) := by decide +kernel
theorem dX5_init_24 : decode cX5_init 24 = .ok (.aconst_null, 1) := by decide +kernel
theorem dX5_init_25 : decode cX5_init 25 = .ok (.putfield 20, 3) := by decide +kernel
theorem dX5_init_28 : decode cX5_init 28 = .ok (.return_, 1) := by decide +kernel
theorem dX5_addFlow_0 : decode cX5_addFlow 0 = .ok (.iload_n 1, 1) := by decide +kernel
theorem dX5_addFlow_1 : decode cX5_addFlow 1 = .ok (.iconst 1, 1) := by decide +kernel
theorem dX5_addFlow_2 : decode cX5_addFlow 2 = .ok (.if_icmp .lt 9, 3) := by decide +kernel
theorem dX5_addFlow_5 : decode cX5_addFlow 5 = .ok (.iload_n 1, 1) := by decide +kernel
theorem dX5_addFlow_6 : decode cX5_addFlow 6 = .ok (.bipush 16, 2) := by decide +kernel
theorem dX5_addFlow_8 : decode cX5_addFlow 8 = .ok (.if_icmp .le 6, 3) := by decide +kernel
theorem dX5_addFlow_11 : decode cX5_addFlow 11 = .ok (.bipush (-2), 2) := by decide +kernel
theorem dX5_addFlow_13 : decode cX5_addFlow 13 = .ok (.ireturn, 1) := by decide +kernel
theorem dX5_addFlow_14 : decode cX5_addFlow 14 = .ok (.aload_n 0, 1) := by decide +kernel
theorem dX5_addFlow_15 : decode cX5_addFlow 15 = .ok (.getfield 10, 3) := by decide +kernel
theorem dX5_addFlow_18 : decode cX5_addFlow 18 = .ok (.getfield 23, 3) := by decide +kernel
theorem dX5_addFlow_21 : decode cX5_addFlow 21 = .ok (.bipush 6, 2) := by decide +kernel
theorem dX5_addFlow_23 : decode cX5_addFlow 23 = .ok (.if_icmp .lt 6, 3) := by decide +kernel
theorem dX5_addFlow_26 : decode cX5_addFlow 26 = .ok (.bipush (-4), 2) := by decide +kernel
theorem dX5_addFlow_28 : decode cX5_addFlow 28 = .ok (.ireturn, 1) := by decide +kernel
theorem dX5_addFlow_29 : decode cX5_addFlow 29 = .ok (.aload_n 0, 1) := by decide +kernel
theorem dX5_addFlow_30 : decode cX5_addFlow 30 = .ok (.getfield 10, 3) := by decide +kernel
theorem dX5_addFlow_33 : decode cX5_addFlow 33 = .ok (.iload_n 1, 1) := by decide +kernel
theorem dX5_addFlow_34 : decode cX5_addFlow 34 = .ok (.invokevirtual 27, 3) := by decide +kernel
theorem dX5_addFlow_37 : decode cX5_addFlow 37 = .ok (.ireturn, 1) := by decide +kernel
theorem dX5_set_0 : decode cX5_set 0 = .ok (.aload_n 0, 1) := by decide +kernel
theorem dX5_set_1 : decode cX5_set 1 = .ok (.getfield 10, 3) := by decide +kernel
theorem dX5_set_4 : decode cX5_set 4 = .ok (.iload_n 1, 1) := by decide +kernel
theorem dX5_set_5 : decode cX5_set 5 = .ok (.invokevirtual 31, 3) := by decide +kernel
theorem dX5_set_8 : decode cX5_set 8 = .ok (.ifCond .ne 5, 3) := by decide +kernel
theorem dX5_set_11 : decode cX5_set 11 = .ok (.iconst (-1), 1) := by decide +kernel
theorem dX5_set_12 : decode cX5_set 12 = .ok (.ireturn, 1) := by decide +kernel
theorem dX5_set_13 : decode cX5_set 13 = .ok (.iload_n 2, 1) := by decide +kernel
theorem dX5_set_14 : decode cX5_set 14 = .ok (.ifCond .lt 8, 3) := by decide +kernel
theorem dX5_set_17 : decode cX5_set 17 = .ok (.iload_n 2, 1) := by decide +kernel
theorem dX5_set_18 : decode cX5_set 18 = .ok (.iconst 4, 1) := by decide +kernel
theorem dX5_set_19 : decode cX5_set 19 = .ok (.if_icmp .le 6, 3) := by decide +kernel
theorem dX5_set_22 : decode cX5_set 22 = .ok (.bipush (-2), 2) := by decide +kernel
theorem dX5_set_24 : decode cX5_set 24 = .ok (.ireturn, 1) := by decide +kernel
theorem dX5_set_25 : decode cX5_set 25 = .ok (.iload_n 3, 1) := by decide +kernel
theorem dX5_set_26 : decode cX5_set 26 = .ok (.getstatic 35, 3) := by decide +kernel
theorem dX5_set_29 : decode cX5_set 29 = .ok (.iload_n 2, 1) := by decide +kernel
theorem dX5_set_30 : decode cX5_set 30 = .ok (.iaload, 1) := by decide +kernel
theorem dX5_set_31 : decode cX5_set 31 = .ok (.if_icmp .lt 12, 3) := by decide +kernel
theorem dX5_set_34 : decode cX5_set 34 = .ok (.iload_n 3, 1) := by decide +kernel
theorem dX5_set_35 : decode cX5_set 35 = .ok (.getstatic 39, 3) := by decide +kernel
theorem dX5_set_38 : decode cX5_set 38 = .ok (.iload_n 2, 1) := by decide +kernel
theorem dX5_set_39 : decode cX5_set 39 = .ok (.iaload, 1) := by decide +kernel
theorem dX5_set_40 : decode cX5_set 40 = .ok (.if_icmp .le 6, 3) := by decide +kernel
theorem dX5_set_43 : decode cX5_set 43 = .ok (.bipush (-2), 2) := by decide +kernel
theorem dX5_set_45 : decode cX5_set 45 = .ok (.ireturn, 1) := by decide +kernel
theorem dX5_set_46 : decode cX5_set 46 = .ok (.aload_n 0, 1) := by decide +kernel
theorem dX5_set_47 : decode cX5_set 47 = .ok (.getfield 10, 3) := by decide +kernel
theorem dX5_set_50 : decode cX5_set 50 = .ok (.getfield 42, 3) := by decide +kernel
theorem dX5_set_53 : decode cX5_set 53 = .ok (.iload_n 1, 1) := by decide +kernel
theorem dX5_set_54 : decode cX5_set 54 = .ok (.aaload, 1) := by decide +kernel
theorem dX5_set_55 : decode cX5_set 55 = .ok (.getfield 46, 3) := by decide +kernel
theorem dX5_set_58 : decode cX5_set 58 = .ok (.iload_n 2, 1) := by decide +kernel
theorem dX5_set_59 : decode cX5_set 59 = .ok (.iaload, 1) := by decide +kernel
theorem dX5_set_60 : decode cX5_set 60 = .ok (.istore 4, 2) := by decide +kernel
theorem dX5_set_62 : decode cX5_set 62 = .ok (.aload_n 0, 1) := by decide +kernel
theorem dX5_set_63 : decode cX5_set 63 = .ok (.getfield 10, 3) := by decide +kernel
theorem dX5_set_66 : decode cX5_set 66 = .ok (.getfield 42, 3) := by decide +kernel
theorem dX5_set_69 : decode cX5_set 69 = .ok (.iload_n 1, 1) := by decide +kernel
theorem dX5_set_70 : decode cX5_set 70 = .ok (.aaload, 1) := by decide +kernel
theorem dX5_set_71 : decode cX5_set 71 = .ok (.getfield 46, 3) := by decide +kernel
theorem dX5_set_74 : decode cX5_set 74 = .ok (.iload_n 2, 1) := by decide +kernel
theorem dX5_set_75 : decode cX5_set 75 = .ok (.iload_n 3, 1) := by decide +kernel
theorem dX5_set_76 : decode cX5_set 76 = .ok (.iastore, 1) := by decide +kernel
theorem dX5_set_77 : decode cX5_set 77 = .ok (.iload 4, 2) := by decide +kernel
theorem dX5_set_79 : decode cX5_set 79 = .ok (.ireturn, 1) := by decide +kernel
theorem dX5_rule_0 : decode cX5_rule 0 = .ok (.iload_n 1, 1) := by decide +kernel
theorem dX5_rule_1 : decode cX5_rule 1 = .ok (.ifCond .lt 8, 3) := by decide +kernel
theorem dX5_rule_4 : decode cX5_rule 4 = .ok (.iload_n 1, 1) := by decide +kernel
theorem dX5_rule_5 : decode cX5_rule 5 = .ok (.iconst 3, 1) := by decide +kernel
theorem dX5_rule_6 : decode cX5_rule 6 = .ok (.if_icmp .le 6, 3) := by decide +kernel
theorem dX5_rule_9 : decode cX5_rule 9 = .ok (.bipush (-2), 2) := by decide +kernel
theorem dX5_rule_11 : decode cX5_rule 11 = .ok (.ireturn, 1) := by decide +kernel
theorem dX5_rule_12 : decode cX5_rule 12 = .ok (.iload_n 2, 1) := by decide +kernel
theorem dX5_rule_13 : decode cX5_rule 13 = .ok (.ifCond .lt 12, 3) := by decide +kernel
theorem dX5_rule_16 : decode cX5_rule 16 = .ok (.iload_n 2, 1) := by decide +kernel
theorem dX5_rule_17 : decode cX5_rule 17 = .ok (.getstatic 51, 3) := by decide +kernel
theorem dX5_rule_20 : decode cX5_rule 20 = .ok (.iload_n 1, 1) := by decide +kernel
theorem dX5_rule_21 : decode cX5_rule 21 = .ok (.iaload, 1) := by decide +kernel
theorem dX5_rule_22 : decode cX5_rule 22 = .ok (.if_icmp .le 6, 3) := by decide +kernel
theorem dX5_rule_25 : decode cX5_rule 25 = .ok (.bipush (-2), 2) := by decide +kernel
theorem dX5_rule_27 : decode cX5_rule 27 = .ok (.ireturn, 1) := by decide +kernel
theorem dX5_rule_28 : decode cX5_rule 28 = .ok (.aload_n 0, 1) := by decide +kernel
theorem dX5_rule_29 : decode cX5_rule 29 = .ok (.getfield 10, 3) := by decide +kernel
theorem dX5_rule_32 : decode cX5_rule 32 = .ok (.getfield 54, 3) := by decide +kernel
theorem dX5_rule_35 : decode cX5_rule 35 = .ok (.iload_n 1, 1) := by decide +kernel
theorem dX5_rule_36 : decode cX5_rule 36 = .ok (.iaload, 1) := by decide +kernel
theorem dX5_rule_37 : decode cX5_rule 37 = .ok (.istore_n 3, 1) := by decide +kernel
theorem dX5_rule_38 : decode cX5_rule 38 = .ok (.aload_n 0, 1) := by decide +kernel
theorem dX5_rule_39 : decode cX5_rule 39 = .ok (.getfield 10, 3) := by decide +kernel
theorem dX5_rule_42 : decode cX5_rule 42 = .ok (.getfield 54, 3) := by decide +kernel
theorem dX5_rule_45 : decode cX5_rule 45 = .ok (.iload_n 1, 1) := by decide +kernel
theorem dX5_rule_46 : decode cX5_rule 46 = .ok (.iload_n 2, 1) := by decide +kernel
theorem dX5_rule_47 : decode cX5_rule 47 = .ok (.iastore, 1) := by decide +kernel
theorem dX5_rule_48 : decode cX5_rule 48 = .ok (.iload_n 3, 1) := by decide +kernel
theorem dX5_rule_49 : decode cX5_rule 49 = .ok (.ireturn, 1) := by decide +kernel
theorem dX5_offer_0 : decode cX5_offer 0 = .ok (.aload_n 0, 1) := by decide +kernel
theorem dX5_offer_1 : decode cX5_offer 1 = .ok (.getfield 10, 3) := by decide +kernel
theorem dX5_offer_4 : decode cX5_offer 4 = .ok (.iload_n 1, 1) := by decide +kernel
theorem dX5_offer_5 : decode cX5_offer 5 = .ok (.invokevirtual 31, 3) := by decide +kernel
theorem dX5_offer_8 : decode cX5_offer 8 = .ok (.ifCond .ne 5, 3) := by decide +kernel
theorem dX5_offer_11 : decode cX5_offer 11 = .ok (.iconst (-1), 1) := by decide +kernel
theorem dX5_offer_12 : decode cX5_offer 12 = .ok (.ireturn, 1) := by decide +kernel
theorem dX5_offer_13 : decode cX5_offer 13 = .ok (.iload_n 2, 1) := by decide +kernel
theorem dX5_offer_14 : decode cX5_offer 14 = .ok (.iconst 1, 1) := by decide +kernel
theorem dX5_offer_15 : decode cX5_offer 15 = .ok (.if_icmp .lt 21, 3) := by decide +kernel
theorem dX5_offer_18 : decode cX5_offer 18 = .ok (.iload_n 2, 1) := by decide +kernel
theorem dX5_offer_19 : decode cX5_offer 19 = .ok (.sipush 2000, 3) := by decide +kernel
theorem dX5_offer_22 : decode cX5_offer 22 = .ok (.if_icmp .gt 14, 3) := by decide +kernel
theorem dX5_offer_25 : decode cX5_offer 25 = .ok (.iload_n 3, 1) := by decide +kernel
theorem dX5_offer_26 : decode cX5_offer 26 = .ok (.ifCond .lt 10, 3) := by decide +kernel
theorem dX5_offer_29 : decode cX5_offer 29 = .ok (.iload_n 3, 1) := by decide +kernel
theorem dX5_offer_30 : decode cX5_offer 30 = .ok (.sipush 9999, 3) := by decide +kernel
theorem dX5_offer_33 : decode cX5_offer 33 = .ok (.if_icmp .le 6, 3) := by decide +kernel
theorem dX5_offer_36 : decode cX5_offer 36 = .ok (.bipush (-2), 2) := by decide +kernel
theorem dX5_offer_38 : decode cX5_offer 38 = .ok (.ireturn, 1) := by decide +kernel
theorem dX5_offer_39 : decode cX5_offer 39 = .ok (.aload_n 0, 1) := by decide +kernel
theorem dX5_offer_40 : decode cX5_offer 40 = .ok (.getfield 10, 3) := by decide +kernel
theorem dX5_offer_43 : decode cX5_offer 43 = .ok (.iload_n 1, 1) := by decide +kernel
theorem dX5_offer_44 : decode cX5_offer 44 = .ok (.invokevirtual 55, 3) := by decide +kernel
theorem dX5_offer_47 : decode cX5_offer 47 = .ok (.ifCond .ne 6, 3) := by decide +kernel
theorem dX5_offer_50 : decode cX5_offer 50 = .ok (.bipush (-4), 2) := by decide +kernel
theorem dX5_offer_52 : decode cX5_offer 52 = .ok (.ireturn, 1) := by decide +kernel
theorem dX5_offer_53 : decode cX5_offer 53 = .ok (.aload_n 0, 1) := by decide +kernel
theorem dX5_offer_54 : decode cX5_offer 54 = .ok (.getfield 10, 3) := by decide +kernel
theorem dX5_offer_57 : decode cX5_offer 57 = .ok (.iload_n 1, 1) := by decide +kernel
theorem dX5_offer_58 : decode cX5_offer 58 = .ok (.iload_n 2, 1) := by decide +kernel
theorem dX5_offer_59 : decode cX5_offer 59 = .ok (.iload_n 3, 1) := by decide +kernel
theorem dX5_offer_60 : decode cX5_offer 60 = .ok (.invokevirtual 58, 3) := by decide +kernel
theorem dX5_offer_63 : decode cX5_offer 63 = .ok (.ireturn, 1) := by decide +kernel
theorem dX5_cancel_0 : decode cX5_cancel 0 = .ok (.aload_n 0, 1) := by decide +kernel
theorem dX5_cancel_1 : decode cX5_cancel 1 = .ok (.getfield 10, 3) := by decide +kernel
theorem dX5_cancel_4 : decode cX5_cancel 4 = .ok (.iload_n 1, 1) := by decide +kernel
theorem dX5_cancel_5 : decode cX5_cancel 5 = .ok (.invokevirtual 62, 3) := by decide +kernel
theorem dX5_cancel_8 : decode cX5_cancel 8 = .ok (.ifCond .ne 5, 3) := by decide +kernel
theorem dX5_cancel_11 : decode cX5_cancel 11 = .ok (.iconst (-1), 1) := by decide +kernel
theorem dX5_cancel_12 : decode cX5_cancel 12 = .ok (.ireturn, 1) := by decide +kernel
theorem dX5_cancel_13 : decode cX5_cancel 13 = .ok (.aload_n 0, 1) := by decide +kernel
theorem dX5_cancel_14 : decode cX5_cancel 14 = .ok (.getfield 10, 3) := by decide +kernel
theorem dX5_cancel_17 : decode cX5_cancel 17 = .ok (.iload_n 1, 1) := by decide +kernel
theorem dX5_cancel_18 : decode cX5_cancel 18 = .ok (.invokevirtual 65, 3) := by decide +kernel
theorem dX5_cancel_21 : decode cX5_cancel 21 = .ok (.astore_n 2, 1) := by decide +kernel
theorem dX5_cancel_22 : decode cX5_cancel 22 = .ok (.aload_n 2, 1) := by decide +kernel
theorem dX5_cancel_23 : decode cX5_cancel 23 = .ok (.getfield 69, 3) := by decide +kernel
theorem dX5_cancel_26 : decode cX5_cancel 26 = .ok (.ifCond .ne 10, 3) := by decide +kernel
theorem dX5_cancel_29 : decode cX5_cancel 29 = .ok (.aload_n 2, 1) := by decide +kernel
theorem dX5_cancel_30 : decode cX5_cancel 30 = .ok (.getfield 74, 3) := by decide +kernel
theorem dX5_cancel_33 : decode cX5_cancel 33 = .ok (.ifCond .le 6, 3) := by decide +kernel
theorem dX5_cancel_36 : decode cX5_cancel 36 = .ok (.bipush (-5), 2) := by decide +kernel
theorem dX5_cancel_38 : decode cX5_cancel 38 = .ok (.ireturn, 1) := by decide +kernel
theorem dX5_cancel_39 : decode cX5_cancel 39 = .ok (.aload_n 0, 1) := by decide +kernel
theorem dX5_cancel_40 : decode cX5_cancel 40 = .ok (.getfield 10, 3) := by decide +kernel
theorem dX5_cancel_43 : decode cX5_cancel 43 = .ok (.getfield 42, 3) := by decide +kernel
theorem dX5_cancel_46 : decode cX5_cancel 46 = .ok (.aload_n 2, 1) := by decide +kernel
theorem dX5_cancel_47 : decode cX5_cancel 47 = .ok (.getfield 77, 3) := by decide +kernel
theorem dX5_cancel_50 : decode cX5_cancel 50 = .ok (.aaload, 1) := by decide +kernel
theorem dX5_cancel_51 : decode cX5_cancel 51 = .ok (.astore_n 3, 1) := by decide +kernel
theorem dX5_cancel_52 : decode cX5_cancel 52 = .ok (.aload_n 2, 1) := by decide +kernel
theorem dX5_cancel_53 : decode cX5_cancel 53 = .ok (.iconst 4, 1) := by decide +kernel
theorem dX5_cancel_54 : decode cX5_cancel 54 = .ok (.putfield 69, 3) := by decide +kernel
theorem dX5_cancel_57 : decode cX5_cancel 57 = .ok (.aload_n 3, 1) := by decide +kernel
theorem dX5_cancel_58 : decode cX5_cancel 58 = .ok (.iload_n 1, 1) := by decide +kernel
theorem dX5_cancel_59 : decode cX5_cancel 59 = .ok (.invokevirtual 80, 3) := by decide +kernel
theorem dX5_cancel_62 : decode cX5_cancel 62 = .ok (.aload_n 3, 1) := by decide +kernel
theorem dX5_cancel_63 : decode cX5_cancel 63 = .ok (.getfield 84, 3) := by decide +kernel
theorem dX5_cancel_66 : decode cX5_cancel 66 = .ok (.ireturn, 1) := by decide +kernel
theorem dX5_packet_0 : decode cX5_packet 0 = .ok (.aload_n 0, 1) := by decide +kernel
theorem dX5_packet_1 : decode cX5_packet 1 = .ok (.getfield 10, 3) := by decide +kernel
theorem dX5_packet_4 : decode cX5_packet 4 = .ok (.iload_n 1, 1) := by decide +kernel
theorem dX5_packet_5 : decode cX5_packet 5 = .ok (.invokevirtual 62, 3) := by decide +kernel
theorem dX5_packet_8 : decode cX5_packet 8 = .ok (.ifCond .ne 5, 3) := by decide +kernel
theorem dX5_packet_11 : decode cX5_packet 11 = .ok (.iconst (-1), 1) := by decide +kernel
theorem dX5_packet_12 : decode cX5_packet 12 = .ok (.ireturn, 1) := by decide +kernel
theorem dX5_packet_13 : decode cX5_packet 13 = .ok (.aload_n 0, 1) := by decide +kernel
theorem dX5_packet_14 : decode cX5_packet 14 = .ok (.getfield 10, 3) := by decide +kernel
theorem dX5_packet_17 : decode cX5_packet 17 = .ok (.iload_n 1, 1) := by decide +kernel
theorem dX5_packet_18 : decode cX5_packet 18 = .ok (.invokevirtual 65, 3) := by decide +kernel
theorem dX5_packet_21 : decode cX5_packet 21 = .ok (.astore_n 3, 1) := by decide +kernel
theorem dX5_packet_22 : decode cX5_packet 22 = .ok (.iload_n 2, 1) := by decide +kernel
theorem dX5_packet_23 : decode cX5_packet 23 = .ok (.tableswitch 122 0 9 #[53, 58, 63, 68, 73, 78, 83, 88, 93, 98], 53) := by decide +kernel
theorem dX5_packet_76 : decode cX5_packet 76 = .ok (.aload_n 3, 1) := by decide +kernel
theorem dX5_packet_77 : decode cX5_packet 77 = .ok (.getfield 77, 3) := by decide +kernel
theorem dX5_packet_80 : decode cX5_packet 80 = .ok (.ireturn, 1) := by decide +kernel
theorem dX5_packet_81 : decode cX5_packet 81 = .ok (.aload_n 3, 1) := by decide +kernel
theorem dX5_packet_82 : decode cX5_packet 82 = .ok (.getfield 87, 3) := by decide +kernel
theorem dX5_packet_85 : decode cX5_packet 85 = .ok (.ireturn, 1) := by decide +kernel
theorem dX5_packet_86 : decode cX5_packet 86 = .ok (.aload_n 3, 1) := by decide +kernel
theorem dX5_packet_87 : decode cX5_packet 87 = .ok (.getfield 90, 3) := by decide +kernel
theorem dX5_packet_90 : decode cX5_packet 90 = .ok (.ireturn, 1) := by decide +kernel
theorem dX5_packet_91 : decode cX5_packet 91 = .ok (.aload_n 3, 1) := by decide +kernel
theorem dX5_packet_92 : decode cX5_packet 92 = .ok (.getfield 93, 3) := by decide +kernel
theorem dX5_packet_95 : decode cX5_packet 95 = .ok (.ireturn, 1) := by decide +kernel
theorem dX5_packet_96 : decode cX5_packet 96 = .ok (.aload_n 3, 1) := by decide +kernel
theorem dX5_packet_97 : decode cX5_packet 97 = .ok (.getfield 69, 3) := by decide +kernel
theorem dX5_packet_100 : decode cX5_packet 100 = .ok (.ireturn, 1) := by decide +kernel
theorem dX5_packet_101 : decode cX5_packet 101 = .ok (.aload_n 3, 1) := by decide +kernel
theorem dX5_packet_102 : decode cX5_packet 102 = .ok (.getfield 74, 3) := by decide +kernel
theorem dX5_packet_105 : decode cX5_packet 105 = .ok (.ireturn, 1) := by decide +kernel
theorem dX5_packet_106 : decode cX5_packet 106 = .ok (.aload_n 3, 1) := by decide +kernel
theorem dX5_packet_107 : decode cX5_packet 107 = .ok (.getfield 96, 3) := by decide +kernel
theorem dX5_packet_110 : decode cX5_packet 110 = .ok (.ireturn, 1) := by decide +kernel
theorem dX5_packet_111 : decode cX5_packet 111 = .ok (.aload_n 3, 1) := by decide +kernel
theorem dX5_packet_112 : decode cX5_packet 112 = .ok (.getfield 99, 3) := by decide +kernel
theorem dX5_packet_115 : decode cX5_packet 115 = .ok (.ireturn, 1) := by decide +kernel
theorem dX5_packet_116 : decode cX5_packet 116 = .ok (.aload_n 3, 1) := by decide +kernel
theorem dX5_packet_117 : decode cX5_packet 117 = .ok (.getfield 102, 3) := by decide +kernel
theorem dX5_packet_120 : decode cX5_packet 120 = .ok (.ireturn, 1) := by decide +kernel
theorem dX5_packet_121 : decode cX5_packet 121 = .ok (.aload_n 3, 1) := by decide +kernel
theorem dX5_packet_122 : decode cX5_packet 122 = .ok (.invokevirtual 105, 3) := by decide +kernel
theorem dX5_packet_125 : decode cX5_packet 125 = .ok (.ifCond .eq 18, 3) := by decide +kernel
theorem dX5_packet_128 : decode cX5_packet 128 = .ok (.aload_n 0, 1) := by decide +kernel
theorem dX5_packet_129 : decode cX5_packet 129 = .ok (.getfield 10, 3) := by decide +kernel
theorem dX5_packet_132 : decode cX5_packet 132 = .ok (.aload_n 3, 1) := by decide +kernel
theorem dX5_packet_133 : decode cX5_packet 133 = .ok (.invokevirtual 109, 3) := by decide +kernel
theorem dX5_packet_136 : decode cX5_packet 136 = .ok (.ifCond .eq 7, 3) := by decide +kernel
theorem dX5_packet_139 : decode cX5_packet 139 = .ok (.iconst 1, 1) := by decide +kernel
theorem dX5_packet_140 : decode cX5_packet 140 = .ok (.goto 4, 3) := by decide +kernel
theorem dX5_packet_143 : decode cX5_packet 143 = .ok (.iconst 0, 1) := by decide +kernel
theorem dX5_packet_144 : decode cX5_packet 144 = .ok (.ireturn, 1) := by decide +kernel
theorem dX5_packet_145 : decode cX5_packet 145 = .ok (.bipush (-2), 2) := by decide +kernel
theorem dX5_packet_147 : decode cX5_packet 147 = .ok (.ireturn, 1) := by decide +kernel
theorem dX5_start_0 : decode cX5_start 0 = .ok (.aload_n 0, 1) := by decide +kernel
theorem dX5_start_1 : decode cX5_start 1 = .ok (.getfield 10, 3) := by decide +kernel
theorem dX5_start_4 : decode cX5_start 4 = .ok (.iload_n 1, 1) := by decide +kernel
theorem dX5_start_5 : decode cX5_start 5 = .ok (.invokevirtual 62, 3) := by decide +kernel
theorem dX5_start_8 : decode cX5_start 8 = .ok (.ifCond .ne 7, 3) := by decide +kernel
theorem dX5_start_11 : decode cX5_start 11 = .ok (.ldc2_w 113, 3) := by decide +kernel
theorem dX5_start_14 : decode cX5_start 14 = .ok (.lreturn, 1) := by decide +kernel
theorem dX5_start_15 : decode cX5_start 15 = .ok (.aload_n 0, 1) := by decide +kernel
theorem dX5_start_16 : decode cX5_start 16 = .ok (.getfield 10, 3) := by decide +kernel
theorem dX5_start_19 : decode cX5_start 19 = .ok (.iload_n 1, 1) := by decide +kernel
theorem dX5_start_20 : decode cX5_start 20 = .ok (.invokevirtual 65, 3) := by decide +kernel
theorem dX5_start_23 : decode cX5_start 23 = .ok (.getfield 115, 3) := by decide +kernel
theorem dX5_start_26 : decode cX5_start 26 = .ok (.lreturn, 1) := by decide +kernel
theorem dX5_put_0 : decode cX5_put 0 = .ok (.lload_n 1, 1) := by decide +kernel
theorem dX5_put_1 : decode cX5_put 1 = .ok (.invokestatic 119, 3) := by decide +kernel
theorem dX5_put_4 : decode cX5_put 4 = .ok (.istore_n 3, 1) := by decide +kernel
theorem dX5_put_5 : decode cX5_put 5 = .ok (.iload_n 3, 1) := by decide +kernel
theorem dX5_put_6 : decode cX5_put 6 = .ok (.iconst 1, 1) := by decide +kernel
theorem dX5_put_7 : decode cX5_put 7 = .ok (.if_icmp .ge 6, 3) := by decide +kernel
theorem dX5_put_10 : decode cX5_put 10 = .ok (.bipush (-2), 2) := by decide +kernel
theorem dX5_put_12 : decode cX5_put 12 = .ok (.ireturn, 1) := by decide +kernel
theorem dX5_put_13 : decode cX5_put 13 = .ok (.aload_n 0, 1) := by decide +kernel
theorem dX5_put_14 : decode cX5_put 14 = .ok (.getfield 10, 3) := by decide +kernel
theorem dX5_put_17 : decode cX5_put 17 = .ok (.getfield 123, 3) := by decide +kernel
theorem dX5_put_20 : decode cX5_put 20 = .ok (.getfield 127, 3) := by decide +kernel
theorem dX5_put_23 : decode cX5_put 23 = .ok (.iload_n 3, 1) := by decide +kernel
theorem dX5_put_24 : decode cX5_put 24 = .ok (.iadd, 1) := by decide +kernel
theorem dX5_put_25 : decode cX5_put 25 = .ok (.bipush 80, 2) := by decide +kernel
theorem dX5_put_27 : decode cX5_put 27 = .ok (.if_icmp .le 6, 3) := by decide +kernel
theorem dX5_put_30 : decode cX5_put 30 = .ok (.bipush (-4), 2) := by decide +kernel
theorem dX5_put_32 : decode cX5_put 32 = .ok (.ireturn, 1) := by decide +kernel
theorem dX5_put_33 : decode cX5_put 33 = .ok (.aload_n 0, 1) := by decide +kernel
theorem dX5_put_34 : decode cX5_put 34 = .ok (.getfield 10, 3) := by decide +kernel
theorem dX5_put_37 : decode cX5_put 37 = .ok (.getfield 123, 3) := by decide +kernel
theorem dX5_put_40 : decode cX5_put 40 = .ok (.lload_n 1, 1) := by decide +kernel
theorem dX5_put_41 : decode cX5_put 41 = .ok (.iload_n 3, 1) := by decide +kernel
theorem dX5_put_42 : decode cX5_put 42 = .ok (.invokevirtual 132, 3) := by decide +kernel
theorem dX5_put_45 : decode cX5_put 45 = .ok (.aload_n 0, 1) := by decide +kernel
theorem dX5_put_46 : decode cX5_put 46 = .ok (.getfield 10, 3) := by decide +kernel
theorem dX5_put_49 : decode cX5_put 49 = .ok (.getfield 123, 3) := by decide +kernel
theorem dX5_put_52 : decode cX5_put 52 = .ok (.getfield 127, 3) := by decide +kernel
theorem dX5_put_55 : decode cX5_put 55 = .ok (.ireturn, 1) := by decide +kernel
theorem dX5_wipe_0 : decode cX5_wipe 0 = .ok (.aload_n 0, 1) := by decide +kernel
theorem dX5_wipe_1 : decode cX5_wipe 1 = .ok (.getfield 10, 3) := by decide +kernel
theorem dX5_wipe_4 : decode cX5_wipe 4 = .ok (.getfield 123, 3) := by decide +kernel
theorem dX5_wipe_7 : decode cX5_wipe 7 = .ok (.getfield 127, 3) := by decide +kernel
theorem dX5_wipe_10 : decode cX5_wipe 10 = .ok (.istore_n 1, 1) := by decide +kernel
theorem dX5_wipe_11 : decode cX5_wipe 11 = .ok (.aload_n 0, 1) := by decide +kernel
theorem dX5_wipe_12 : decode cX5_wipe 12 = .ok (.getfield 10, 3) := by decide +kernel
theorem dX5_wipe_15 : decode cX5_wipe 15 = .ok (.getfield 123, 3) := by decide +kernel
theorem dX5_wipe_18 : decode cX5_wipe 18 = .ok (.iconst 0, 1) := by decide +kernel
theorem dX5_wipe_19 : decode cX5_wipe 19 = .ok (.putfield 127, 3) := by decide +kernel
theorem dX5_wipe_22 : decode cX5_wipe 22 = .ok (.iload_n 1, 1) := by decide +kernel
theorem dX5_wipe_23 : decode cX5_wipe 23 = .ok (.ireturn, 1) := by decide +kernel
theorem dX5_fault_0 : decode cX5_fault 0 = .ok (.aload_n 0, 1) := by decide +kernel
theorem dX5_fault_1 : decode cX5_fault 1 = .ok (.getfield 10, 3) := by decide +kernel
theorem dX5_fault_4 : decode cX5_fault 4 = .ok (.getfield 123, 3) := by decide +kernel
theorem dX5_fault_7 : decode cX5_fault 7 = .ok (.invokevirtual 136, 3) := by decide +kernel
theorem dX5_fault_10 : decode cX5_fault 10 = .ok (.ireturn, 1) := by decide +kernel
theorem dX5_load_0 : decode cX5_load 0 = .ok (.aload_n 0, 1) := by decide +kernel
theorem dX5_load_1 : decode cX5_load 1 = .ok (.getfield 10, 3) := by decide +kernel
theorem dX5_load_4 : decode cX5_load 4 = .ok (.getfield 123, 3) := by decide +kernel
theorem dX5_load_7 : decode cX5_load 7 = .ok (.invokevirtual 136, 3) := by decide +kernel
theorem dX5_load_10 : decode cX5_load 10 = .ok (.bipush (-6), 2) := by decide +kernel
theorem dX5_load_12 : decode cX5_load 12 = .ok (.if_icmp .eq 6, 3) := by decide +kernel
theorem dX5_load_15 : decode cX5_load 15 = .ok (.bipush (-3), 2) := by decide +kernel
theorem dX5_load_17 : decode cX5_load 17 = .ok (.ireturn, 1) := by decide +kernel
theorem dX5_load_18 : decode cX5_load 18 = .ok (.aload_n 0, 1) := by decide +kernel
theorem dX5_load_19 : decode cX5_load 19 = .ok (.invokevirtual 140, 3) := by decide +kernel
theorem dX5_load_22 : decode cX5_load 22 = .ok (.ifCond .ne 5, 3) := by decide +kernel
theorem dX5_load_25 : decode cX5_load 25 = .ok (.iconst (-1), 1) := by decide +kernel
theorem dX5_load_26 : decode cX5_load 26 = .ok (.ireturn, 1) := by decide +kernel
theorem dX5_load_27 : decode cX5_load 27 = .ok (.aload_n 0, 1) := by decide +kernel
theorem dX5_load_28 : decode cX5_load 28 = .ok (.invokevirtual 143, 3) := by decide +kernel
theorem dX5_load_31 : decode cX5_load 31 = .ok (.istore_n 1, 1) := by decide +kernel
theorem dX5_load_32 : decode cX5_load 32 = .ok (.aload_n 0, 1) := by decide +kernel
theorem dX5_load_33 : decode cX5_load 33 = .ok (.getfield 10, 3) := by decide +kernel
theorem dX5_load_36 : decode cX5_load 36 = .ok (.getfield 123, 3) := by decide +kernel
theorem dX5_load_39 : decode cX5_load 39 = .ok (.iconst 0, 1) := by decide +kernel
theorem dX5_load_40 : decode cX5_load 40 = .ok (.putfield 127, 3) := by decide +kernel
theorem dX5_load_43 : decode cX5_load 43 = .ok (.iload_n 1, 1) := by decide +kernel
theorem dX5_load_44 : decode cX5_load 44 = .ok (.ireturn, 1) := by decide +kernel
theorem dX5_advance_0 : decode cX5_advance 0 = .ok (.iload_n 1, 1) := by decide +kernel
theorem dX5_advance_1 : decode cX5_advance 1 = .ok (.iconst 1, 1) := by decide +kernel
theorem dX5_advance_2 : decode cX5_advance 2 = .ok (.if_icmp .lt 10, 3) := by decide +kernel
theorem dX5_advance_5 : decode cX5_advance 5 = .ok (.iload_n 1, 1) := by decide +kernel
theorem dX5_advance_6 : decode cX5_advance 6 = .ok (.sipush 2000, 3) := by decide +kernel
theorem dX5_advance_9 : decode cX5_advance 9 = .ok (.if_icmp .le 6, 3) := by decide +kernel
theorem dX5_advance_12 : decode cX5_advance 12 = .ok (.bipush (-2), 2) := by decide +kernel
theorem dX5_advance_14 : decode cX5_advance 14 = .ok (.ireturn, 1) := by decide +kernel
theorem dX5_advance_15 : decode cX5_advance 15 = .ok (.aload_n 0, 1) := by decide +kernel
theorem dX5_advance_16 : decode cX5_advance 16 = .ok (.getfield 10, 3) := by decide +kernel
theorem dX5_advance_19 : decode cX5_advance 19 = .ok (.getfield 146, 3) := by decide +kernel
theorem dX5_advance_22 : decode cX5_advance 22 = .ok (.iload_n 1, 1) := by decide +kernel
theorem dX5_advance_23 : decode cX5_advance 23 = .ok (.iadd, 1) := by decide +kernel
theorem dX5_advance_24 : decode cX5_advance 24 = .ok (.ldc 149, 2) := by decide +kernel
theorem dX5_advance_26 : decode cX5_advance 26 = .ok (.if_icmp .le 6, 3) := by decide +kernel
theorem dX5_advance_29 : decode cX5_advance 29 = .ok (.bipush (-5), 2) := by decide +kernel
theorem dX5_advance_31 : decode cX5_advance 31 = .ok (.ireturn, 1) := by decide +kernel
theorem dX5_advance_32 : decode cX5_advance 32 = .ok (.iconst 0, 1) := by decide +kernel
theorem dX5_advance_33 : decode cX5_advance 33 = .ok (.istore_n 2, 1) := by decide +kernel
theorem dX5_advance_34 : decode cX5_advance 34 = .ok (.iload_n 2, 1) := by decide +kernel
theorem dX5_advance_35 : decode cX5_advance 35 = .ok (.iload_n 1, 1) := by decide +kernel
theorem dX5_advance_36 : decode cX5_advance 36 = .ok (.if_icmp .ge 16, 3) := by decide +kernel
theorem dX5_advance_39 : decode cX5_advance 39 = .ok (.aload_n 0, 1) := by decide +kernel
theorem dX5_advance_40 : decode cX5_advance 40 = .ok (.getfield 10, 3) := by decide +kernel
theorem dX5_advance_43 : decode cX5_advance 43 = .ok (.invokevirtual 150, 3) := by decide +kernel
theorem dX5_advance_46 : decode cX5_advance 46 = .ok (.iinc 2 1, 3) := by decide +kernel
theorem dX5_advance_49 : decode cX5_advance 49 = .ok (.goto (-15), 3) := by decide +kernel
theorem dX5_advance_52 : decode cX5_advance 52 = .ok (.aload_n 0, 1) := by decide +kernel
theorem dX5_advance_53 : decode cX5_advance 53 = .ok (.getfield 10, 3) := by decide +kernel
theorem dX5_advance_56 : decode cX5_advance 56 = .ok (.getfield 146, 3) := by decide +kernel
theorem dX5_advance_59 : decode cX5_advance 59 = .ok (.ireturn, 1) := by decide +kernel
theorem dX5_awaitDelivery_0 : decode cX5_awaitDelivery 0 = .ok (.iload_n 1, 1) := by decide +kernel
theorem dX5_awaitDelivery_1 : decode cX5_awaitDelivery 1 = .ok (.iconst 1, 1) := by decide +kernel
theorem dX5_awaitDelivery_2 : decode cX5_awaitDelivery 2 = .ok (.if_icmp .lt 10, 3) := by decide +kernel
theorem dX5_awaitDelivery_5 : decode cX5_awaitDelivery 5 = .ok (.iload_n 1, 1) := by decide +kernel
theorem dX5_awaitDelivery_6 : decode cX5_awaitDelivery 6 = .ok (.sipush 2000, 3) := by decide +kernel
theorem dX5_awaitDelivery_9 : decode cX5_awaitDelivery 9 = .ok (.if_icmp .le 6, 3) := by decide +kernel
theorem dX5_awaitDelivery_12 : decode cX5_awaitDelivery 12 = .ok (.bipush (-2), 2) := by decide +kernel
theorem dX5_awaitDelivery_14 : decode cX5_awaitDelivery 14 = .ok (.ireturn, 1) := by decide +kernel
theorem dX5_awaitDelivery_15 : decode cX5_awaitDelivery 15 = .ok (.aload_n 0, 1) := by decide +kernel
theorem dX5_awaitDelivery_16 : decode cX5_awaitDelivery 16 = .ok (.getfield 10, 3) := by decide +kernel
theorem dX5_awaitDelivery_19 : decode cX5_awaitDelivery 19 = .ok (.getfield 146, 3) := by decide +kernel
theorem dX5_awaitDelivery_22 : decode cX5_awaitDelivery 22 = .ok (.iload_n 1, 1) := by decide +kernel
theorem dX5_awaitDelivery_23 : decode cX5_awaitDelivery 23 = .ok (.iadd, 1) := by decide +kernel
theorem dX5_awaitDelivery_24 : decode cX5_awaitDelivery 24 = .ok (.ldc 149, 2) := by decide +kernel
theorem dX5_awaitDelivery_26 : decode cX5_awaitDelivery 26 = .ok (.if_icmp .le 6, 3) := by decide +kernel
theorem dX5_awaitDelivery_29 : decode cX5_awaitDelivery 29 = .ok (.bipush (-5), 2) := by decide +kernel
theorem dX5_awaitDelivery_31 : decode cX5_awaitDelivery 31 = .ok (.ireturn, 1) := by decide +kernel
theorem dX5_awaitDelivery_32 : decode cX5_awaitDelivery 32 = .ok (.iconst 0, 1) := by decide +kernel
theorem dX5_awaitDelivery_33 : decode cX5_awaitDelivery 33 = .ok (.istore_n 2, 1) := by decide +kernel
theorem dX5_awaitDelivery_34 : decode cX5_awaitDelivery 34 = .ok (.iload_n 2, 1) := by decide +kernel
theorem dX5_awaitDelivery_35 : decode cX5_awaitDelivery 35 = .ok (.iload_n 1, 1) := by decide +kernel
theorem dX5_awaitDelivery_36 : decode cX5_awaitDelivery 36 = .ok (.if_icmp .ge 36, 3) := by decide +kernel
theorem dX5_awaitDelivery_39 : decode cX5_awaitDelivery 39 = .ok (.aload_n 0, 1) := by decide +kernel
theorem dX5_awaitDelivery_40 : decode cX5_awaitDelivery 40 = .ok (.getfield 10, 3) := by decide +kernel
theorem dX5_awaitDelivery_43 : decode cX5_awaitDelivery 43 = .ok (.invokevirtual 150, 3) := by decide +kernel
theorem dX5_awaitDelivery_46 : decode cX5_awaitDelivery 46 = .ok (.aload_n 0, 1) := by decide +kernel
theorem dX5_awaitDelivery_47 : decode cX5_awaitDelivery 47 = .ok (.getfield 10, 3) := by decide +kernel
theorem dX5_awaitDelivery_50 : decode cX5_awaitDelivery 50 = .ok (.getfield 153, 3) := by decide +kernel
theorem dX5_awaitDelivery_53 : decode cX5_awaitDelivery 53 = .ok (.bipush (-6), 2) := by decide +kernel
theorem dX5_awaitDelivery_55 : decode cX5_awaitDelivery 55 = .ok (.if_icmp .eq 11, 3) := by decide +kernel
theorem dX5_awaitDelivery_58 : decode cX5_awaitDelivery 58 = .ok (.aload_n 0, 1) := by decide +kernel
theorem dX5_awaitDelivery_59 : decode cX5_awaitDelivery 59 = .ok (.getfield 10, 3) := by decide +kernel
theorem dX5_awaitDelivery_62 : decode cX5_awaitDelivery 62 = .ok (.getfield 153, 3) := by decide +kernel
theorem dX5_awaitDelivery_65 : decode cX5_awaitDelivery 65 = .ok (.ireturn, 1) := by decide +kernel
theorem dX5_awaitDelivery_66 : decode cX5_awaitDelivery 66 = .ok (.iinc 2 1, 3) := by decide +kernel
theorem dX5_awaitDelivery_69 : decode cX5_awaitDelivery 69 = .ok (.goto (-35), 3) := by decide +kernel
theorem dX5_awaitDelivery_72 : decode cX5_awaitDelivery 72 = .ok (.bipush (-6), 2) := by decide +kernel
theorem dX5_awaitDelivery_74 : decode cX5_awaitDelivery 74 = .ok (.ireturn, 1) := by decide +kernel
theorem dX5_flow_0 : decode cX5_flow 0 = .ok (.aload_n 0, 1) := by decide +kernel
theorem dX5_flow_1 : decode cX5_flow 1 = .ok (.getfield 10, 3) := by decide +kernel
theorem dX5_flow_4 : decode cX5_flow 4 = .ok (.iload_n 1, 1) := by decide +kernel
theorem dX5_flow_5 : decode cX5_flow 5 = .ok (.invokevirtual 31, 3) := by decide +kernel
theorem dX5_flow_8 : decode cX5_flow 8 = .ok (.ifCond .ne 5, 3) := by decide +kernel
theorem dX5_flow_11 : decode cX5_flow 11 = .ok (.iconst (-1), 1) := by decide +kernel
theorem dX5_flow_12 : decode cX5_flow 12 = .ok (.ireturn, 1) := by decide +kernel
theorem dX5_flow_13 : decode cX5_flow 13 = .ok (.aload_n 0, 1) := by decide +kernel
theorem dX5_flow_14 : decode cX5_flow 14 = .ok (.getfield 10, 3) := by decide +kernel
theorem dX5_flow_17 : decode cX5_flow 17 = .ok (.getfield 42, 3) := by decide +kernel
theorem dX5_flow_20 : decode cX5_flow 20 = .ok (.iload_n 1, 1) := by decide +kernel
theorem dX5_flow_21 : decode cX5_flow 21 = .ok (.aaload, 1) := by decide +kernel
theorem dX5_flow_22 : decode cX5_flow 22 = .ok (.astore_n 3, 1) := by decide +kernel
theorem dX5_flow_23 : decode cX5_flow 23 = .ok (.iload_n 2, 1) := by decide +kernel
theorem dX5_flow_24 : decode cX5_flow 24 = .ok (.ifCond .lt 15, 3) := by decide +kernel
theorem dX5_flow_27 : decode cX5_flow 27 = .ok (.iload_n 2, 1) := by decide +kernel
theorem dX5_flow_28 : decode cX5_flow 28 = .ok (.iconst 4, 1) := by decide +kernel
theorem dX5_flow_29 : decode cX5_flow 29 = .ok (.if_icmp .gt 10, 3) := by decide +kernel
theorem dX5_flow_32 : decode cX5_flow 32 = .ok (.aload_n 3, 1) := by decide +kernel
theorem dX5_flow_33 : decode cX5_flow 33 = .ok (.getfield 46, 3) := by decide +kernel
theorem dX5_flow_36 : decode cX5_flow 36 = .ok (.iload_n 2, 1) := by decide +kernel
theorem dX5_flow_37 : decode cX5_flow 37 = .ok (.iaload, 1) := by decide +kernel
theorem dX5_flow_38 : decode cX5_flow 38 = .ok (.ireturn, 1) := by decide +kernel
theorem dX5_flow_39 : decode cX5_flow 39 = .ok (.iload_n 2, 1) := by decide +kernel
theorem dX5_flow_40 : decode cX5_flow 40 = .ok (.tableswitch 110 5 14 #[56, 61, 66, 75, 80, 85, 90, 95, 100, 105], 56) := by decide +kernel
theorem dX5_flow_96 : decode cX5_flow 96 = .ok (.aload_n 3, 1) := by decide +kernel
theorem dX5_flow_97 : decode cX5_flow 97 = .ok (.getfield 84, 3) := by decide +kernel
theorem dX5_flow_100 : decode cX5_flow 100 = .ok (.ireturn, 1) := by decide +kernel
theorem dX5_flow_101 : decode cX5_flow 101 = .ok (.aload_n 3, 1) := by decide +kernel
theorem dX5_flow_102 : decode cX5_flow 102 = .ok (.invokevirtual 156, 3) := by decide +kernel
theorem dX5_flow_105 : decode cX5_flow 105 = .ok (.ireturn, 1) := by decide +kernel
theorem dX5_flow_106 : decode cX5_flow 106 = .ok (.aload_n 0, 1) := by decide +kernel
theorem dX5_flow_107 : decode cX5_flow 107 = .ok (.getfield 10, 3) := by decide +kernel
theorem dX5_flow_110 : decode cX5_flow 110 = .ok (.aload_n 3, 1) := by decide +kernel
theorem dX5_flow_111 : decode cX5_flow 111 = .ok (.invokevirtual 159, 3) := by decide +kernel
theorem dX5_flow_114 : decode cX5_flow 114 = .ok (.ireturn, 1) := by decide +kernel
theorem dX5_flow_115 : decode cX5_flow 115 = .ok (.aload_n 3, 1) := by decide +kernel
theorem dX5_flow_116 : decode cX5_flow 116 = .ok (.getfield 163, 3) := by decide +kernel
theorem dX5_flow_119 : decode cX5_flow 119 = .ok (.ireturn, 1) := by decide +kernel
theorem dX5_flow_120 : decode cX5_flow 120 = .ok (.aload_n 3, 1) := by decide +kernel
theorem dX5_flow_121 : decode cX5_flow 121 = .ok (.getfield 164, 3) := by decide +kernel
theorem dX5_flow_124 : decode cX5_flow 124 = .ok (.ireturn, 1) := by decide +kernel
theorem dX5_flow_125 : decode cX5_flow 125 = .ok (.aload_n 3, 1) := by decide +kernel
theorem dX5_flow_126 : decode cX5_flow 126 = .ok (.getfield 167, 3) := by decide +kernel
theorem dX5_flow_129 : decode cX5_flow 129 = .ok (.ireturn, 1) := by decide +kernel
theorem dX5_flow_130 : decode cX5_flow 130 = .ok (.aload_n 3, 1) := by decide +kernel
theorem dX5_flow_131 : decode cX5_flow 131 = .ok (.getfield 170, 3) := by decide +kernel
theorem dX5_flow_134 : decode cX5_flow 134 = .ok (.ireturn, 1) := by decide +kernel
theorem dX5_flow_135 : decode cX5_flow 135 = .ok (.aload_n 3, 1) := by decide +kernel
theorem dX5_flow_136 : decode cX5_flow 136 = .ok (.getfield 173, 3) := by decide +kernel
theorem dX5_flow_139 : decode cX5_flow 139 = .ok (.ireturn, 1) := by decide +kernel
theorem dX5_flow_140 : decode cX5_flow 140 = .ok (.aload_n 3, 1) := by decide +kernel
theorem dX5_flow_141 : decode cX5_flow 141 = .ok (.getfield 176, 3) := by decide +kernel
theorem dX5_flow_144 : decode cX5_flow 144 = .ok (.ireturn, 1) := by decide +kernel
theorem dX5_flow_145 : decode cX5_flow 145 = .ok (.aload_n 3, 1) := by decide +kernel
theorem dX5_flow_146 : decode cX5_flow 146 = .ok (.getfield 179, 3) := by decide +kernel
theorem dX5_flow_149 : decode cX5_flow 149 = .ok (.ireturn, 1) := by decide +kernel
theorem dX5_flow_150 : decode cX5_flow 150 = .ok (.bipush (-2), 2) := by decide +kernel
theorem dX5_flow_152 : decode cX5_flow 152 = .ok (.ireturn, 1) := by decide +kernel
theorem dX5_amount_0 : decode cX5_amount 0 = .ok (.aload_n 0, 1) := by decide +kernel
theorem dX5_amount_1 : decode cX5_amount 1 = .ok (.getfield 10, 3) := by decide +kernel
theorem dX5_amount_4 : decode cX5_amount 4 = .ok (.iload_n 1, 1) := by decide +kernel
theorem dX5_amount_5 : decode cX5_amount 5 = .ok (.invokevirtual 31, 3) := by decide +kernel
theorem dX5_amount_8 : decode cX5_amount 8 = .ok (.ifCond .ne 7, 3) := by decide +kernel
theorem dX5_amount_11 : decode cX5_amount 11 = .ok (.ldc2_w 113, 3) := by decide +kernel
theorem dX5_amount_14 : decode cX5_amount 14 = .ok (.lreturn, 1) := by decide +kernel
theorem dX5_amount_15 : decode cX5_amount 15 = .ok (.aload_n 0, 1) := by decide +kernel
theorem dX5_amount_16 : decode cX5_amount 16 = .ok (.getfield 10, 3) := by decide +kernel
theorem dX5_amount_19 : decode cX5_amount 19 = .ok (.getfield 42, 3) := by decide +kernel
theorem dX5_amount_22 : decode cX5_amount 22 = .ok (.iload_n 1, 1) := by decide +kernel
theorem dX5_amount_23 : decode cX5_amount 23 = .ok (.aaload, 1) := by decide +kernel
theorem dX5_amount_24 : decode cX5_amount 24 = .ok (.astore_n 3, 1) := by decide +kernel
theorem dX5_amount_25 : decode cX5_amount 25 = .ok (.iload_n 2, 1) := by decide +kernel
theorem dX5_amount_26 : decode cX5_amount 26 = .ok (.tableswitch 106 0 7 #[46, 51, 60, 81, 86, 91, 96, 101], 46) := by decide +kernel
theorem dX5_amount_72 : decode cX5_amount 72 = .ok (.aload_n 3, 1) := by decide +kernel
theorem dX5_amount_73 : decode cX5_amount 73 = .ok (.getfield 182, 3) := by decide +kernel
theorem dX5_amount_76 : decode cX5_amount 76 = .ok (.lreturn, 1) := by decide +kernel
theorem dX5_amount_77 : decode cX5_amount 77 = .ok (.aload_n 0, 1) := by decide +kernel
theorem dX5_amount_78 : decode cX5_amount 78 = .ok (.getfield 10, 3) := by decide +kernel
theorem dX5_amount_81 : decode cX5_amount 81 = .ok (.aload_n 3, 1) := by decide +kernel
theorem dX5_amount_82 : decode cX5_amount 82 = .ok (.invokevirtual 185, 3) := by decide +kernel
theorem dX5_amount_85 : decode cX5_amount 85 = .ok (.lreturn, 1) := by decide +kernel
theorem dX5_amount_86 : decode cX5_amount 86 = .ok (.lconst 0, 1) := by decide +kernel
theorem dX5_amount_87 : decode cX5_amount 87 = .ok (.aload_n 0, 1) := by decide +kernel
theorem dX5_amount_88 : decode cX5_amount 88 = .ok (.getfield 10, 3) := by decide +kernel
theorem dX5_amount_91 : decode cX5_amount 91 = .ok (.aload_n 3, 1) := by decide +kernel
theorem dX5_amount_92 : decode cX5_amount 92 = .ok (.invokevirtual 185, 3) := by decide +kernel
theorem dX5_amount_95 : decode cX5_amount 95 = .ok (.aload_n 0, 1) := by decide +kernel
theorem dX5_amount_96 : decode cX5_amount 96 = .ok (.getfield 10, 3) := by decide +kernel
theorem dX5_amount_99 : decode cX5_amount 99 = .ok (.getfield 189, 3) := by decide +kernel
theorem dX5_amount_102 : decode cX5_amount 102 = .ok (.lsub, 1) := by decide +kernel
theorem dX5_amount_103 : decode cX5_amount 103 = .ok (.invokestatic 192, 3) := by decide +kernel
theorem dX5_amount_106 : decode cX5_amount 106 = .ok (.lreturn, 1) := by decide +kernel
theorem dX5_amount_107 : decode cX5_amount 107 = .ok (.aload_n 3, 1) := by decide +kernel
theorem dX5_amount_108 : decode cX5_amount 108 = .ok (.getfield 198, 3) := by decide +kernel
theorem dX5_amount_111 : decode cX5_amount 111 = .ok (.lreturn, 1) := by decide +kernel
theorem dX5_amount_112 : decode cX5_amount 112 = .ok (.aload_n 3, 1) := by decide +kernel
theorem dX5_amount_113 : decode cX5_amount 113 = .ok (.getfield 201, 3) := by decide +kernel
theorem dX5_amount_116 : decode cX5_amount 116 = .ok (.lreturn, 1) := by decide +kernel
theorem dX5_amount_117 : decode cX5_amount 117 = .ok (.aload_n 3, 1) := by decide +kernel
theorem dX5_amount_118 : decode cX5_amount 118 = .ok (.getfield 204, 3) := by decide +kernel
theorem dX5_amount_121 : decode cX5_amount 121 = .ok (.lreturn, 1) := by decide +kernel
theorem dX5_amount_122 : decode cX5_amount 122 = .ok (.aload_n 3, 1) := by decide +kernel
theorem dX5_amount_123 : decode cX5_amount 123 = .ok (.invokevirtual 207, 3) := by decide +kernel
theorem dX5_amount_126 : decode cX5_amount 126 = .ok (.lreturn, 1) := by decide +kernel
theorem dX5_amount_127 : decode cX5_amount 127 = .ok (.aload_n 3, 1) := by decide +kernel
theorem dX5_amount_128 : decode cX5_amount 128 = .ok (.getfield 211, 3) := by decide +kernel
theorem dX5_amount_131 : decode cX5_amount 131 = .ok (.lreturn, 1) := by decide +kernel
theorem dX5_amount_132 : decode cX5_amount 132 = .ok (.ldc2_w 214, 3) := by decide +kernel
theorem dX5_amount_135 : decode cX5_amount 135 = .ok (.lreturn, 1) := by decide +kernel
theorem dX5_virtualTime_0 : decode cX5_virtualTime 0 = .ok (.aload_n 0, 1) := by decide +kernel
theorem dX5_virtualTime_1 : decode cX5_virtualTime 1 = .ok (.getfield 10, 3) := by decide +kernel
theorem dX5_virtualTime_4 : decode cX5_virtualTime 4 = .ok (.getfield 189, 3) := by decide +kernel
theorem dX5_virtualTime_7 : decode cX5_virtualTime 7 = .ok (.lreturn, 1) := by decide +kernel
theorem dX5_link_0 : decode cX5_link 0 = .ok (.iload_n 1, 1) := by decide +kernel
theorem dX5_link_1 : decode cX5_link 1 = .ok (.iconst 1, 1) := by decide +kernel
theorem dX5_link_2 : decode cX5_link 2 = .ok (.if_icmp .lt 20, 3) := by decide +kernel
theorem dX5_link_5 : decode cX5_link 5 = .ok (.iload_n 1, 1) := by decide +kernel
theorem dX5_link_6 : decode cX5_link 6 = .ok (.iconst 4, 1) := by decide +kernel
theorem dX5_link_7 : decode cX5_link 7 = .ok (.if_icmp .gt 15, 3) := by decide +kernel
theorem dX5_link_10 : decode cX5_link 10 = .ok (.aload_n 0, 1) := by decide +kernel
theorem dX5_link_11 : decode cX5_link 11 = .ok (.getfield 10, 3) := by decide +kernel
theorem dX5_link_14 : decode cX5_link 14 = .ok (.getfield 54, 3) := by decide +kernel
theorem dX5_link_17 : decode cX5_link 17 = .ok (.iload_n 1, 1) := by decide +kernel
theorem dX5_link_18 : decode cX5_link 18 = .ok (.iconst 1, 1) := by decide +kernel
theorem dX5_link_19 : decode cX5_link 19 = .ok (.isub, 1) := by decide +kernel
theorem dX5_link_20 : decode cX5_link 20 = .ok (.iaload, 1) := by decide +kernel
theorem dX5_link_21 : decode cX5_link 21 = .ok (.ireturn, 1) := by decide +kernel
theorem dX5_link_22 : decode cX5_link 22 = .ok (.iload_n 1, 1) := by decide +kernel
theorem dX5_link_23 : decode cX5_link 23 = .ok (.tableswitch 223 0 16 #[81, 223, 223, 223, 223, 89, 97, 105, 116, 127, 138, 157, 168, 176, 184, 192, 200], 81) := by decide +kernel
theorem dX5_link_104 : decode cX5_link 104 = .ok (.aload_n 0, 1) := by decide +kernel
theorem dX5_link_105 : decode cX5_link 105 = .ok (.getfield 10, 3) := by decide +kernel
theorem dX5_link_108 : decode cX5_link 108 = .ok (.getfield 146, 3) := by decide +kernel
theorem dX5_link_111 : decode cX5_link 111 = .ok (.ireturn, 1) := by decide +kernel
theorem dX5_link_112 : decode cX5_link 112 = .ok (.aload_n 0, 1) := by decide +kernel
theorem dX5_link_113 : decode cX5_link 113 = .ok (.getfield 10, 3) := by decide +kernel
theorem dX5_link_116 : decode cX5_link 116 = .ok (.getfield 23, 3) := by decide +kernel
theorem dX5_link_119 : decode cX5_link 119 = .ok (.ireturn, 1) := by decide +kernel
theorem dX5_link_120 : decode cX5_link 120 = .ok (.aload_n 0, 1) := by decide +kernel
theorem dX5_link_121 : decode cX5_link 121 = .ok (.getfield 10, 3) := by decide +kernel
theorem dX5_link_124 : decode cX5_link 124 = .ok (.getfield 216, 3) := by decide +kernel
theorem dX5_link_127 : decode cX5_link 127 = .ok (.ireturn, 1) := by decide +kernel
theorem dX5_link_128 : decode cX5_link 128 = .ok (.aload_n 0, 1) := by decide +kernel
theorem dX5_link_129 : decode cX5_link 129 = .ok (.getfield 10, 3) := by decide +kernel
theorem dX5_link_132 : decode cX5_link 132 = .ok (.getfield 219, 3) := by decide +kernel
theorem dX5_link_135 : decode cX5_link 135 = .ok (.getfield 223, 3) := by decide +kernel
theorem dX5_link_138 : decode cX5_link 138 = .ok (.ireturn, 1) := by decide +kernel
theorem dX5_link_139 : decode cX5_link 139 = .ok (.aload_n 0, 1) := by decide +kernel
theorem dX5_link_140 : decode cX5_link 140 = .ok (.getfield 10, 3) := by decide +kernel
theorem dX5_link_143 : decode cX5_link 143 = .ok (.getfield 219, 3) := by decide +kernel
theorem dX5_link_146 : decode cX5_link 146 = .ok (.getfield 228, 3) := by decide +kernel
theorem dX5_link_149 : decode cX5_link 149 = .ok (.ireturn, 1) := by decide +kernel
theorem dX5_link_150 : decode cX5_link 150 = .ok (.aload_n 0, 1) := by decide +kernel
theorem dX5_link_151 : decode cX5_link 151 = .ok (.getfield 10, 3) := by decide +kernel
theorem dX5_link_154 : decode cX5_link 154 = .ok (.getfield 219, 3) := by decide +kernel
theorem dX5_link_157 : decode cX5_link 157 = .ok (.getfield 229, 3) := by decide +kernel
theorem dX5_link_160 : decode cX5_link 160 = .ok (.ireturn, 1) := by decide +kernel
theorem dX5_link_161 : decode cX5_link 161 = .ok (.aload_n 0, 1) := by decide +kernel
theorem dX5_link_162 : decode cX5_link 162 = .ok (.getfield 10, 3) := by decide +kernel
theorem dX5_link_165 : decode cX5_link 165 = .ok (.getfield 219, 3) := by decide +kernel
theorem dX5_link_168 : decode cX5_link 168 = .ok (.getfield 232, 3) := by decide +kernel
theorem dX5_link_171 : decode cX5_link 171 = .ok (.ifCond .eq 7, 3) := by decide +kernel
theorem dX5_link_174 : decode cX5_link 174 = .ok (.iconst 1, 1) := by decide +kernel
theorem dX5_link_175 : decode cX5_link 175 = .ok (.goto 4, 3) := by decide +kernel
theorem dX5_link_178 : decode cX5_link 178 = .ok (.iconst 0, 1) := by decide +kernel
theorem dX5_link_179 : decode cX5_link 179 = .ok (.ireturn, 1) := by decide +kernel
theorem dX5_link_180 : decode cX5_link 180 = .ok (.aload_n 0, 1) := by decide +kernel
theorem dX5_link_181 : decode cX5_link 181 = .ok (.getfield 10, 3) := by decide +kernel
theorem dX5_link_184 : decode cX5_link 184 = .ok (.getfield 123, 3) := by decide +kernel
theorem dX5_link_187 : decode cX5_link 187 = .ok (.getfield 127, 3) := by decide +kernel
theorem dX5_link_190 : decode cX5_link 190 = .ok (.ireturn, 1) := by decide +kernel
theorem dX5_link_191 : decode cX5_link 191 = .ok (.aload_n 0, 1) := by decide +kernel
theorem dX5_link_192 : decode cX5_link 192 = .ok (.getfield 10, 3) := by decide +kernel
theorem dX5_link_195 : decode cX5_link 195 = .ok (.getfield 236, 3) := by decide +kernel
theorem dX5_link_198 : decode cX5_link 198 = .ok (.ireturn, 1) := by decide +kernel
theorem dX5_link_199 : decode cX5_link 199 = .ok (.aload_n 0, 1) := by decide +kernel
theorem dX5_link_200 : decode cX5_link 200 = .ok (.getfield 10, 3) := by decide +kernel
theorem dX5_link_203 : decode cX5_link 203 = .ok (.getfield 239, 3) := by decide +kernel
theorem dX5_link_206 : decode cX5_link 206 = .ok (.ireturn, 1) := by decide +kernel
theorem dX5_link_207 : decode cX5_link 207 = .ok (.aload_n 0, 1) := by decide +kernel
theorem dX5_link_208 : decode cX5_link 208 = .ok (.getfield 10, 3) := by decide +kernel
theorem dX5_link_211 : decode cX5_link 211 = .ok (.invokevirtual 242, 3) := by decide +kernel
theorem dX5_link_214 : decode cX5_link 214 = .ok (.ireturn, 1) := by decide +kernel
theorem dX5_link_215 : decode cX5_link 215 = .ok (.aload_n 0, 1) := by decide +kernel
theorem dX5_link_216 : decode cX5_link 216 = .ok (.getfield 10, 3) := by decide +kernel
theorem dX5_link_219 : decode cX5_link 219 = .ok (.getfield 245, 3) := by decide +kernel
theorem dX5_link_222 : decode cX5_link 222 = .ok (.ireturn, 1) := by decide +kernel
theorem dX5_link_223 : decode cX5_link 223 = .ok (.aload_n 0, 1) := by decide +kernel
theorem dX5_link_224 : decode cX5_link 224 = .ok (.getfield 10, 3) := by decide +kernel
theorem dX5_link_227 : decode cX5_link 227 = .ok (.getfield 216, 3) := by decide +kernel
theorem dX5_link_230 : decode cX5_link 230 = .ok (.ifCond .ne 8, 3) := by decide +kernel
theorem dX5_link_233 : decode cX5_link 233 = .ok (.bipush (-6), 2) := by decide +kernel
theorem dX5_link_235 : decode cX5_link 235 = .ok (.goto 10, 3) := by decide +kernel
theorem dX5_link_238 : decode cX5_link 238 = .ok (.aload_n 0, 1) := by decide +kernel
theorem dX5_link_239 : decode cX5_link 239 = .ok (.getfield 10, 3) := by decide +kernel
theorem dX5_link_242 : decode cX5_link 242 = .ok (.invokevirtual 248, 3) := by decide +kernel
theorem dX5_link_245 : decode cX5_link 245 = .ok (.ireturn, 1) := by decide +kernel
theorem dX5_link_246 : decode cX5_link 246 = .ok (.bipush (-2), 2) := by decide +kernel
theorem dX5_link_248 : decode cX5_link 248 = .ok (.ireturn, 1) := by decide +kernel
theorem dX5_piece_0 : decode cX5_piece 0 = .ok (.iload_n 2, 1) := by decide +kernel
theorem dX5_piece_1 : decode cX5_piece 1 = .ok (.ifCond .lt 8, 3) := by decide +kernel
theorem dX5_piece_4 : decode cX5_piece 4 = .ok (.iload_n 2, 1) := by decide +kernel
theorem dX5_piece_5 : decode cX5_piece 5 = .ok (.iconst 4, 1) := by decide +kernel
theorem dX5_piece_6 : decode cX5_piece 6 = .ok (.if_icmp .le 6, 3) := by decide +kernel
theorem dX5_piece_9 : decode cX5_piece 9 = .ok (.bipush (-2), 2) := by decide +kernel
theorem dX5_piece_11 : decode cX5_piece 11 = .ok (.ireturn, 1) := by decide +kernel
theorem dX5_piece_12 : decode cX5_piece 12 = .ok (.aload_n 0, 1) := by decide +kernel
theorem dX5_piece_13 : decode cX5_piece 13 = .ok (.getfield 10, 3) := by decide +kernel
theorem dX5_piece_16 : decode cX5_piece 16 = .ok (.iload_n 1, 1) := by decide +kernel
theorem dX5_piece_17 : decode cX5_piece 17 = .ok (.invokevirtual 251, 3) := by decide +kernel
theorem dX5_piece_20 : decode cX5_piece 20 = .ok (.ifCond .ne 6, 3) := by decide +kernel
theorem dX5_piece_23 : decode cX5_piece 23 = .ok (.bipush (-6), 2) := by decide +kernel
theorem dX5_piece_25 : decode cX5_piece 25 = .ok (.ireturn, 1) := by decide +kernel
theorem dX5_piece_26 : decode cX5_piece 26 = .ok (.aload_n 0, 1) := by decide +kernel
theorem dX5_piece_27 : decode cX5_piece 27 = .ok (.getfield 10, 3) := by decide +kernel
theorem dX5_piece_30 : decode cX5_piece 30 = .ok (.iload_n 1, 1) := by decide +kernel
theorem dX5_piece_31 : decode cX5_piece 31 = .ok (.invokevirtual 254, 3) := by decide +kernel
theorem dX5_piece_34 : decode cX5_piece 34 = .ok (.astore_n 3, 1) := by decide +kernel
theorem dX5_piece_35 : decode cX5_piece 35 = .ok (.iload_n 2, 1) := by decide +kernel
theorem dX5_piece_36 : decode cX5_piece 36 = .ok (.tableswitch 52 0 3 #[32, 37, 42, 47], 32) := by decide +kernel
theorem dX5_piece_68 : decode cX5_piece 68 = .ok (.aload_n 3, 1) := by decide +kernel
theorem dX5_piece_69 : decode cX5_piece 69 = .ok (.getfield 223, 3) := by decide +kernel
theorem dX5_piece_72 : decode cX5_piece 72 = .ok (.ireturn, 1) := by decide +kernel
theorem dX5_piece_73 : decode cX5_piece 73 = .ok (.aload_n 3, 1) := by decide +kernel
theorem dX5_piece_74 : decode cX5_piece 74 = .ok (.getfield 258, 3) := by decide +kernel
theorem dX5_piece_77 : decode cX5_piece 77 = .ok (.ireturn, 1) := by decide +kernel
theorem dX5_piece_78 : decode cX5_piece 78 = .ok (.aload_n 3, 1) := by decide +kernel
theorem dX5_piece_79 : decode cX5_piece 79 = .ok (.getfield 228, 3) := by decide +kernel
theorem dX5_piece_82 : decode cX5_piece 82 = .ok (.ireturn, 1) := by decide +kernel
theorem dX5_piece_83 : decode cX5_piece 83 = .ok (.aload_n 3, 1) := by decide +kernel
theorem dX5_piece_84 : decode cX5_piece 84 = .ok (.getfield 259, 3) := by decide +kernel
theorem dX5_piece_87 : decode cX5_piece 87 = .ok (.ireturn, 1) := by decide +kernel
theorem dX5_piece_88 : decode cX5_piece 88 = .ok (.aload_n 3, 1) := by decide +kernel
theorem dX5_piece_89 : decode cX5_piece 89 = .ok (.getfield 232, 3) := by decide +kernel
theorem dX5_piece_92 : decode cX5_piece 92 = .ok (.ifCond .eq 7, 3) := by decide +kernel
theorem dX5_piece_95 : decode cX5_piece 95 = .ok (.iconst 1, 1) := by decide +kernel
theorem dX5_piece_96 : decode cX5_piece 96 = .ok (.goto 4, 3) := by decide +kernel
theorem dX5_piece_99 : decode cX5_piece 99 = .ok (.iconst 0, 1) := by decide +kernel
theorem dX5_piece_100 : decode cX5_piece 100 = .ok (.ireturn, 1) := by decide +kernel
theorem dX5_apart_0 : decode cX5_apart 0 = .ok (.aload_n 0, 1) := by decide +kernel
theorem dX5_apart_1 : decode cX5_apart 1 = .ok (.getfield 10, 3) := by decide +kernel
theorem dX5_apart_4 : decode cX5_apart 4 = .ok (.iload_n 1, 1) := by decide +kernel
theorem dX5_apart_5 : decode cX5_apart 5 = .ok (.invokevirtual 31, 3) := by decide +kernel
theorem dX5_apart_8 : decode cX5_apart 8 = .ok (.ifCond .eq 14, 3) := by decide +kernel
theorem dX5_apart_11 : decode cX5_apart 11 = .ok (.aload_n 0, 1) := by decide +kernel
theorem dX5_apart_12 : decode cX5_apart 12 = .ok (.getfield 10, 3) := by decide +kernel
theorem dX5_apart_15 : decode cX5_apart 15 = .ok (.iload_n 2, 1) := by decide +kernel
theorem dX5_apart_16 : decode cX5_apart 16 = .ok (.invokevirtual 31, 3) := by decide +kernel
theorem dX5_apart_19 : decode cX5_apart 19 = .ok (.ifCond .ne 7, 3) := by decide +kernel
theorem dX5_apart_22 : decode cX5_apart 22 = .ok (.ldc2_w 113, 3) := by decide +kernel
theorem dX5_apart_25 : decode cX5_apart 25 = .ok (.lreturn, 1) := by decide +kernel
theorem dX5_apart_26 : decode cX5_apart 26 = .ok (.aload_n 0, 1) := by decide +kernel
theorem dX5_apart_27 : decode cX5_apart 27 = .ok (.getfield 10, 3) := by decide +kernel
theorem dX5_apart_30 : decode cX5_apart 30 = .ok (.getfield 42, 3) := by decide +kernel
theorem dX5_apart_33 : decode cX5_apart 33 = .ok (.iload_n 1, 1) := by decide +kernel
theorem dX5_apart_34 : decode cX5_apart 34 = .ok (.aaload, 1) := by decide +kernel
theorem dX5_apart_35 : decode cX5_apart 35 = .ok (.astore_n 3, 1) := by decide +kernel
theorem dX5_apart_36 : decode cX5_apart 36 = .ok (.aload_n 0, 1) := by decide +kernel
theorem dX5_apart_37 : decode cX5_apart 37 = .ok (.getfield 10, 3) := by decide +kernel
theorem dX5_apart_40 : decode cX5_apart 40 = .ok (.getfield 42, 3) := by decide +kernel
theorem dX5_apart_43 : decode cX5_apart 43 = .ok (.iload_n 2, 1) := by decide +kernel
theorem dX5_apart_44 : decode cX5_apart 44 = .ok (.aaload, 1) := by decide +kernel
theorem dX5_apart_45 : decode cX5_apart 45 = .ok (.astore 4, 2) := by decide +kernel
theorem dX5_apart_47 : decode cX5_apart 47 = .ok (.aload_n 3, 1) := by decide +kernel
theorem dX5_apart_48 : decode cX5_apart 48 = .ok (.aload_n 3, 1) := by decide +kernel
theorem dX5_apart_49 : decode cX5_apart 49 = .ok (.getfield 163, 3) := by decide +kernel
theorem dX5_apart_52 : decode cX5_apart 52 = .ok (.invokevirtual 262, 3) := by decide +kernel
theorem dX5_apart_55 : decode cX5_apart 55 = .ok (.aload 4, 2) := by decide +kernel
theorem dX5_apart_57 : decode cX5_apart 57 = .ok (.aload 4, 2) := by decide +kernel
theorem dX5_apart_59 : decode cX5_apart 59 = .ok (.getfield 163, 3) := by decide +kernel
theorem dX5_apart_62 : decode cX5_apart 62 = .ok (.invokevirtual 262, 3) := by decide +kernel
theorem dX5_apart_65 : decode cX5_apart 65 = .ok (.lsub, 1) := by decide +kernel
theorem dX5_apart_66 : decode cX5_apart 66 = .ok (.invokestatic 266, 3) := by decide +kernel
theorem dX5_apart_69 : decode cX5_apart 69 = .ok (.lreturn, 1) := by decide +kernel
theorem dX5_forecast_0 : decode cX5_forecast 0 = .ok (.aload_n 0, 1) := by decide +kernel
theorem dX5_forecast_1 : decode cX5_forecast 1 = .ok (.getfield 10, 3) := by decide +kernel
theorem dX5_forecast_4 : decode cX5_forecast 4 = .ok (.iload_n 1, 1) := by decide +kernel
theorem dX5_forecast_5 : decode cX5_forecast 5 = .ok (.invokevirtual 62, 3) := by decide +kernel
theorem dX5_forecast_8 : decode cX5_forecast 8 = .ok (.ifCond .ne 5, 3) := by decide +kernel
theorem dX5_forecast_11 : decode cX5_forecast 11 = .ok (.iconst (-1), 1) := by decide +kernel
theorem dX5_forecast_12 : decode cX5_forecast 12 = .ok (.ireturn, 1) := by decide +kernel
theorem dX5_forecast_13 : decode cX5_forecast 13 = .ok (.iload_n 2, 1) := by decide +kernel
theorem dX5_forecast_14 : decode cX5_forecast 14 = .ok (.iconst 1, 1) := by decide +kernel
theorem dX5_forecast_15 : decode cX5_forecast 15 = .ok (.if_icmp .lt 10, 3) := by decide +kernel
theorem dX5_forecast_18 : decode cX5_forecast 18 = .ok (.iload_n 2, 1) := by decide +kernel
theorem dX5_forecast_19 : decode cX5_forecast 19 = .ok (.sipush 2000, 3) := by decide +kernel
theorem dX5_forecast_22 : decode cX5_forecast 22 = .ok (.if_icmp .le 6, 3) := by decide +kernel
theorem dX5_forecast_25 : decode cX5_forecast 25 = .ok (.bipush (-2), 2) := by decide +kernel
theorem dX5_forecast_27 : decode cX5_forecast 27 = .ok (.ireturn, 1) := by decide +kernel
theorem dX5_forecast_28 : decode cX5_forecast 28 = .ok (.aload_n 0, 1) := by decide +kernel
theorem dX5_forecast_29 : decode cX5_forecast 29 = .ok (.getfield 10, 3) := by decide +kernel
theorem dX5_forecast_32 : decode cX5_forecast 32 = .ok (.iload_n 1, 1) := by decide +kernel
theorem dX5_forecast_33 : decode cX5_forecast 33 = .ok (.invokevirtual 65, 3) := by decide +kernel
theorem dX5_forecast_36 : decode cX5_forecast 36 = .ok (.getfield 69, 3) := by decide +kernel
theorem dX5_forecast_39 : decode cX5_forecast 39 = .ok (.iconst 3, 1) := by decide +kernel
theorem dX5_forecast_40 : decode cX5_forecast 40 = .ok (.if_icmp .ne 5, 3) := by decide +kernel
theorem dX5_forecast_43 : decode cX5_forecast 43 = .ok (.iconst 0, 1) := by decide +kernel
theorem dX5_forecast_44 : decode cX5_forecast 44 = .ok (.ireturn, 1) := by decide +kernel
theorem dX5_forecast_45 : decode cX5_forecast 45 = .ok (.aload_n 0, 1) := by decide +kernel
theorem dX5_forecast_46 : decode cX5_forecast 46 = .ok (.invokevirtual 270, 3) := by decide +kernel
theorem dX5_forecast_49 : decode cX5_forecast 49 = .ok (.iload_n 1, 1) := by decide +kernel
theorem dX5_forecast_50 : decode cX5_forecast 50 = .ok (.iload_n 2, 1) := by decide +kernel
theorem dX5_forecast_51 : decode cX5_forecast 51 = .ok (.invokevirtual 274, 3) := by decide +kernel
theorem dX5_forecast_54 : decode cX5_forecast 54 = .ok (.ireturn, 1) := by decide +kernel
theorem dX5_leastWeight_0 : decode cX5_leastWeight 0 = .ok (.aload_n 0, 1) := by decide +kernel
theorem dX5_leastWeight_1 : decode cX5_leastWeight 1 = .ok (.getfield 10, 3) := by decide +kernel
theorem dX5_leastWeight_4 : decode cX5_leastWeight 4 = .ok (.iload_n 1, 1) := by decide +kernel
theorem dX5_leastWeight_5 : decode cX5_leastWeight 5 = .ok (.invokevirtual 62, 3) := by decide +kernel
theorem dX5_leastWeight_8 : decode cX5_leastWeight 8 = .ok (.ifCond .ne 5, 3) := by decide +kernel
theorem dX5_leastWeight_11 : decode cX5_leastWeight 11 = .ok (.iconst (-1), 1) := by decide +kernel
theorem dX5_leastWeight_12 : decode cX5_leastWeight 12 = .ok (.ireturn, 1) := by decide +kernel
theorem dX5_leastWeight_13 : decode cX5_leastWeight 13 = .ok (.iload_n 2, 1) := by decide +kernel
theorem dX5_leastWeight_14 : decode cX5_leastWeight 14 = .ok (.iconst 1, 1) := by decide +kernel
theorem dX5_leastWeight_15 : decode cX5_leastWeight 15 = .ok (.if_icmp .lt 10, 3) := by decide +kernel
theorem dX5_leastWeight_18 : decode cX5_leastWeight 18 = .ok (.iload_n 2, 1) := by decide +kernel
theorem dX5_leastWeight_19 : decode cX5_leastWeight 19 = .ok (.sipush 1000, 3) := by decide +kernel
theorem dX5_leastWeight_22 : decode cX5_leastWeight 22 = .ok (.if_icmp .le 6, 3) := by decide +kernel
theorem dX5_leastWeight_25 : decode cX5_leastWeight 25 = .ok (.bipush (-2), 2) := by decide +kernel
theorem dX5_leastWeight_27 : decode cX5_leastWeight 27 = .ok (.ireturn, 1) := by decide +kernel
theorem dX5_leastWeight_28 : decode cX5_leastWeight 28 = .ok (.aload_n 0, 1) := by decide +kernel
theorem dX5_leastWeight_29 : decode cX5_leastWeight 29 = .ok (.getfield 10, 3) := by decide +kernel
theorem dX5_leastWeight_32 : decode cX5_leastWeight 32 = .ok (.iload_n 1, 1) := by decide +kernel
theorem dX5_leastWeight_33 : decode cX5_leastWeight 33 = .ok (.invokevirtual 65, 3) := by decide +kernel
theorem dX5_leastWeight_36 : decode cX5_leastWeight 36 = .ok (.astore_n 3, 1) := by decide +kernel
theorem dX5_leastWeight_37 : decode cX5_leastWeight 37 = .ok (.aload_n 3, 1) := by decide +kernel
theorem dX5_leastWeight_38 : decode cX5_leastWeight 38 = .ok (.invokevirtual 105, 3) := by decide +kernel
theorem dX5_leastWeight_41 : decode cX5_leastWeight 41 = .ok (.ifCond .ne 6, 3) := by decide +kernel
theorem dX5_leastWeight_44 : decode cX5_leastWeight 44 = .ok (.bipush (-5), 2) := by decide +kernel
theorem dX5_leastWeight_46 : decode cX5_leastWeight 46 = .ok (.ireturn, 1) := by decide +kernel
theorem dX5_leastWeight_47 : decode cX5_leastWeight 47 = .ok (.iconst 1, 1) := by decide +kernel
theorem dX5_leastWeight_48 : decode cX5_leastWeight 48 = .ok (.istore 4, 2) := by decide +kernel
theorem dX5_leastWeight_50 : decode cX5_leastWeight 50 = .ok (.iload 4, 2) := by decide +kernel
theorem dX5_leastWeight_52 : decode cX5_leastWeight 52 = .ok (.bipush 16, 2) := by decide +kernel
theorem dX5_leastWeight_54 : decode cX5_leastWeight 54 = .ok (.if_icmp .gt 47, 3) := by decide +kernel
theorem dX5_leastWeight_57 : decode cX5_leastWeight 57 = .ok (.aload_n 0, 1) := by decide +kernel
theorem dX5_leastWeight_58 : decode cX5_leastWeight 58 = .ok (.invokevirtual 270, 3) := by decide +kernel
theorem dX5_leastWeight_61 : decode cX5_leastWeight 61 = .ok (.astore 5, 2) := by decide +kernel
theorem dX5_leastWeight_63 : decode cX5_leastWeight 63 = .ok (.aload 5, 2) := by decide +kernel
theorem dX5_leastWeight_65 : decode cX5_leastWeight 65 = .ok (.getfield 42, 3) := by decide +kernel
theorem dX5_leastWeight_68 : decode cX5_leastWeight 68 = .ok (.aload_n 3, 1) := by decide +kernel
theorem dX5_leastWeight_69 : decode cX5_leastWeight 69 = .ok (.getfield 77, 3) := by decide +kernel
theorem dX5_leastWeight_72 : decode cX5_leastWeight 72 = .ok (.aaload, 1) := by decide +kernel
theorem dX5_leastWeight_73 : decode cX5_leastWeight 73 = .ok (.getfield 46, 3) := by decide +kernel
theorem dX5_leastWeight_76 : decode cX5_leastWeight 76 = .ok (.iconst 0, 1) := by decide +kernel
theorem dX5_leastWeight_77 : decode cX5_leastWeight 77 = .ok (.iload 4, 2) := by decide +kernel
theorem dX5_leastWeight_79 : decode cX5_leastWeight 79 = .ok (.iastore, 1) := by decide +kernel
theorem dX5_leastWeight_80 : decode cX5_leastWeight 80 = .ok (.aload 5, 2) := by decide +kernel
theorem dX5_leastWeight_82 : decode cX5_leastWeight 82 = .ok (.iload_n 1, 1) := by decide +kernel
theorem dX5_leastWeight_83 : decode cX5_leastWeight 83 = .ok (.iload_n 2, 1) := by decide +kernel
theorem dX5_leastWeight_84 : decode cX5_leastWeight 84 = .ok (.invokevirtual 274, 3) := by decide +kernel
theorem dX5_leastWeight_87 : decode cX5_leastWeight 87 = .ok (.bipush (-6), 2) := by decide +kernel
theorem dX5_leastWeight_89 : decode cX5_leastWeight 89 = .ok (.if_icmp .eq 6, 3) := by decide +kernel
theorem dX5_leastWeight_92 : decode cX5_leastWeight 92 = .ok (.iload 4, 2) := by decide +kernel
theorem dX5_leastWeight_94 : decode cX5_leastWeight 94 = .ok (.ireturn, 1) := by decide +kernel
theorem dX5_leastWeight_95 : decode cX5_leastWeight 95 = .ok (.iinc 4 1, 3) := by decide +kernel
theorem dX5_leastWeight_98 : decode cX5_leastWeight 98 = .ok (.goto (-48), 3) := by decide +kernel
theorem dX5_leastWeight_101 : decode cX5_leastWeight 101 = .ok (.bipush (-6), 2) := by decide +kernel
theorem dX5_leastWeight_103 : decode cX5_leastWeight 103 = .ok (.ireturn, 1) := by decide +kernel
theorem dX5_bestSplit_0 : decode cX5_bestSplit 0 = .ok (.aload_n 0, 1) := by decide +kernel
theorem dX5_bestSplit_1 : decode cX5_bestSplit 1 = .ok (.getfield 10, 3) := by decide +kernel
theorem dX5_bestSplit_4 : decode cX5_bestSplit 4 = .ok (.iload_n 1, 1) := by decide +kernel
theorem dX5_bestSplit_5 : decode cX5_bestSplit 5 = .ok (.invokevirtual 31, 3) := by decide +kernel
theorem dX5_bestSplit_8 : decode cX5_bestSplit 8 = .ok (.ifCond .ne 5, 3) := by decide +kernel
theorem dX5_bestSplit_11 : decode cX5_bestSplit 11 = .ok (.iconst (-1), 1) := by decide +kernel
theorem dX5_bestSplit_12 : decode cX5_bestSplit 12 = .ok (.ireturn, 1) := by decide +kernel
theorem dX5_bestSplit_13 : decode cX5_bestSplit 13 = .ok (.iload_n 2, 1) := by decide +kernel
theorem dX5_bestSplit_14 : decode cX5_bestSplit 14 = .ok (.iload_n 3, 1) := by decide +kernel
theorem dX5_bestSplit_15 : decode cX5_bestSplit 15 = .ok (.iload 4, 2) := by decide +kernel
theorem dX5_bestSplit_17 : decode cX5_bestSplit 17 = .ok (.invokestatic 278, 3) := by decide +kernel
theorem dX5_bestSplit_20 : decode cX5_bestSplit 20 = .ok (.ifCond .eq 17, 3) := by decide +kernel
theorem dX5_bestSplit_23 : decode cX5_bestSplit 23 = .ok (.iload 5, 2) := by decide +kernel
theorem dX5_bestSplit_25 : decode cX5_bestSplit 25 = .ok (.iconst 1, 1) := by decide +kernel
theorem dX5_bestSplit_26 : decode cX5_bestSplit 26 = .ok (.if_icmp .lt 11, 3) := by decide +kernel
theorem dX5_bestSplit_29 : decode cX5_bestSplit 29 = .ok (.iload 5, 2) := by decide +kernel
theorem dX5_bestSplit_31 : decode cX5_bestSplit 31 = .ok (.sipush 1000, 3) := by decide +kernel
theorem dX5_bestSplit_34 : decode cX5_bestSplit 34 = .ok (.if_icmp .le 6, 3) := by decide +kernel
theorem dX5_bestSplit_37 : decode cX5_bestSplit 37 = .ok (.bipush (-2), 2) := by decide +kernel
theorem dX5_bestSplit_39 : decode cX5_bestSplit 39 = .ok (.ireturn, 1) := by decide +kernel
theorem dX5_bestSplit_40 : decode cX5_bestSplit 40 = .ok (.aload_n 0, 1) := by decide +kernel
theorem dX5_bestSplit_41 : decode cX5_bestSplit 41 = .ok (.getfield 10, 3) := by decide +kernel
theorem dX5_bestSplit_44 : decode cX5_bestSplit 44 = .ok (.invokevirtual 282, 3) := by decide +kernel
theorem dX5_bestSplit_47 : decode cX5_bestSplit 47 = .ok (.ifCond .eq 6, 3) := by decide +kernel
theorem dX5_bestSplit_50 : decode cX5_bestSplit 50 = .ok (.bipush (-5), 2) := by decide +kernel
theorem dX5_bestSplit_52 : decode cX5_bestSplit 52 = .ok (.ireturn, 1) := by decide +kernel
theorem dX5_bestSplit_53 : decode cX5_bestSplit 53 = .ok (.iload_n 2, 1) := by decide +kernel
theorem dX5_bestSplit_54 : decode cX5_bestSplit 54 = .ok (.istore 6, 2) := by decide +kernel
theorem dX5_bestSplit_56 : decode cX5_bestSplit 56 = .ok (.ldc_w 285, 3) := by decide +kernel
theorem dX5_bestSplit_59 : decode cX5_bestSplit 59 = .ok (.istore 7, 2) := by decide +kernel
theorem dX5_bestSplit_61 : decode cX5_bestSplit 61 = .ok (.iconst 0, 1) := by decide +kernel
theorem dX5_bestSplit_62 : decode cX5_bestSplit 62 = .ok (.istore 8, 2) := by decide +kernel
theorem dX5_bestSplit_64 : decode cX5_bestSplit 64 = .ok (.iload 8, 2) := by decide +kernel
theorem dX5_bestSplit_66 : decode cX5_bestSplit 66 = .ok (.iload 4, 2) := by decide +kernel
theorem dX5_bestSplit_68 : decode cX5_bestSplit 68 = .ok (.if_icmp .ge 43, 3) := by decide +kernel
theorem dX5_bestSplit_71 : decode cX5_bestSplit 71 = .ok (.iload_n 2, 1) := by decide +kernel
theorem dX5_bestSplit_72 : decode cX5_bestSplit 72 = .ok (.iload 8, 2) := by decide +kernel
theorem dX5_bestSplit_74 : decode cX5_bestSplit 74 = .ok (.iload_n 3, 1) := by decide +kernel
theorem dX5_bestSplit_75 : decode cX5_bestSplit 75 = .ok (.imul, 1) := by decide +kernel
theorem dX5_bestSplit_76 : decode cX5_bestSplit 76 = .ok (.iadd, 1) := by decide +kernel
theorem dX5_bestSplit_77 : decode cX5_bestSplit 77 = .ok (.istore 9, 2) := by decide +kernel
theorem dX5_bestSplit_79 : decode cX5_bestSplit 79 = .ok (.aload_n 0, 1) := by decide +kernel
theorem dX5_bestSplit_80 : decode cX5_bestSplit 80 = .ok (.iload_n 1, 1) := by decide +kernel
theorem dX5_bestSplit_81 : decode cX5_bestSplit 81 = .ok (.iload 9, 2) := by decide +kernel
theorem dX5_bestSplit_83 : decode cX5_bestSplit 83 = .ok (.iload 5, 2) := by decide +kernel
theorem dX5_bestSplit_85 : decode cX5_bestSplit 85 = .ok (.invokevirtual 286, 3) := by decide +kernel
theorem dX5_bestSplit_88 : decode cX5_bestSplit 88 = .ok (.istore 10, 2) := by decide +kernel
theorem dX5_bestSplit_90 : decode cX5_bestSplit 90 = .ok (.iload 10, 2) := by decide +kernel
theorem dX5_bestSplit_92 : decode cX5_bestSplit 92 = .ok (.iload 7, 2) := by decide +kernel
theorem dX5_bestSplit_94 : decode cX5_bestSplit 94 = .ok (.if_icmp .ge 11, 3) := by decide +kernel
theorem dX5_bestSplit_97 : decode cX5_bestSplit 97 = .ok (.iload 10, 2) := by decide +kernel
theorem dX5_bestSplit_99 : decode cX5_bestSplit 99 = .ok (.istore 7, 2) := by decide +kernel
theorem dX5_bestSplit_101 : decode cX5_bestSplit 101 = .ok (.iload 9, 2) := by decide +kernel
theorem dX5_bestSplit_103 : decode cX5_bestSplit 103 = .ok (.istore 6, 2) := by decide +kernel
theorem dX5_bestSplit_105 : decode cX5_bestSplit 105 = .ok (.iinc 8 1, 3) := by decide +kernel
theorem dX5_bestSplit_108 : decode cX5_bestSplit 108 = .ok (.goto (-44), 3) := by decide +kernel
theorem dX5_bestSplit_111 : decode cX5_bestSplit 111 = .ok (.iload 6, 2) := by decide +kernel
theorem dX5_bestSplit_113 : decode cX5_bestSplit 113 = .ok (.ireturn, 1) := by decide +kernel
theorem dX5_save_0 : decode cX5_save 0 = .ok (.iload_n 1, 1) := by decide +kernel
theorem dX5_save_1 : decode cX5_save 1 = .ok (.ifCond .lt 8, 3) := by decide +kernel
theorem dX5_save_4 : decode cX5_save 4 = .ok (.iload_n 1, 1) := by decide +kernel
theorem dX5_save_5 : decode cX5_save 5 = .ok (.iconst 2, 1) := by decide +kernel
theorem dX5_save_6 : decode cX5_save 6 = .ok (.if_icmp .lt 6, 3) := by decide +kernel
theorem dX5_save_9 : decode cX5_save 9 = .ok (.bipush (-2), 2) := by decide +kernel
theorem dX5_save_11 : decode cX5_save 11 = .ok (.ireturn, 1) := by decide +kernel
theorem dX5_save_12 : decode cX5_save 12 = .ok (.aload_n 0, 1) := by decide +kernel
theorem dX5_save_13 : decode cX5_save 13 = .ok (.getfield 16, 3) := by decide +kernel
theorem dX5_save_16 : decode cX5_save 16 = .ok (.iload_n 1, 1) := by decide +kernel
theorem dX5_save_17 : decode cX5_save 17 = .ok (.aaload, 1) := by decide +kernel
theorem dX5_save_18 : decode cX5_save 18 = .ok (.ifnonnull 16, 3) := by decide +kernel
theorem dX5_save_21 : decode cX5_save 21 = .ok (.aload_n 0, 1) := by decide +kernel
theorem dX5_save_22 : decode cX5_save 22 = .ok (.getfield 16, 3) := by decide +kernel
theorem dX5_save_25 : decode cX5_save 25 = .ok (.iload_n 1, 1) := by decide +kernel
theorem dX5_save_26 : decode cX5_save 26 = .ok (.new 7, 3) := by decide +kernel
theorem dX5_save_29 : decode cX5_save 29 = .ok (.dup, 1) := by decide +kernel
theorem dX5_save_30 : decode cX5_save 30 = .ok (.invokespecial 9, 3) := by decide +kernel
theorem dX5_save_33 : decode cX5_save 33 = .ok (.aastore, 1) := by decide +kernel
theorem dX5_save_34 : decode cX5_save 34 = .ok (.aload_n 0, 1) := by decide +kernel
theorem dX5_save_35 : decode cX5_save 35 = .ok (.getfield 16, 3) := by decide +kernel
theorem dX5_save_38 : decode cX5_save 38 = .ok (.iload_n 1, 1) := by decide +kernel
theorem dX5_save_39 : decode cX5_save 39 = .ok (.aaload, 1) := by decide +kernel
theorem dX5_save_40 : decode cX5_save 40 = .ok (.aload_n 0, 1) := by decide +kernel
theorem dX5_save_41 : decode cX5_save 41 = .ok (.getfield 10, 3) := by decide +kernel
theorem dX5_save_44 : decode cX5_save 44 = .ok (.invokevirtual 289, 3) := by decide +kernel
theorem dX5_save_47 : decode cX5_save 47 = .ok (.aload_n 0, 1) := by decide +kernel
theorem dX5_save_48 : decode cX5_save 48 = .ok (.getfield 10, 3) := by decide +kernel
theorem dX5_save_51 : decode cX5_save 51 = .ok (.getfield 146, 3) := by decide +kernel
theorem dX5_save_54 : decode cX5_save 54 = .ok (.ireturn, 1) := by decide +kernel
theorem dX5_restore_0 : decode cX5_restore 0 = .ok (.iload_n 1, 1) := by decide +kernel
theorem dX5_restore_1 : decode cX5_restore 1 = .ok (.ifCond .lt 8, 3) := by decide +kernel
theorem dX5_restore_4 : decode cX5_restore 4 = .ok (.iload_n 1, 1) := by decide +kernel
theorem dX5_restore_5 : decode cX5_restore 5 = .ok (.iconst 2, 1) := by decide +kernel
theorem dX5_restore_6 : decode cX5_restore 6 = .ok (.if_icmp .lt 6, 3) := by decide +kernel
theorem dX5_restore_9 : decode cX5_restore 9 = .ok (.bipush (-2), 2) := by decide +kernel
theorem dX5_restore_11 : decode cX5_restore 11 = .ok (.ireturn, 1) := by decide +kernel
theorem dX5_restore_12 : decode cX5_restore 12 = .ok (.aload_n 0, 1) := by decide +kernel
theorem dX5_restore_13 : decode cX5_restore 13 = .ok (.getfield 16, 3) := by decide +kernel
theorem dX5_restore_16 : decode cX5_restore 16 = .ok (.iload_n 1, 1) := by decide +kernel
theorem dX5_restore_17 : decode cX5_restore 17 = .ok (.aaload, 1) := by decide +kernel
theorem dX5_restore_18 : decode cX5_restore 18 = .ok (.ifnonnull 6, 3) := by decide +kernel
theorem dX5_restore_21 : decode cX5_restore 21 = .ok (.bipush (-5), 2) := by decide +kernel
theorem dX5_restore_23 : decode cX5_restore 23 = .ok (.ireturn, 1) := by decide +kernel
theorem dX5_restore_24 : decode cX5_restore 24 = .ok (.aload_n 0, 1) := by decide +kernel
theorem dX5_restore_25 : decode cX5_restore 25 = .ok (.getfield 10, 3) := by decide +kernel
theorem dX5_restore_28 : decode cX5_restore 28 = .ok (.aload_n 0, 1) := by decide +kernel
theorem dX5_restore_29 : decode cX5_restore 29 = .ok (.getfield 16, 3) := by decide +kernel
theorem dX5_restore_32 : decode cX5_restore 32 = .ok (.iload_n 1, 1) := by decide +kernel
theorem dX5_restore_33 : decode cX5_restore 33 = .ok (.aaload, 1) := by decide +kernel
theorem dX5_restore_34 : decode cX5_restore 34 = .ok (.invokevirtual 289, 3) := by decide +kernel
theorem dX5_restore_37 : decode cX5_restore 37 = .ok (.aload_n 0, 1) := by decide +kernel
theorem dX5_restore_38 : decode cX5_restore 38 = .ok (.getfield 10, 3) := by decide +kernel
theorem dX5_restore_41 : decode cX5_restore 41 = .ok (.getfield 146, 3) := by decide +kernel
theorem dX5_restore_44 : decode cX5_restore 44 = .ok (.ireturn, 1) := by decide +kernel
theorem dX5_countCharacters_0 : decode cX5_countCharacters 0 = .ok (.iconst 0, 1) := by decide +kernel
theorem dX5_countCharacters_1 : decode cX5_countCharacters 1 = .ok (.istore_n 2, 1) := by decide +kernel
theorem dX5_countCharacters_2 : decode cX5_countCharacters 2 = .ok (.iload_n 2, 1) := by decide +kernel
theorem dX5_countCharacters_3 : decode cX5_countCharacters 3 = .ok (.bipush 8, 2) := by decide +kernel
theorem dX5_countCharacters_5 : decode cX5_countCharacters 5 = .ok (.if_icmp .ge 51, 3) := by decide +kernel
theorem dX5_countCharacters_8 : decode cX5_countCharacters 8 = .ok (.lload_n 0, 1) := by decide +kernel
theorem dX5_countCharacters_9 : decode cX5_countCharacters 9 = .ok (.bipush 8, 2) := by decide +kernel
theorem dX5_countCharacters_11 : decode cX5_countCharacters 11 = .ok (.iload_n 2, 1) := by decide +kernel
theorem dX5_countCharacters_12 : decode cX5_countCharacters 12 = .ok (.imul, 1) := by decide +kernel
theorem dX5_countCharacters_13 : decode cX5_countCharacters 13 = .ok (.lushr, 1) := by decide +kernel
theorem dX5_countCharacters_14 : decode cX5_countCharacters 14 = .ok (.lstore_n 3, 1) := by decide +kernel
theorem dX5_countCharacters_15 : decode cX5_countCharacters 15 = .ok (.lload_n 3, 1) := by decide +kernel
theorem dX5_countCharacters_16 : decode cX5_countCharacters 16 = .ok (.lconst 0, 1) := by decide +kernel
theorem dX5_countCharacters_17 : decode cX5_countCharacters 17 = .ok (.lcmp, 1) := by decide +kernel
theorem dX5_countCharacters_18 : decode cX5_countCharacters 18 = .ok (.ifCond .ne 5, 3) := by decide +kernel
theorem dX5_countCharacters_21 : decode cX5_countCharacters 21 = .ok (.iload_n 2, 1) := by decide +kernel
theorem dX5_countCharacters_22 : decode cX5_countCharacters 22 = .ok (.ireturn, 1) := by decide +kernel
theorem dX5_countCharacters_23 : decode cX5_countCharacters 23 = .ok (.lload_n 3, 1) := by decide +kernel
theorem dX5_countCharacters_24 : decode cX5_countCharacters 24 = .ok (.ldc2_w 293, 3) := by decide +kernel
theorem dX5_countCharacters_27 : decode cX5_countCharacters 27 = .ok (.land, 1) := by decide +kernel
theorem dX5_countCharacters_28 : decode cX5_countCharacters 28 = .ok (.lstore 5, 2) := by decide +kernel
theorem dX5_countCharacters_30 : decode cX5_countCharacters 30 = .ok (.lload 5, 2) := by decide +kernel
theorem dX5_countCharacters_32 : decode cX5_countCharacters 32 = .ok (.ldc2_w 295, 3) := by decide +kernel
theorem dX5_countCharacters_35 : decode cX5_countCharacters 35 = .ok (.lcmp, 1) := by decide +kernel
theorem dX5_countCharacters_36 : decode cX5_countCharacters 36 = .ok (.ifCond .lt 12, 3) := by decide +kernel
theorem dX5_countCharacters_39 : decode cX5_countCharacters 39 = .ok (.lload 5, 2) := by decide +kernel
theorem dX5_countCharacters_41 : decode cX5_countCharacters 41 = .ok (.ldc2_w 297, 3) := by decide +kernel
theorem dX5_countCharacters_44 : decode cX5_countCharacters 44 = .ok (.lcmp, 1) := by decide +kernel
theorem dX5_countCharacters_45 : decode cX5_countCharacters 45 = .ok (.ifCond .le 5, 3) := by decide +kernel
theorem dX5_countCharacters_48 : decode cX5_countCharacters 48 = .ok (.iconst 0, 1) := by decide +kernel
theorem dX5_countCharacters_49 : decode cX5_countCharacters 49 = .ok (.ireturn, 1) := by decide +kernel
theorem dX5_countCharacters_50 : decode cX5_countCharacters 50 = .ok (.iinc 2 1, 3) := by decide +kernel
theorem dX5_countCharacters_53 : decode cX5_countCharacters 53 = .ok (.goto (-51), 3) := by decide +kernel
theorem dX5_countCharacters_56 : decode cX5_countCharacters 56 = .ok (.bipush 8, 2) := by decide +kernel
theorem dX5_countCharacters_58 : decode cX5_countCharacters 58 = .ok (.ireturn, 1) := by decide +kernel
theorem dX5_hasFlowsOfPad_0 : decode cX5_hasFlowsOfPad 0 = .ok (.aload_n 0, 1) := by decide +kernel
theorem dX5_hasFlowsOfPad_1 : decode cX5_hasFlowsOfPad 1 = .ok (.getfield 10, 3) := by decide +kernel
theorem dX5_hasFlowsOfPad_4 : decode cX5_hasFlowsOfPad 4 = .ok (.getfield 123, 3) := by decide +kernel
theorem dX5_hasFlowsOfPad_7 : decode cX5_hasFlowsOfPad 7 = .ok (.astore_n 1, 1) := by decide +kernel
theorem dX5_hasFlowsOfPad_8 : decode cX5_hasFlowsOfPad 8 = .ok (.aload_n 1, 1) := by decide +kernel
theorem dX5_hasFlowsOfPad_9 : decode cX5_hasFlowsOfPad 9 = .ok (.invokevirtual 299, 3) := by decide +kernel
theorem dX5_hasFlowsOfPad_12 : decode cX5_hasFlowsOfPad 12 = .ok (.iconst 0, 1) := by decide +kernel
theorem dX5_hasFlowsOfPad_13 : decode cX5_hasFlowsOfPad 13 = .ok (.istore_n 2, 1) := by decide +kernel
theorem dX5_hasFlowsOfPad_14 : decode cX5_hasFlowsOfPad 14 = .ok (.iload_n 2, 1) := by decide +kernel
theorem dX5_hasFlowsOfPad_15 : decode cX5_hasFlowsOfPad 15 = .ok (.bipush 80, 2) := by decide +kernel
theorem dX5_hasFlowsOfPad_17 : decode cX5_hasFlowsOfPad 17 = .ok (.if_icmp .ge 32, 3) := by decide +kernel
theorem dX5_hasFlowsOfPad_20 : decode cX5_hasFlowsOfPad 20 = .ok (.aload_n 1, 1) := by decide +kernel
theorem dX5_hasFlowsOfPad_21 : decode cX5_hasFlowsOfPad 21 = .ok (.invokevirtual 302, 3) := by decide +kernel
theorem dX5_hasFlowsOfPad_24 : decode cX5_hasFlowsOfPad 24 = .ok (.ifCond .eq 25, 3) := by decide +kernel
theorem dX5_hasFlowsOfPad_27 : decode cX5_hasFlowsOfPad 27 = .ok (.aload_n 0, 1) := by decide +kernel
theorem dX5_hasFlowsOfPad_28 : decode cX5_hasFlowsOfPad 28 = .ok (.getfield 10, 3) := by decide +kernel
theorem dX5_hasFlowsOfPad_31 : decode cX5_hasFlowsOfPad 31 = .ok (.aload_n 1, 1) := by decide +kernel
theorem dX5_hasFlowsOfPad_32 : decode cX5_hasFlowsOfPad 32 = .ok (.getfield 305, 3) := by decide +kernel
theorem dX5_hasFlowsOfPad_35 : decode cX5_hasFlowsOfPad 35 = .ok (.invokevirtual 31, 3) := by decide +kernel
theorem dX5_hasFlowsOfPad_38 : decode cX5_hasFlowsOfPad 38 = .ok (.ifCond .ne 5, 3) := by decide +kernel
theorem dX5_hasFlowsOfPad_41 : decode cX5_hasFlowsOfPad 41 = .ok (.iconst 0, 1) := by decide +kernel
theorem dX5_hasFlowsOfPad_42 : decode cX5_hasFlowsOfPad 42 = .ok (.ireturn, 1) := by decide +kernel
theorem dX5_hasFlowsOfPad_43 : decode cX5_hasFlowsOfPad 43 = .ok (.iinc 2 1, 3) := by decide +kernel
theorem dX5_hasFlowsOfPad_46 : decode cX5_hasFlowsOfPad 46 = .ok (.goto (-32), 3) := by decide +kernel
theorem dX5_hasFlowsOfPad_49 : decode cX5_hasFlowsOfPad 49 = .ok (.iconst 1, 1) := by decide +kernel
theorem dX5_hasFlowsOfPad_50 : decode cX5_hasFlowsOfPad 50 = .ok (.ireturn, 1) := by decide +kernel
theorem dX5_acceptArrivals_0 : decode cX5_acceptArrivals 0 = .ok (.aload_n 0, 1) := by decide +kernel
theorem dX5_acceptArrivals_1 : decode cX5_acceptArrivals 1 = .ok (.getfield 10, 3) := by decide +kernel
theorem dX5_acceptArrivals_4 : decode cX5_acceptArrivals 4 = .ok (.getfield 123, 3) := by decide +kernel
theorem dX5_acceptArrivals_7 : decode cX5_acceptArrivals 7 = .ok (.astore_n 1, 1) := by decide +kernel
theorem dX5_acceptArrivals_8 : decode cX5_acceptArrivals 8 = .ok (.iconst 0, 1) := by decide +kernel
theorem dX5_acceptArrivals_9 : decode cX5_acceptArrivals 9 = .ok (.istore_n 2, 1) := by decide +kernel
theorem dX5_acceptArrivals_10 : decode cX5_acceptArrivals 10 = .ok (.aload_n 1, 1) := by decide +kernel
theorem dX5_acceptArrivals_11 : decode cX5_acceptArrivals 11 = .ok (.invokevirtual 299, 3) := by decide +kernel
theorem dX5_acceptArrivals_14 : decode cX5_acceptArrivals 14 = .ok (.iconst 0, 1) := by decide +kernel
theorem dX5_acceptArrivals_15 : decode cX5_acceptArrivals 15 = .ok (.istore_n 3, 1) := by decide +kernel
theorem dX5_acceptArrivals_16 : decode cX5_acceptArrivals 16 = .ok (.iload_n 3, 1) := by decide +kernel
theorem dX5_acceptArrivals_17 : decode cX5_acceptArrivals 17 = .ok (.bipush 80, 2) := by decide +kernel
theorem dX5_acceptArrivals_19 : decode cX5_acceptArrivals 19 = .ok (.if_icmp .ge 71, 3) := by decide +kernel
theorem dX5_acceptArrivals_22 : decode cX5_acceptArrivals 22 = .ok (.aload_n 1, 1) := by decide +kernel
theorem dX5_acceptArrivals_23 : decode cX5_acceptArrivals 23 = .ok (.invokevirtual 302, 3) := by decide +kernel
theorem dX5_acceptArrivals_26 : decode cX5_acceptArrivals 26 = .ok (.ifCond .eq 64, 3) := by decide +kernel
theorem dX5_acceptArrivals_29 : decode cX5_acceptArrivals 29 = .ok (.iconst 0, 1) := by decide +kernel
theorem dX5_acceptArrivals_30 : decode cX5_acceptArrivals 30 = .ok (.istore 4, 2) := by decide +kernel
theorem dX5_acceptArrivals_32 : decode cX5_acceptArrivals 32 = .ok (.iload 4, 2) := by decide +kernel
theorem dX5_acceptArrivals_34 : decode cX5_acceptArrivals 34 = .ok (.aload_n 1, 1) := by decide +kernel
theorem dX5_acceptArrivals_35 : decode cX5_acceptArrivals 35 = .ok (.getfield 306, 3) := by decide +kernel
theorem dX5_acceptArrivals_38 : decode cX5_acceptArrivals 38 = .ok (.if_icmp .ge 46, 3) := by decide +kernel
theorem dX5_acceptArrivals_41 : decode cX5_acceptArrivals 41 = .ok (.aload_n 0, 1) := by decide +kernel
theorem dX5_acceptArrivals_42 : decode cX5_acceptArrivals 42 = .ok (.getfield 10, 3) := by decide +kernel
theorem dX5_acceptArrivals_45 : decode cX5_acceptArrivals 45 = .ok (.aload_n 1, 1) := by decide +kernel
theorem dX5_acceptArrivals_46 : decode cX5_acceptArrivals 46 = .ok (.getfield 305, 3) := by decide +kernel
theorem dX5_acceptArrivals_49 : decode cX5_acceptArrivals 49 = .ok (.invokevirtual 55, 3) := by decide +kernel
theorem dX5_acceptArrivals_52 : decode cX5_acceptArrivals 52 = .ok (.ifCond .eq 26, 3) := by decide +kernel
theorem dX5_acceptArrivals_55 : decode cX5_acceptArrivals 55 = .ok (.aload_n 0, 1) := by decide +kernel
theorem dX5_acceptArrivals_56 : decode cX5_acceptArrivals 56 = .ok (.getfield 10, 3) := by decide +kernel
theorem dX5_acceptArrivals_59 : decode cX5_acceptArrivals 59 = .ok (.aload_n 1, 1) := by decide +kernel
theorem dX5_acceptArrivals_60 : decode cX5_acceptArrivals 60 = .ok (.getfield 305, 3) := by decide +kernel
theorem dX5_acceptArrivals_63 : decode cX5_acceptArrivals 63 = .ok (.aload_n 1, 1) := by decide +kernel
theorem dX5_acceptArrivals_64 : decode cX5_acceptArrivals 64 = .ok (.getfield 309, 3) := by decide +kernel
theorem dX5_acceptArrivals_67 : decode cX5_acceptArrivals 67 = .ok (.aload_n 1, 1) := by decide +kernel
theorem dX5_acceptArrivals_68 : decode cX5_acceptArrivals 68 = .ok (.getfield 310, 3) := by decide +kernel
theorem dX5_acceptArrivals_71 : decode cX5_acceptArrivals 71 = .ok (.invokevirtual 58, 3) := by decide +kernel
theorem dX5_acceptArrivals_74 : decode cX5_acceptArrivals 74 = .ok (.pop, 1) := by decide +kernel
theorem dX5_acceptArrivals_75 : decode cX5_acceptArrivals 75 = .ok (.iinc 2 1, 3) := by decide +kernel
theorem dX5_acceptArrivals_78 : decode cX5_acceptArrivals 78 = .ok (.iinc 4 1, 3) := by decide +kernel
theorem dX5_acceptArrivals_81 : decode cX5_acceptArrivals 81 = .ok (.goto (-49), 3) := by decide +kernel
theorem dX5_acceptArrivals_84 : decode cX5_acceptArrivals 84 = .ok (.iinc 3 1, 3) := by decide +kernel
theorem dX5_acceptArrivals_87 : decode cX5_acceptArrivals 87 = .ok (.goto (-71), 3) := by decide +kernel
theorem dX5_acceptArrivals_90 : decode cX5_acceptArrivals 90 = .ok (.iload_n 2, 1) := by decide +kernel
theorem dX5_acceptArrivals_91 : decode cX5_acceptArrivals 91 = .ok (.ireturn, 1) := by decide +kernel
theorem dX5_areSplits_0 : decode cX5_areSplits 0 = .ok (.iload_n 0, 1) := by decide +kernel
theorem dX5_areSplits_1 : decode cX5_areSplits 1 = .ok (.ifCond .lt 22, 3) := by decide +kernel
theorem dX5_areSplits_4 : decode cX5_areSplits 4 = .ok (.iload_n 0, 1) := by decide +kernel
theorem dX5_areSplits_5 : decode cX5_areSplits 5 = .ok (.sipush 1000, 3) := by decide +kernel
theorem dX5_areSplits_8 : decode cX5_areSplits 8 = .ok (.if_icmp .gt 15, 3) := by decide +kernel
theorem dX5_areSplits_11 : decode cX5_areSplits 11 = .ok (.iload_n 1, 1) := by decide +kernel
theorem dX5_areSplits_12 : decode cX5_areSplits 12 = .ok (.iconst 1, 1) := by decide +kernel
theorem dX5_areSplits_13 : decode cX5_areSplits 13 = .ok (.if_icmp .lt 10, 3) := by decide +kernel
theorem dX5_areSplits_16 : decode cX5_areSplits 16 = .ok (.iload_n 1, 1) := by decide +kernel
theorem dX5_areSplits_17 : decode cX5_areSplits 17 = .ok (.sipush 500, 3) := by decide +kernel
theorem dX5_areSplits_20 : decode cX5_areSplits 20 = .ok (.if_icmp .le 5, 3) := by decide +kernel
theorem dX5_areSplits_23 : decode cX5_areSplits 23 = .ok (.iconst 0, 1) := by decide +kernel
theorem dX5_areSplits_24 : decode cX5_areSplits 24 = .ok (.ireturn, 1) := by decide +kernel
theorem dX5_areSplits_25 : decode cX5_areSplits 25 = .ok (.iload_n 2, 1) := by decide +kernel
theorem dX5_areSplits_26 : decode cX5_areSplits 26 = .ok (.iconst 1, 1) := by decide +kernel
theorem dX5_areSplits_27 : decode cX5_areSplits 27 = .ok (.if_icmp .lt 9, 3) := by decide +kernel
theorem dX5_areSplits_30 : decode cX5_areSplits 30 = .ok (.iload_n 2, 1) := by decide +kernel
theorem dX5_areSplits_31 : decode cX5_areSplits 31 = .ok (.bipush 6, 2) := by decide +kernel
theorem dX5_areSplits_33 : decode cX5_areSplits 33 = .ok (.if_icmp .le 5, 3) := by decide +kernel
theorem dX5_areSplits_36 : decode cX5_areSplits 36 = .ok (.iconst 0, 1) := by decide +kernel
theorem dX5_areSplits_37 : decode cX5_areSplits 37 = .ok (.ireturn, 1) := by decide +kernel
theorem dX5_areSplits_38 : decode cX5_areSplits 38 = .ok (.iload_n 0, 1) := by decide +kernel
theorem dX5_areSplits_39 : decode cX5_areSplits 39 = .ok (.iload_n 1, 1) := by decide +kernel
theorem dX5_areSplits_40 : decode cX5_areSplits 40 = .ok (.iload_n 2, 1) := by decide +kernel
theorem dX5_areSplits_41 : decode cX5_areSplits 41 = .ok (.iconst 1, 1) := by decide +kernel
theorem dX5_areSplits_42 : decode cX5_areSplits 42 = .ok (.isub, 1) := by decide +kernel
theorem dX5_areSplits_43 : decode cX5_areSplits 43 = .ok (.imul, 1) := by decide +kernel
theorem dX5_areSplits_44 : decode cX5_areSplits 44 = .ok (.iadd, 1) := by decide +kernel
theorem dX5_areSplits_45 : decode cX5_areSplits 45 = .ok (.sipush 1000, 3) := by decide +kernel
theorem dX5_areSplits_48 : decode cX5_areSplits 48 = .ok (.if_icmp .gt 7, 3) := by decide +kernel
theorem dX5_areSplits_51 : decode cX5_areSplits 51 = .ok (.iconst 1, 1) := by decide +kernel
theorem dX5_areSplits_52 : decode cX5_areSplits 52 = .ok (.goto 4, 3) := by decide +kernel
theorem dX5_areSplits_55 : decode cX5_areSplits 55 = .ok (.iconst 0, 1) := by decide +kernel
theorem dX5_areSplits_56 : decode cX5_areSplits 56 = .ok (.ireturn, 1) := by decide +kernel
theorem dX5_freshCopy_0 : decode cX5_freshCopy 0 = .ok (.aload_n 0, 1) := by decide +kernel
theorem dX5_freshCopy_1 : decode cX5_freshCopy 1 = .ok (.getfield 20, 3) := by decide +kernel
theorem dX5_freshCopy_4 : decode cX5_freshCopy 4 = .ok (.ifnonnull 14, 3) := by decide +kernel
theorem dX5_freshCopy_7 : decode cX5_freshCopy 7 = .ok (.aload_n 0, 1) := by decide +kernel
theorem dX5_freshCopy_8 : decode cX5_freshCopy 8 = .ok (.new 7, 3) := by decide +kernel
theorem dX5_freshCopy_11 : decode cX5_freshCopy 11 = .ok (.dup, 1) := by decide +kernel
theorem dX5_freshCopy_12 : decode cX5_freshCopy 12 = .ok (.invokespecial 9, 3) := by decide +kernel
theorem dX5_freshCopy_15 : decode cX5_freshCopy 15 = .ok (.putfield 20, 3) := by decide +kernel
theorem dX5_freshCopy_18 : decode cX5_freshCopy 18 = .ok (.aload_n 0, 1) := by decide +kernel
theorem dX5_freshCopy_19 : decode cX5_freshCopy 19 = .ok (.getfield 20, 3) := by decide +kernel
theorem dX5_freshCopy_22 : decode cX5_freshCopy 22 = .ok (.aload_n 0, 1) := by decide +kernel
theorem dX5_freshCopy_23 : decode cX5_freshCopy 23 = .ok (.getfield 10, 3) := by decide +kernel
theorem dX5_freshCopy_26 : decode cX5_freshCopy 26 = .ok (.invokevirtual 289, 3) := by decide +kernel
theorem dX5_freshCopy_29 : decode cX5_freshCopy 29 = .ok (.aload_n 0, 1) := by decide +kernel
theorem dX5_freshCopy_30 : decode cX5_freshCopy 30 = .ok (.getfield 20, 3) := by decide +kernel
theorem dX5_freshCopy_33 : decode cX5_freshCopy 33 = .ok (.areturn, 1) := by decide +kernel
theorem dX5_greatestDelayWith_0 : decode cX5_greatestDelayWith 0 = .ok (.aload_n 0, 1) := by decide +kernel
theorem dX5_greatestDelayWith_1 : decode cX5_greatestDelayWith 1 = .ok (.invokevirtual 270, 3) := by decide +kernel
theorem dX5_greatestDelayWith_4 : decode cX5_greatestDelayWith 4 = .ok (.astore 4, 2) := by decide +kernel
theorem dX5_greatestDelayWith_6 : decode cX5_greatestDelayWith 6 = .ok (.aload 4, 2) := by decide +kernel
theorem dX5_greatestDelayWith_8 : decode cX5_greatestDelayWith 8 = .ok (.getfield 42, 3) := by decide +kernel
theorem dX5_greatestDelayWith_11 : decode cX5_greatestDelayWith 11 = .ok (.iload_n 1, 1) := by decide +kernel
theorem dX5_greatestDelayWith_12 : decode cX5_greatestDelayWith 12 = .ok (.aaload, 1) := by decide +kernel
theorem dX5_greatestDelayWith_13 : decode cX5_greatestDelayWith 13 = .ok (.getfield 46, 3) := by decide +kernel
theorem dX5_greatestDelayWith_16 : decode cX5_greatestDelayWith 16 = .ok (.iconst 2, 1) := by decide +kernel
theorem dX5_greatestDelayWith_17 : decode cX5_greatestDelayWith 17 = .ok (.iload_n 2, 1) := by decide +kernel
theorem dX5_greatestDelayWith_18 : decode cX5_greatestDelayWith 18 = .ok (.iastore, 1) := by decide +kernel
theorem dX5_greatestDelayWith_19 : decode cX5_greatestDelayWith 19 = .ok (.iconst 0, 1) := by decide +kernel
theorem dX5_greatestDelayWith_20 : decode cX5_greatestDelayWith 20 = .ok (.istore 5, 2) := by decide +kernel
theorem dX5_greatestDelayWith_22 : decode cX5_greatestDelayWith 22 = .ok (.iload 5, 2) := by decide +kernel
theorem dX5_greatestDelayWith_24 : decode cX5_greatestDelayWith 24 = .ok (.iload_n 3, 1) := by decide +kernel
theorem dX5_greatestDelayWith_25 : decode cX5_greatestDelayWith 25 = .ok (.if_icmp .ge 14, 3) := by decide +kernel
theorem dX5_greatestDelayWith_28 : decode cX5_greatestDelayWith 28 = .ok (.aload 4, 2) := by decide +kernel
theorem dX5_greatestDelayWith_30 : decode cX5_greatestDelayWith 30 = .ok (.invokevirtual 311, 3) := by decide +kernel
theorem dX5_greatestDelayWith_33 : decode cX5_greatestDelayWith 33 = .ok (.iinc 5 1, 3) := by decide +kernel
theorem dX5_greatestDelayWith_36 : decode cX5_greatestDelayWith 36 = .ok (.goto (-14), 3) := by decide +kernel
theorem dX5_greatestDelayWith_39 : decode cX5_greatestDelayWith 39 = .ok (.iconst 0, 1) := by decide +kernel
theorem dX5_greatestDelayWith_40 : decode cX5_greatestDelayWith 40 = .ok (.istore 5, 2) := by decide +kernel
theorem dX5_greatestDelayWith_42 : decode cX5_greatestDelayWith 42 = .ok (.aload_n 0, 1) := by decide +kernel
theorem dX5_greatestDelayWith_43 : decode cX5_greatestDelayWith 43 = .ok (.getfield 10, 3) := by decide +kernel
theorem dX5_greatestDelayWith_46 : decode cX5_greatestDelayWith 46 = .ok (.invokevirtual 248, 3) := by decide +kernel
theorem dX5_greatestDelayWith_49 : decode cX5_greatestDelayWith 49 = .ok (.istore 6, 2) := by decide +kernel
theorem dX5_greatestDelayWith_51 : decode cX5_greatestDelayWith 51 = .ok (.iload 6, 2) := by decide +kernel
theorem dX5_greatestDelayWith_53 : decode cX5_greatestDelayWith 53 = .ok (.aload_n 0, 1) := by decide +kernel
theorem dX5_greatestDelayWith_54 : decode cX5_greatestDelayWith 54 = .ok (.getfield 10, 3) := by decide +kernel
theorem dX5_greatestDelayWith_57 : decode cX5_greatestDelayWith 57 = .ok (.getfield 216, 3) := by decide +kernel
theorem dX5_greatestDelayWith_60 : decode cX5_greatestDelayWith 60 = .ok (.if_icmp .ge 58, 3) := by decide +kernel
theorem dX5_greatestDelayWith_63 : decode cX5_greatestDelayWith 63 = .ok (.aload_n 0, 1) := by decide +kernel
theorem dX5_greatestDelayWith_64 : decode cX5_greatestDelayWith 64 = .ok (.getfield 10, 3) := by decide +kernel
theorem dX5_greatestDelayWith_67 : decode cX5_greatestDelayWith 67 = .ok (.iload 6, 2) := by decide +kernel
theorem dX5_greatestDelayWith_69 : decode cX5_greatestDelayWith 69 = .ok (.invokevirtual 65, 3) := by decide +kernel
theorem dX5_greatestDelayWith_72 : decode cX5_greatestDelayWith 72 = .ok (.invokevirtual 105, 3) := by decide +kernel
theorem dX5_greatestDelayWith_75 : decode cX5_greatestDelayWith 75 = .ok (.ifCond .eq 37, 3) := by decide +kernel
theorem dX5_greatestDelayWith_78 : decode cX5_greatestDelayWith 78 = .ok (.aload 4, 2) := by decide +kernel
theorem dX5_greatestDelayWith_80 : decode cX5_greatestDelayWith 80 = .ok (.iload 6, 2) := by decide +kernel
theorem dX5_greatestDelayWith_82 : decode cX5_greatestDelayWith 82 = .ok (.invokevirtual 65, 3) := by decide +kernel
theorem dX5_greatestDelayWith_85 : decode cX5_greatestDelayWith 85 = .ok (.astore 7, 2) := by decide +kernel
theorem dX5_greatestDelayWith_87 : decode cX5_greatestDelayWith 87 = .ok (.aload 7, 2) := by decide +kernel
theorem dX5_greatestDelayWith_89 : decode cX5_greatestDelayWith 89 = .ok (.getfield 69, 3) := by decide +kernel
theorem dX5_greatestDelayWith_92 : decode cX5_greatestDelayWith 92 = .ok (.iconst 3, 1) := by decide +kernel
theorem dX5_greatestDelayWith_93 : decode cX5_greatestDelayWith 93 = .ok (.if_icmp .eq 7, 3) := by decide +kernel
theorem dX5_greatestDelayWith_96 : decode cX5_greatestDelayWith 96 = .ok (.ldc_w 285, 3) := by decide +kernel
theorem dX5_greatestDelayWith_99 : decode cX5_greatestDelayWith 99 = .ok (.ireturn, 1) := by decide +kernel
theorem dX5_greatestDelayWith_100 : decode cX5_greatestDelayWith 100 = .ok (.iload 5, 2) := by decide +kernel
theorem dX5_greatestDelayWith_102 : decode cX5_greatestDelayWith 102 = .ok (.aload 7, 2) := by decide +kernel
theorem dX5_greatestDelayWith_104 : decode cX5_greatestDelayWith 104 = .ok (.invokevirtual 314, 3) := by decide +kernel
theorem dX5_greatestDelayWith_107 : decode cX5_greatestDelayWith 107 = .ok (.invokestatic 317, 3) := by decide +kernel
theorem dX5_greatestDelayWith_110 : decode cX5_greatestDelayWith 110 = .ok (.istore 5, 2) := by decide +kernel
theorem dX5_greatestDelayWith_112 : decode cX5_greatestDelayWith 112 = .ok (.iinc 6 1, 3) := by decide +kernel
theorem dX5_greatestDelayWith_115 : decode cX5_greatestDelayWith 115 = .ok (.goto (-64), 3) := by decide +kernel
theorem dX5_greatestDelayWith_118 : decode cX5_greatestDelayWith 118 = .ok (.iload 5, 2) := by decide +kernel
theorem dX5_greatestDelayWith_120 : decode cX5_greatestDelayWith 120 = .ok (.ireturn, 1) := by decide +kernel
theorem dX6_init_0 : decode cX6_init 0 = .ok (.aload_n 0, 1) := by decide +kernel
theorem dX6_init_1 : decode cX6_init 1 = .ok (.invokespecial 1, 3) := by decide +kernel
theorem dX6_init_4 : decode cX6_init 4 = .ok (.aload_n 0, 1) := by decide +kernel
theorem dX6_init_5 : decode cX6_init 5 = .ok (.sipush 1826, 3) := by decide +kernel
theorem dX6_init_8 : decode cX6_init 8 = .ok (.newarray .long, 2) := by decide +kernel
theorem dX6_init_10 : decode cX6_init 10 = .ok (.putfield 7, 3) := by decide +kernel
theorem dX6_init_13 : decode cX6_init 13 = .ok (.aload_n 0, 1) := by decide +kernel
theorem dX6_init_14 : decode cX6_init 14 = .ok (.sipush 1826, 3) := by decide +kernel
theorem dX6_init_17 : decode cX6_init 17 = .ok (.newarray .long, 2) := by decide +kernel
theorem dX6_init_19 : decode cX6_init 19 = .ok (.putfield 13, 3) := by decide +kernel
theorem dX6_init_22 : decode cX6_init 22 = .ok (.aload_n 0, 1) := by decide +kernel
theorem dX6_init_23 : decode cX6_init 23 = .ok (.sipush 3652, 3) := by decide +kernel
theorem dX6_init_26 : decode cX6_init 26 = .ok (.newarray .long, 2) := by decide +kernel
theorem dX6_init_28 : decode cX6_init 28 = .ok (.putfield 16, 3) := by decide +kernel
theorem dX6_init_31 : decode cX6_init 31 = .ok (.aload_n 0, 1) := by decide +kernel
theorem dX6_init_32 : decode cX6_init 32 = .ok (.iconst 2, 1) := by decide +kernel
theorem dX6_init_33 : decode cX6_init 33 = .ok (.newarray .boolean, 2) := by decide +kernel
theorem dX6_init_35 : decode cX6_init 35 = .ok (.putfield 19, 3) := by decide +kernel
theorem dX6_init_38 : decode cX6_init 38 = .ok (.aload_n 0, 1) := by decide +kernel
theorem dX6_init_39 : decode cX6_init 39 = .ok (.sipush 160, 3) := by decide +kernel
theorem dX6_init_42 : decode cX6_init 42 = .ok (.newarray .int, 2) := by decide +kernel
theorem dX6_init_44 : decode cX6_init 44 = .ok (.putfield 23, 3) := by decide +kernel
theorem dX6_init_47 : decode cX6_init 47 = .ok (.aload_n 0, 1) := by decide +kernel
theorem dX6_init_48 : decode cX6_init 48 = .ok (.bipush 120, 2) := by decide +kernel
theorem dX6_init_50 : decode cX6_init 50 = .ok (.newarray .boolean, 2) := by decide +kernel
theorem dX6_init_52 : decode cX6_init 52 = .ok (.putfield 27, 3) := by decide +kernel
theorem dX6_init_55 : decode cX6_init 55 = .ok (.aload_n 0, 1) := by decide +kernel
theorem dX6_init_56 : decode cX6_init 56 = .ok (.getfield 7, 3) := by decide +kernel
theorem dX6_init_59 : decode cX6_init 59 = .ok (.iconst 3, 1) := by decide +kernel
theorem dX6_init_60 : decode cX6_init 60 = .ok (.ldc2_w 30, 3) := by decide +kernel
theorem dX6_init_63 : decode cX6_init 63 = .ok (.lastore, 1) := by decide +kernel
theorem dX6_init_64 : decode cX6_init 64 = .ok (.aload_n 0, 1) := by decide +kernel
theorem dX6_init_65 : decode cX6_init 65 = .ok (.getfield 7, 3) := by decide +kernel
theorem dX6_init_68 : decode cX6_init 68 = .ok (.iconst 4, 1) := by decide +kernel
theorem dX6_init_69 : decode cX6_init 69 = .ok (.lconst 1, 1) := by decide +kernel
theorem dX6_init_70 : decode cX6_init 70 = .ok (.lastore, 1) := by decide +kernel
theorem dX6_init_71 : decode cX6_init 71 = .ok (.aload_n 0, 1) := by decide +kernel
theorem dX6_init_72 : decode cX6_init 72 = .ok (.getfield 7, 3) := by decide +kernel
theorem dX6_init_75 : decode cX6_init 75 = .ok (.iconst 5, 1) := by decide +kernel
theorem dX6_init_76 : decode cX6_init 76 = .ok (.ldc2_w 32, 3) := by decide +kernel
theorem dX6_init_79 : decode cX6_init 79 = .ok (.lastore, 1) := by decide +kernel
theorem dX6_init_80 : decode cX6_init 80 = .ok (.aload_n 0, 1) := by decide +kernel
theorem dX6_init_81 : decode cX6_init 81 = .ok (.getfield 7, 3) := by decide +kernel
theorem dX6_init_84 : decode cX6_init 84 = .ok (.bipush 6, 2) := by decide +kernel
theorem dX6_init_86 : decode cX6_init 86 = .ok (.lconst 1, 1) := by decide +kernel
theorem dX6_init_87 : decode cX6_init 87 = .ok (.lastore, 1) := by decide +kernel
theorem dX6_init_88 : decode cX6_init 88 = .ok (.aload_n 0, 1) := by decide +kernel
theorem dX6_init_89 : decode cX6_init 89 = .ok (.getfield 7, 3) := by decide +kernel
theorem dX6_init_92 : decode cX6_init 92 = .ok (.bipush 8, 2) := by decide +kernel
theorem dX6_init_94 : decode cX6_init 94 = .ok (.ldc2_w 34, 3) := by decide +kernel
theorem dX6_init_97 : decode cX6_init 97 = .ok (.lastore, 1) := by decide +kernel
theorem dX6_init_98 : decode cX6_init 98 = .ok (.return_, 1) := by decide +kernel
theorem dX6_in_0 : decode cX6_in 0 = .ok (.lload_n 0, 1) := by decide +kernel
theorem dX6_in_1 : decode cX6_in 1 = .ok (.lload_n 2, 1) := by decide +kernel
theorem dX6_in_2 : decode cX6_in 2 = .ok (.lcmp, 1) := by decide +kernel
theorem dX6_in_3 : decode cX6_in 3 = .ok (.ifCond .lt 14, 3) := by decide +kernel
theorem dX6_in_6 : decode cX6_in 6 = .ok (.lload_n 0, 1) := by decide +kernel
theorem dX6_in_7 : decode cX6_in 7 = .ok (.lload 4, 2) := by decide +kernel
theorem dX6_in_9 : decode cX6_in 9 = .ok (.lcmp, 1) := by decide +kernel
theorem dX6_in_10 : decode cX6_in 10 = .ok (.ifCond .gt 7, 3) := by decide +kernel
theorem dX6_in_13 : decode cX6_in 13 = .ok (.iconst 1, 1) := by decide +kernel
theorem dX6_in_14 : decode cX6_in 14 = .ok (.goto 4, 3) := by decide +kernel
theorem dX6_in_17 : decode cX6_in 17 = .ok (.iconst 0, 1) := by decide +kernel
theorem dX6_in_18 : decode cX6_in 18 = .ok (.ireturn, 1) := by decide +kernel
theorem dX6_isFlow_0 : decode cX6_isFlow 0 = .ok (.iload_n 1, 1) := by decide +kernel
theorem dX6_isFlow_1 : decode cX6_isFlow 1 = .ok (.i2l, 1) := by decide +kernel
theorem dX6_isFlow_2 : decode cX6_isFlow 2 = .ok (.lconst 0, 1) := by decide +kernel
theorem dX6_isFlow_3 : decode cX6_isFlow 3 = .ok (.aload_n 0, 1) := by decide +kernel
theorem dX6_isFlow_4 : decode cX6_isFlow 4 = .ok (.getfield 7, 3) := by decide +kernel
theorem dX6_isFlow_7 : decode cX6_isFlow 7 = .ok (.iconst 2, 1) := by decide +kernel
theorem dX6_isFlow_8 : decode cX6_isFlow 8 = .ok (.laload, 1) := by decide +kernel
theorem dX6_isFlow_9 : decode cX6_isFlow 9 = .ok (.lconst 1, 1) := by decide +kernel
theorem dX6_isFlow_10 : decode cX6_isFlow 10 = .ok (.lsub, 1) := by decide +kernel
theorem dX6_isFlow_11 : decode cX6_isFlow 11 = .ok (.invokestatic 36, 3) := by decide +kernel
theorem dX6_isFlow_14 : decode cX6_isFlow 14 = .ok (.ireturn, 1) := by decide +kernel
theorem dX6_flowAt_0 : decode cX6_flowAt 0 = .ok (.bipush 17, 2) := by decide +kernel
theorem dX6_flowAt_2 : decode cX6_flowAt 2 = .ok (.bipush 18, 2) := by decide +kernel
theorem dX6_flowAt_4 : decode cX6_flowAt 4 = .ok (.iload_n 0, 1) := by decide +kernel
theorem dX6_flowAt_5 : decode cX6_flowAt 5 = .ok (.imul, 1) := by decide +kernel
theorem dX6_flowAt_6 : decode cX6_flowAt 6 = .ok (.iadd, 1) := by decide +kernel
theorem dX6_flowAt_7 : decode cX6_flowAt 7 = .ok (.iload_n 1, 1) := by decide +kernel
theorem dX6_flowAt_8 : decode cX6_flowAt 8 = .ok (.iadd, 1) := by decide +kernel
theorem dX6_flowAt_9 : decode cX6_flowAt 9 = .ok (.ireturn, 1) := by decide +kernel
theorem dX6_ofFlow_0 : decode cX6_ofFlow 0 = .ok (.aload_n 0, 1) := by decide +kernel
theorem dX6_ofFlow_1 : decode cX6_ofFlow 1 = .ok (.getfield 7, 3) := by decide +kernel
theorem dX6_ofFlow_4 : decode cX6_ofFlow 4 = .ok (.iload_n 1, 1) := by decide +kernel
theorem dX6_ofFlow_5 : decode cX6_ofFlow 5 = .ok (.iload_n 2, 1) := by decide +kernel
theorem dX6_ofFlow_6 : decode cX6_ofFlow 6 = .ok (.invokestatic 40, 3) := by decide +kernel
theorem dX6_ofFlow_9 : decode cX6_ofFlow 9 = .ok (.laload, 1) := by decide +kernel
theorem dX6_ofFlow_10 : decode cX6_ofFlow 10 = .ok (.lreturn, 1) := by decide +kernel
theorem dX6_isKnown_0 : decode cX6_isKnown 0 = .ok (.iload_n 1, 1) := by decide +kernel
theorem dX6_isKnown_1 : decode cX6_isKnown 1 = .ok (.i2l, 1) := by decide +kernel
theorem dX6_isKnown_2 : decode cX6_isKnown 2 = .ok (.lconst 0, 1) := by decide +kernel
theorem dX6_isKnown_3 : decode cX6_isKnown 3 = .ok (.aload_n 0, 1) := by decide +kernel
theorem dX6_isKnown_4 : decode cX6_isKnown 4 = .ok (.getfield 7, 3) := by decide +kernel
theorem dX6_isKnown_7 : decode cX6_isKnown 7 = .ok (.bipush 7, 2) := by decide +kernel
theorem dX6_isKnown_9 : decode cX6_isKnown 9 = .ok (.laload, 1) := by decide +kernel
theorem dX6_isKnown_10 : decode cX6_isKnown 10 = .ok (.lconst 1, 1) := by decide +kernel
theorem dX6_isKnown_11 : decode cX6_isKnown 11 = .ok (.lsub, 1) := by decide +kernel
theorem dX6_isKnown_12 : decode cX6_isKnown 12 = .ok (.invokestatic 36, 3) := by decide +kernel
theorem dX6_isKnown_15 : decode cX6_isKnown 15 = .ok (.ifCond .eq 24, 3) := by decide +kernel
theorem dX6_isKnown_18 : decode cX6_isKnown 18 = .ok (.iload_n 1, 1) := by decide +kernel
theorem dX6_isKnown_19 : decode cX6_isKnown 19 = .ok (.i2l, 1) := by decide +kernel
theorem dX6_isKnown_20 : decode cX6_isKnown 20 = .ok (.aload_n 0, 1) := by decide +kernel
theorem dX6_isKnown_21 : decode cX6_isKnown 21 = .ok (.getfield 7, 3) := by decide +kernel
theorem dX6_isKnown_24 : decode cX6_isKnown 24 = .ok (.bipush 7, 2) := by decide +kernel
theorem dX6_isKnown_26 : decode cX6_isKnown 26 = .ok (.laload, 1) := by decide +kernel
theorem dX6_isKnown_27 : decode cX6_isKnown 27 = .ok (.ldc2_w 44, 3) := by decide +kernel
theorem dX6_isKnown_30 : decode cX6_isKnown 30 = .ok (.lsub, 1) := by decide +kernel
theorem dX6_isKnown_31 : decode cX6_isKnown 31 = .ok (.lcmp, 1) := by decide +kernel
theorem dX6_isKnown_32 : decode cX6_isKnown 32 = .ok (.ifCond .lt 7, 3) := by decide +kernel
theorem dX6_isKnown_35 : decode cX6_isKnown 35 = .ok (.iconst 1, 1) := by decide +kernel
theorem dX6_isKnown_36 : decode cX6_isKnown 36 = .ok (.goto 4, 3) := by decide +kernel
theorem dX6_isKnown_39 : decode cX6_isKnown 39 = .ok (.iconst 0, 1) := by decide +kernel
theorem dX6_isKnown_40 : decode cX6_isKnown 40 = .ok (.ireturn, 1) := by decide +kernel
theorem dX6_packetAt_0 : decode cX6_packetAt 0 = .ok (.bipush 125, 2) := by decide +kernel
theorem dX6_packetAt_2 : decode cX6_packetAt 2 = .ok (.bipush 11, 2) := by decide +kernel
theorem dX6_packetAt_4 : decode cX6_packetAt 4 = .ok (.iload_n 0, 1) := by decide +kernel
theorem dX6_packetAt_5 : decode cX6_packetAt 5 = .ok (.bipush 120, 2) := by decide +kernel
theorem dX6_packetAt_7 : decode cX6_packetAt 7 = .ok (.irem, 1) := by decide +kernel
theorem dX6_packetAt_8 : decode cX6_packetAt 8 = .ok (.imul, 1) := by decide +kernel
theorem dX6_packetAt_9 : decode cX6_packetAt 9 = .ok (.iadd, 1) := by decide +kernel
theorem dX6_packetAt_10 : decode cX6_packetAt 10 = .ok (.iload_n 1, 1) := by decide +kernel
theorem dX6_packetAt_11 : decode cX6_packetAt 11 = .ok (.iadd, 1) := by decide +kernel
theorem dX6_packetAt_12 : decode cX6_packetAt 12 = .ok (.ireturn, 1) := by decide +kernel
theorem dX6_of_0 : decode cX6_of 0 = .ok (.aload_n 0, 1) := by decide +kernel
theorem dX6_of_1 : decode cX6_of 1 = .ok (.getfield 7, 3) := by decide +kernel
theorem dX6_of_4 : decode cX6_of 4 = .ok (.iload_n 1, 1) := by decide +kernel
theorem dX6_of_5 : decode cX6_of 5 = .ok (.iload_n 2, 1) := by decide +kernel
theorem dX6_of_6 : decode cX6_of 6 = .ok (.invokestatic 46, 3) := by decide +kernel
theorem dX6_of_9 : decode cX6_of 9 = .ok (.laload, 1) := by decide +kernel
theorem dX6_of_10 : decode cX6_of 10 = .ok (.lreturn, 1) := by decide +kernel
theorem dX6_oldest_0 : decode cX6_oldest 0 = .ok (.aload_n 0, 1) := by decide +kernel
theorem dX6_oldest_1 : decode cX6_oldest 1 = .ok (.getfield 7, 3) := by decide +kernel
theorem dX6_oldest_4 : decode cX6_oldest 4 = .ok (.bipush 7, 2) := by decide +kernel
theorem dX6_oldest_6 : decode cX6_oldest 6 = .ok (.laload, 1) := by decide +kernel
theorem dX6_oldest_7 : decode cX6_oldest 7 = .ok (.ldc2_w 44, 3) := by decide +kernel
theorem dX6_oldest_10 : decode cX6_oldest 10 = .ok (.lcmp, 1) := by decide +kernel
theorem dX6_oldest_11 : decode cX6_oldest 11 = .ok (.ifCond .le 17, 3) := by decide +kernel
theorem dX6_oldest_14 : decode cX6_oldest 14 = .ok (.aload_n 0, 1) := by decide +kernel
theorem dX6_oldest_15 : decode cX6_oldest 15 = .ok (.getfield 7, 3) := by decide +kernel
theorem dX6_oldest_18 : decode cX6_oldest 18 = .ok (.bipush 7, 2) := by decide +kernel
theorem dX6_oldest_20 : decode cX6_oldest 20 = .ok (.laload, 1) := by decide +kernel
theorem dX6_oldest_21 : decode cX6_oldest 21 = .ok (.ldc2_w 44, 3) := by decide +kernel
theorem dX6_oldest_24 : decode cX6_oldest 24 = .ok (.lsub, 1) := by decide +kernel
theorem dX6_oldest_25 : decode cX6_oldest 25 = .ok (.goto 4, 3) := by decide +kernel
theorem dX6_oldest_28 : decode cX6_oldest 28 = .ok (.lconst 0, 1) := by decide +kernel
theorem dX6_oldest_29 : decode cX6_oldest 29 = .ok (.l2i, 1) := by decide +kernel
theorem dX6_oldest_30 : decode cX6_oldest 30 = .ok (.ireturn, 1) := by decide +kernel
theorem dX6_isQueued_0 : decode cX6_isQueued 0 = .ok (.aload_n 0, 1) := by decide +kernel
theorem dX6_isQueued_1 : decode cX6_isQueued 1 = .ok (.iload_n 1, 1) := by decide +kernel
theorem dX6_isQueued_2 : decode cX6_isQueued 2 = .ok (.iconst 4, 1) := by decide +kernel
theorem dX6_isQueued_3 : decode cX6_isQueued 3 = .ok (.invokevirtual 49, 3) := by decide +kernel
theorem dX6_isQueued_6 : decode cX6_isQueued 6 = .ok (.lconst 1, 1) := by decide +kernel
theorem dX6_isQueued_7 : decode cX6_isQueued 7 = .ok (.lcmp, 1) := by decide +kernel
theorem dX6_isQueued_8 : decode cX6_isQueued 8 = .ok (.ifCond .gt 7, 3) := by decide +kernel
theorem dX6_isQueued_11 : decode cX6_isQueued 11 = .ok (.iconst 1, 1) := by decide +kernel
theorem dX6_isQueued_12 : decode cX6_isQueued 12 = .ok (.goto 4, 3) := by decide +kernel
theorem dX6_isQueued_15 : decode cX6_isQueued 15 = .ok (.iconst 0, 1) := by decide +kernel
theorem dX6_isQueued_16 : decode cX6_isQueued 16 = .ok (.ireturn, 1) := by decide +kernel
theorem dX6_headOf_0 : decode cX6_headOf 0 = .ok (.aload_n 0, 1) := by decide +kernel
theorem dX6_headOf_1 : decode cX6_headOf 1 = .ok (.iload_n 1, 1) := by decide +kernel
theorem dX6_headOf_2 : decode cX6_headOf 2 = .ok (.bipush 17, 2) := by decide +kernel
theorem dX6_headOf_4 : decode cX6_headOf 4 = .ok (.invokevirtual 53, 3) := by decide +kernel
theorem dX6_headOf_7 : decode cX6_headOf 7 = .ok (.lconst 0, 1) := by decide +kernel
theorem dX6_headOf_8 : decode cX6_headOf 8 = .ok (.lcmp, 1) := by decide +kernel
theorem dX6_headOf_9 : decode cX6_headOf 9 = .ok (.ifCond .ne 6, 3) := by decide +kernel
theorem dX6_headOf_12 : decode cX6_headOf 12 = .ok (.bipush (-6), 2) := by decide +kernel
theorem dX6_headOf_14 : decode cX6_headOf 14 = .ok (.ireturn, 1) := by decide +kernel
theorem dX6_headOf_15 : decode cX6_headOf 15 = .ok (.aload_n 0, 1) := by decide +kernel
theorem dX6_headOf_16 : decode cX6_headOf 16 = .ok (.invokevirtual 56, 3) := by decide +kernel
theorem dX6_headOf_19 : decode cX6_headOf 19 = .ok (.istore_n 2, 1) := by decide +kernel
theorem dX6_headOf_20 : decode cX6_headOf 20 = .ok (.aload_n 0, 1) := by decide +kernel
theorem dX6_headOf_21 : decode cX6_headOf 21 = .ok (.iload_n 2, 1) := by decide +kernel
theorem dX6_headOf_22 : decode cX6_headOf 22 = .ok (.iconst 0, 1) := by decide +kernel
theorem dX6_headOf_23 : decode cX6_headOf 23 = .ok (.invokevirtual 49, 3) := by decide +kernel
theorem dX6_headOf_26 : decode cX6_headOf 26 = .ok (.iload_n 1, 1) := by decide +kernel
theorem dX6_headOf_27 : decode cX6_headOf 27 = .ok (.i2l, 1) := by decide +kernel
theorem dX6_headOf_28 : decode cX6_headOf 28 = .ok (.lcmp, 1) := by decide +kernel
theorem dX6_headOf_29 : decode cX6_headOf 29 = .ok (.ifCond .ne 11, 3) := by decide +kernel
theorem dX6_headOf_32 : decode cX6_headOf 32 = .ok (.aload_n 0, 1) := by decide +kernel
theorem dX6_headOf_33 : decode cX6_headOf 33 = .ok (.iload_n 2, 1) := by decide +kernel
theorem dX6_headOf_34 : decode cX6_headOf 34 = .ok (.invokevirtual 60, 3) := by decide +kernel
theorem dX6_headOf_37 : decode cX6_headOf 37 = .ok (.ifCond .ne 9, 3) := by decide +kernel
theorem dX6_headOf_40 : decode cX6_headOf 40 = .ok (.iinc 2 1, 3) := by decide +kernel
theorem dX6_headOf_43 : decode cX6_headOf 43 = .ok (.goto (-23), 3) := by decide +kernel
theorem dX6_headOf_46 : decode cX6_headOf 46 = .ok (.iload_n 2, 1) := by decide +kernel
theorem dX6_headOf_47 : decode cX6_headOf 47 = .ok (.ireturn, 1) := by decide +kernel
theorem dX6_addFlow_0 : decode cX6_addFlow 0 = .ok (.iload_n 1, 1) := by decide +kernel
theorem dX6_addFlow_1 : decode cX6_addFlow 1 = .ok (.i2l, 1) := by decide +kernel
theorem dX6_addFlow_2 : decode cX6_addFlow 2 = .ok (.lconst 1, 1) := by decide +kernel
theorem dX6_addFlow_3 : decode cX6_addFlow 3 = .ok (.ldc2_w 64, 3) := by decide +kernel
theorem dX6_addFlow_6 : decode cX6_addFlow 6 = .ok (.invokestatic 36, 3) := by decide +kernel
theorem dX6_addFlow_9 : decode cX6_addFlow 9 = .ok (.ifCond .ne 6, 3) := by decide +kernel
theorem dX6_addFlow_12 : decode cX6_addFlow 12 = .ok (.bipush (-2), 2) := by decide +kernel
theorem dX6_addFlow_14 : decode cX6_addFlow 14 = .ok (.ireturn, 1) := by decide +kernel
theorem dX6_addFlow_15 : decode cX6_addFlow 15 = .ok (.aload_n 0, 1) := by decide +kernel
theorem dX6_addFlow_16 : decode cX6_addFlow 16 = .ok (.getfield 7, 3) := by decide +kernel
theorem dX6_addFlow_19 : decode cX6_addFlow 19 = .ok (.iconst 2, 1) := by decide +kernel
theorem dX6_addFlow_20 : decode cX6_addFlow 20 = .ok (.laload, 1) := by decide +kernel
theorem dX6_addFlow_21 : decode cX6_addFlow 21 = .ok (.ldc2_w 66, 3) := by decide +kernel
theorem dX6_addFlow_24 : decode cX6_addFlow 24 = .ok (.lcmp, 1) := by decide +kernel
theorem dX6_addFlow_25 : decode cX6_addFlow 25 = .ok (.ifCond .ne 6, 3) := by decide +kernel
theorem dX6_addFlow_28 : decode cX6_addFlow 28 = .ok (.bipush (-4), 2) := by decide +kernel
theorem dX6_addFlow_30 : decode cX6_addFlow 30 = .ok (.ireturn, 1) := by decide +kernel
theorem dX6_addFlow_31 : decode cX6_addFlow 31 = .ok (.aload_n 0, 1) := by decide +kernel
theorem dX6_addFlow_32 : decode cX6_addFlow 32 = .ok (.getfield 7, 3) := by decide +kernel
theorem dX6_addFlow_35 : decode cX6_addFlow 35 = .ok (.iconst 2, 1) := by decide +kernel
theorem dX6_addFlow_36 : decode cX6_addFlow 36 = .ok (.laload, 1) := by decide +kernel
theorem dX6_addFlow_37 : decode cX6_addFlow 37 = .ok (.l2i, 1) := by decide +kernel
theorem dX6_addFlow_38 : decode cX6_addFlow 38 = .ok (.istore_n 2, 1) := by decide +kernel
theorem dX6_addFlow_39 : decode cX6_addFlow 39 = .ok (.iconst 0, 1) := by decide +kernel
theorem dX6_addFlow_40 : decode cX6_addFlow 40 = .ok (.istore_n 3, 1) := by decide +kernel
theorem dX6_addFlow_41 : decode cX6_addFlow 41 = .ok (.iload_n 3, 1) := by decide +kernel
theorem dX6_addFlow_42 : decode cX6_addFlow 42 = .ok (.bipush 18, 2) := by decide +kernel
theorem dX6_addFlow_44 : decode cX6_addFlow 44 = .ok (.if_icmp .ge 20, 3) := by decide +kernel
theorem dX6_addFlow_47 : decode cX6_addFlow 47 = .ok (.aload_n 0, 1) := by decide +kernel
theorem dX6_addFlow_48 : decode cX6_addFlow 48 = .ok (.getfield 7, 3) := by decide +kernel
theorem dX6_addFlow_51 : decode cX6_addFlow 51 = .ok (.iload_n 2, 1) := by decide +kernel
theorem dX6_addFlow_52 : decode cX6_addFlow 52 = .ok (.iload_n 3, 1) := by decide +kernel
theorem dX6_addFlow_53 : decode cX6_addFlow 53 = .ok (.invokestatic 40, 3) := by decide +kernel
theorem dX6_addFlow_56 : decode cX6_addFlow 56 = .ok (.lconst 0, 1) := by decide +kernel
theorem dX6_addFlow_57 : decode cX6_addFlow 57 = .ok (.lastore, 1) := by decide +kernel
theorem dX6_addFlow_58 : decode cX6_addFlow 58 = .ok (.iinc 3 1, 3) := by decide +kernel
theorem dX6_addFlow_61 : decode cX6_addFlow 61 = .ok (.goto (-20), 3) := by decide +kernel
theorem dX6_addFlow_64 : decode cX6_addFlow 64 = .ok (.aload_n 0, 1) := by decide +kernel
theorem dX6_addFlow_65 : decode cX6_addFlow 65 = .ok (.getfield 7, 3) := by decide +kernel
theorem dX6_addFlow_68 : decode cX6_addFlow 68 = .ok (.iload_n 2, 1) := by decide +kernel
theorem dX6_addFlow_69 : decode cX6_addFlow 69 = .ok (.iconst 0, 1) := by decide +kernel
theorem dX6_addFlow_70 : decode cX6_addFlow 70 = .ok (.invokestatic 40, 3) := by decide +kernel
theorem dX6_addFlow_73 : decode cX6_addFlow 73 = .ok (.iload_n 1, 1) := by decide +kernel
theorem dX6_addFlow_74 : decode cX6_addFlow 74 = .ok (.i2l, 1) := by decide +kernel
theorem dX6_addFlow_75 : decode cX6_addFlow 75 = .ok (.lastore, 1) := by decide +kernel
theorem dX6_addFlow_76 : decode cX6_addFlow 76 = .ok (.aload_n 0, 1) := by decide +kernel
theorem dX6_addFlow_77 : decode cX6_addFlow 77 = .ok (.getfield 7, 3) := by decide +kernel
theorem dX6_addFlow_80 : decode cX6_addFlow 80 = .ok (.iload_n 2, 1) := by decide +kernel
theorem dX6_addFlow_81 : decode cX6_addFlow 81 = .ok (.iconst 1, 1) := by decide +kernel
theorem dX6_addFlow_82 : decode cX6_addFlow 82 = .ok (.invokestatic 40, 3) := by decide +kernel
theorem dX6_addFlow_85 : decode cX6_addFlow 85 = .ok (.ldc2_w 68, 3) := by decide +kernel
theorem dX6_addFlow_88 : decode cX6_addFlow 88 = .ok (.lastore, 1) := by decide +kernel
theorem dX6_addFlow_89 : decode cX6_addFlow 89 = .ok (.aload_n 0, 1) := by decide +kernel
theorem dX6_addFlow_90 : decode cX6_addFlow 90 = .ok (.getfield 7, 3) := by decide +kernel
theorem dX6_addFlow_93 : decode cX6_addFlow 93 = .ok (.iload_n 2, 1) := by decide +kernel
theorem dX6_addFlow_94 : decode cX6_addFlow 94 = .ok (.iconst 4, 1) := by decide +kernel
theorem dX6_addFlow_95 : decode cX6_addFlow 95 = .ok (.invokestatic 40, 3) := by decide +kernel
theorem dX6_addFlow_98 : decode cX6_addFlow 98 = .ok (.ldc2_w 30, 3) := by decide +kernel
theorem dX6_addFlow_101 : decode cX6_addFlow 101 = .ok (.lastore, 1) := by decide +kernel
theorem dX6_addFlow_102 : decode cX6_addFlow 102 = .ok (.aload_n 0, 1) := by decide +kernel
theorem dX6_addFlow_103 : decode cX6_addFlow 103 = .ok (.getfield 7, 3) := by decide +kernel
theorem dX6_addFlow_106 : decode cX6_addFlow 106 = .ok (.iconst 2, 1) := by decide +kernel
theorem dX6_addFlow_107 : decode cX6_addFlow 107 = .ok (.dup2, 1) := by decide +kernel
theorem dX6_addFlow_108 : decode cX6_addFlow 108 = .ok (.laload, 1) := by decide +kernel
theorem dX6_addFlow_109 : decode cX6_addFlow 109 = .ok (.lconst 1, 1) := by decide +kernel
theorem dX6_addFlow_110 : decode cX6_addFlow 110 = .ok (.ladd, 1) := by decide +kernel
theorem dX6_addFlow_111 : decode cX6_addFlow 111 = .ok (.lastore, 1) := by decide +kernel
theorem dX6_addFlow_112 : decode cX6_addFlow 112 = .ok (.iload_n 2, 1) := by decide +kernel
theorem dX6_addFlow_113 : decode cX6_addFlow 113 = .ok (.ireturn, 1) := by decide +kernel
theorem dX6_isSetting_0 : decode cX6_isSetting 0 = .ok (.iload_n 0, 1) := by decide +kernel
theorem dX6_isSetting_1 : decode cX6_isSetting 1 = .ok (.tableswitch 61 0 3 #[31, 41, 51, 51], 31) := by decide +kernel
theorem dX6_isSetting_32 : decode cX6_isSetting 32 = .ok (.iload_n 1, 1) := by decide +kernel
theorem dX6_isSetting_33 : decode cX6_isSetting 33 = .ok (.i2l, 1) := by decide +kernel
theorem dX6_isSetting_34 : decode cX6_isSetting 34 = .ok (.lconst 1, 1) := by decide +kernel
theorem dX6_isSetting_35 : decode cX6_isSetting 35 = .ok (.ldc2_w 64, 3) := by decide +kernel
theorem dX6_isSetting_38 : decode cX6_isSetting 38 = .ok (.invokestatic 36, 3) := by decide +kernel
theorem dX6_isSetting_41 : decode cX6_isSetting 41 = .ok (.ireturn, 1) := by decide +kernel
theorem dX6_isSetting_42 : decode cX6_isSetting 42 = .ok (.iload_n 1, 1) := by decide +kernel
theorem dX6_isSetting_43 : decode cX6_isSetting 43 = .ok (.i2l, 1) := by decide +kernel
theorem dX6_isSetting_44 : decode cX6_isSetting 44 = .ok (.lconst 1, 1) := by decide +kernel
theorem dX6_isSetting_45 : decode cX6_isSetting 45 = .ok (.ldc2_w 68, 3) := by decide +kernel
theorem dX6_isSetting_48 : decode cX6_isSetting 48 = .ok (.invokestatic 36, 3) := by decide +kernel
theorem dX6_isSetting_51 : decode cX6_isSetting 51 = .ok (.ireturn, 1) := by decide +kernel
theorem dX6_isSetting_52 : decode cX6_isSetting 52 = .ok (.iload_n 1, 1) := by decide +kernel
theorem dX6_isSetting_53 : decode cX6_isSetting 53 = .ok (.i2l, 1) := by decide +kernel
theorem dX6_isSetting_54 : decode cX6_isSetting 54 = .ok (.lconst 0, 1) := by decide +kernel
theorem dX6_isSetting_55 : decode cX6_isSetting 55 = .ok (.ldc2_w 70, 3) := by decide +kernel
theorem dX6_isSetting_58 : decode cX6_isSetting 58 = .ok (.invokestatic 36, 3) := by decide +kernel
theorem dX6_isSetting_61 : decode cX6_isSetting 61 = .ok (.ireturn, 1) := by decide +kernel
theorem dX6_isSetting_62 : decode cX6_isSetting 62 = .ok (.iload_n 0, 1) := by decide +kernel
theorem dX6_isSetting_63 : decode cX6_isSetting 63 = .ok (.iconst 4, 1) := by decide +kernel
theorem dX6_isSetting_64 : decode cX6_isSetting 64 = .ok (.if_icmp .ne 19, 3) := by decide +kernel
theorem dX6_isSetting_67 : decode cX6_isSetting 67 = .ok (.iload_n 1, 1) := by decide +kernel
theorem dX6_isSetting_68 : decode cX6_isSetting 68 = .ok (.i2l, 1) := by decide +kernel
theorem dX6_isSetting_69 : decode cX6_isSetting 69 = .ok (.lconst 0, 1) := by decide +kernel
theorem dX6_isSetting_70 : decode cX6_isSetting 70 = .ok (.ldc2_w 30, 3) := by decide +kernel
theorem dX6_isSetting_73 : decode cX6_isSetting 73 = .ok (.invokestatic 36, 3) := by decide +kernel
theorem dX6_isSetting_76 : decode cX6_isSetting 76 = .ok (.ifCond .eq 7, 3) := by decide +kernel
theorem dX6_isSetting_79 : decode cX6_isSetting 79 = .ok (.iconst 1, 1) := by decide +kernel
theorem dX6_isSetting_80 : decode cX6_isSetting 80 = .ok (.goto 4, 3) := by decide +kernel
theorem dX6_isSetting_83 : decode cX6_isSetting 83 = .ok (.iconst 0, 1) := by decide +kernel
theorem dX6_isSetting_84 : decode cX6_isSetting 84 = .ok (.ireturn, 1) := by decide +kernel
theorem dX6_set_0 : decode cX6_set 0 = .ok (.aload_n 0, 1) := by decide +kernel
theorem dX6_set_1 : decode cX6_set 1 = .ok (.iload_n 1, 1) := by decide +kernel
theorem dX6_set_2 : decode cX6_set 2 = .ok (.invokevirtual 72, 3) := by decide +kernel
theorem dX6_set_5 : decode cX6_set 5 = .ok (.ifCond .ne 5, 3) := by decide +kernel
theorem dX6_set_8 : decode cX6_set 8 = .ok (.iconst (-1), 1) := by decide +kernel
theorem dX6_set_9 : decode cX6_set 9 = .ok (.ireturn, 1) := by decide +kernel
theorem dX6_set_10 : decode cX6_set 10 = .ok (.iload_n 2, 1) := by decide +kernel
theorem dX6_set_11 : decode cX6_set 11 = .ok (.iload_n 3, 1) := by decide +kernel
theorem dX6_set_12 : decode cX6_set 12 = .ok (.invokestatic 75, 3) := by decide +kernel
theorem dX6_set_15 : decode cX6_set 15 = .ok (.ifCond .ne 6, 3) := by decide +kernel
theorem dX6_set_18 : decode cX6_set 18 = .ok (.bipush (-2), 2) := by decide +kernel
theorem dX6_set_20 : decode cX6_set 20 = .ok (.ireturn, 1) := by decide +kernel
theorem dX6_set_21 : decode cX6_set 21 = .ok (.aload_n 0, 1) := by decide +kernel
theorem dX6_set_22 : decode cX6_set 22 = .ok (.iload_n 1, 1) := by decide +kernel
theorem dX6_set_23 : decode cX6_set 23 = .ok (.iload_n 2, 1) := by decide +kernel
theorem dX6_set_24 : decode cX6_set 24 = .ok (.invokevirtual 53, 3) := by decide +kernel
theorem dX6_set_27 : decode cX6_set 27 = .ok (.l2i, 1) := by decide +kernel
theorem dX6_set_28 : decode cX6_set 28 = .ok (.istore 4, 2) := by decide +kernel
theorem dX6_set_30 : decode cX6_set 30 = .ok (.aload_n 0, 1) := by decide +kernel
theorem dX6_set_31 : decode cX6_set 31 = .ok (.getfield 7, 3) := by decide +kernel
theorem dX6_set_34 : decode cX6_set 34 = .ok (.iload_n 1, 1) := by decide +kernel
theorem dX6_set_35 : decode cX6_set 35 = .ok (.iload_n 2, 1) := by decide +kernel
theorem dX6_set_36 : decode cX6_set 36 = .ok (.invokestatic 40, 3) := by decide +kernel
theorem dX6_set_39 : decode cX6_set 39 = .ok (.iload_n 3, 1) := by decide +kernel
theorem dX6_set_40 : decode cX6_set 40 = .ok (.i2l, 1) := by decide +kernel
theorem dX6_set_41 : decode cX6_set 41 = .ok (.lastore, 1) := by decide +kernel
theorem dX6_set_42 : decode cX6_set 42 = .ok (.iload 4, 2) := by decide +kernel
theorem dX6_set_44 : decode cX6_set 44 = .ok (.ireturn, 1) := by decide +kernel
theorem dX6_rule_0 : decode cX6_rule 0 = .ok (.iload_n 1, 1) := by decide +kernel
theorem dX6_rule_1 : decode cX6_rule 1 = .ok (.iconst 3, 1) := by decide +kernel
theorem dX6_rule_2 : decode cX6_rule 2 = .ok (.if_icmp .ne 13, 3) := by decide +kernel
theorem dX6_rule_5 : decode cX6_rule 5 = .ok (.iload_n 2, 1) := by decide +kernel
theorem dX6_rule_6 : decode cX6_rule 6 = .ok (.i2l, 1) := by decide +kernel
theorem dX6_rule_7 : decode cX6_rule 7 = .ok (.lconst 0, 1) := by decide +kernel
theorem dX6_rule_8 : decode cX6_rule 8 = .ok (.lconst 1, 1) := by decide +kernel
theorem dX6_rule_9 : decode cX6_rule 9 = .ok (.invokestatic 36, 3) := by decide +kernel
theorem dX6_rule_12 : decode cX6_rule 12 = .ok (.goto 47, 3) := by decide +kernel
theorem dX6_rule_15 : decode cX6_rule 15 = .ok (.iload_n 1, 1) := by decide +kernel
theorem dX6_rule_16 : decode cX6_rule 16 = .ok (.iconst 2, 1) := by decide +kernel
theorem dX6_rule_17 : decode cX6_rule 17 = .ok (.if_icmp .ne 15, 3) := by decide +kernel
theorem dX6_rule_20 : decode cX6_rule 20 = .ok (.iload_n 2, 1) := by decide +kernel
theorem dX6_rule_21 : decode cX6_rule 21 = .ok (.i2l, 1) := by decide +kernel
theorem dX6_rule_22 : decode cX6_rule 22 = .ok (.lconst 0, 1) := by decide +kernel
theorem dX6_rule_23 : decode cX6_rule 23 = .ok (.ldc2_w 70, 3) := by decide +kernel
theorem dX6_rule_26 : decode cX6_rule 26 = .ok (.invokestatic 36, 3) := by decide +kernel
theorem dX6_rule_29 : decode cX6_rule 29 = .ok (.goto 30, 3) := by decide +kernel
theorem dX6_rule_32 : decode cX6_rule 32 = .ok (.iload_n 1, 1) := by decide +kernel
theorem dX6_rule_33 : decode cX6_rule 33 = .ok (.i2l, 1) := by decide +kernel
theorem dX6_rule_34 : decode cX6_rule 34 = .ok (.lconst 0, 1) := by decide +kernel
theorem dX6_rule_35 : decode cX6_rule 35 = .ok (.lconst 1, 1) := by decide +kernel
theorem dX6_rule_36 : decode cX6_rule 36 = .ok (.invokestatic 36, 3) := by decide +kernel
theorem dX6_rule_39 : decode cX6_rule 39 = .ok (.ifCond .eq 19, 3) := by decide +kernel
theorem dX6_rule_42 : decode cX6_rule 42 = .ok (.iload_n 2, 1) := by decide +kernel
theorem dX6_rule_43 : decode cX6_rule 43 = .ok (.i2l, 1) := by decide +kernel
theorem dX6_rule_44 : decode cX6_rule 44 = .ok (.lconst 0, 1) := by decide +kernel
theorem dX6_rule_45 : decode cX6_rule 45 = .ok (.ldc2_w 79, 3) := by decide +kernel
theorem dX6_rule_48 : decode cX6_rule 48 = .ok (.invokestatic 36, 3) := by decide +kernel
theorem dX6_rule_51 : decode cX6_rule 51 = .ok (.ifCond .eq 7, 3) := by decide +kernel
theorem dX6_rule_54 : decode cX6_rule 54 = .ok (.iconst 1, 1) := by decide +kernel
theorem dX6_rule_55 : decode cX6_rule 55 = .ok (.goto 4, 3) := by decide +kernel
theorem dX6_rule_58 : decode cX6_rule 58 = .ok (.iconst 0, 1) := by decide +kernel
theorem dX6_rule_59 : decode cX6_rule 59 = .ok (.istore_n 3, 1) := by decide +kernel
theorem dX6_rule_60 : decode cX6_rule 60 = .ok (.iload_n 3, 1) := by decide +kernel
theorem dX6_rule_61 : decode cX6_rule 61 = .ok (.ifCond .ne 6, 3) := by decide +kernel
theorem dX6_rule_64 : decode cX6_rule 64 = .ok (.bipush (-2), 2) := by decide +kernel
theorem dX6_rule_66 : decode cX6_rule 66 = .ok (.ireturn, 1) := by decide +kernel
theorem dX6_rule_67 : decode cX6_rule 67 = .ok (.aload_n 0, 1) := by decide +kernel
theorem dX6_rule_68 : decode cX6_rule 68 = .ok (.getfield 7, 3) := by decide +kernel
theorem dX6_rule_71 : decode cX6_rule 71 = .ok (.iconst 3, 1) := by decide +kernel
theorem dX6_rule_72 : decode cX6_rule 72 = .ok (.iload_n 1, 1) := by decide +kernel
theorem dX6_rule_73 : decode cX6_rule 73 = .ok (.iadd, 1) := by decide +kernel
theorem dX6_rule_74 : decode cX6_rule 74 = .ok (.laload, 1) := by decide +kernel
theorem dX6_rule_75 : decode cX6_rule 75 = .ok (.l2i, 1) := by decide +kernel
theorem dX6_rule_76 : decode cX6_rule 76 = .ok (.istore 4, 2) := by decide +kernel
theorem dX6_rule_78 : decode cX6_rule 78 = .ok (.aload_n 0, 1) := by decide +kernel
theorem dX6_rule_79 : decode cX6_rule 79 = .ok (.getfield 7, 3) := by decide +kernel
theorem dX6_rule_82 : decode cX6_rule 82 = .ok (.iconst 3, 1) := by decide +kernel
theorem dX6_rule_83 : decode cX6_rule 83 = .ok (.iload_n 1, 1) := by decide +kernel
theorem dX6_rule_84 : decode cX6_rule 84 = .ok (.iadd, 1) := by decide +kernel
theorem dX6_rule_85 : decode cX6_rule 85 = .ok (.iload_n 2, 1) := by decide +kernel
theorem dX6_rule_86 : decode cX6_rule 86 = .ok (.i2l, 1) := by decide +kernel
theorem dX6_rule_87 : decode cX6_rule 87 = .ok (.lastore, 1) := by decide +kernel
theorem dX6_rule_88 : decode cX6_rule 88 = .ok (.iload 4, 2) := by decide +kernel
theorem dX6_rule_90 : decode cX6_rule 90 = .ok (.ireturn, 1) := by decide +kernel
theorem dX6_hasRoom_0 : decode cX6_hasRoom 0 = .ok (.aload_n 0, 1) := by decide +kernel
theorem dX6_hasRoom_1 : decode cX6_hasRoom 1 = .ok (.getfield 7, 3) := by decide +kernel
theorem dX6_hasRoom_4 : decode cX6_hasRoom 4 = .ok (.bipush 7, 2) := by decide +kernel
theorem dX6_hasRoom_6 : decode cX6_hasRoom 6 = .ok (.laload, 1) := by decide +kernel
theorem dX6_hasRoom_7 : decode cX6_hasRoom 7 = .ok (.l2i, 1) := by decide +kernel
theorem dX6_hasRoom_8 : decode cX6_hasRoom 8 = .ok (.bipush 120, 2) := by decide +kernel
theorem dX6_hasRoom_10 : decode cX6_hasRoom 10 = .ok (.isub, 1) := by decide +kernel
theorem dX6_hasRoom_11 : decode cX6_hasRoom 11 = .ok (.istore_n 2, 1) := by decide +kernel
theorem dX6_hasRoom_12 : decode cX6_hasRoom 12 = .ok (.iload_n 2, 1) := by decide +kernel
theorem dX6_hasRoom_13 : decode cX6_hasRoom 13 = .ok (.ifCond .lt 20, 3) := by decide +kernel
theorem dX6_hasRoom_16 : decode cX6_hasRoom 16 = .ok (.aload_n 0, 1) := by decide +kernel
theorem dX6_hasRoom_17 : decode cX6_hasRoom 17 = .ok (.iload_n 2, 1) := by decide +kernel
theorem dX6_hasRoom_18 : decode cX6_hasRoom 18 = .ok (.iconst 4, 1) := by decide +kernel
theorem dX6_hasRoom_19 : decode cX6_hasRoom 19 = .ok (.invokevirtual 49, 3) := by decide +kernel
theorem dX6_hasRoom_22 : decode cX6_hasRoom 22 = .ok (.ldc2_w 30, 3) := by decide +kernel
theorem dX6_hasRoom_25 : decode cX6_hasRoom 25 = .ok (.lcmp, 1) := by decide +kernel
theorem dX6_hasRoom_26 : decode cX6_hasRoom 26 = .ok (.ifCond .gt 7, 3) := by decide +kernel
theorem dX6_hasRoom_29 : decode cX6_hasRoom 29 = .ok (.iconst 1, 1) := by decide +kernel
theorem dX6_hasRoom_30 : decode cX6_hasRoom 30 = .ok (.goto 4, 3) := by decide +kernel
